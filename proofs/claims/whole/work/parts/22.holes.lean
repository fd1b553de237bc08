/-! holes of a BIT, where it stood -/
abbrev hOK (m : Nat) (H : Nat → Int) (d : Int) : Prop := 0 ≤ d ∧ d ≤ 2000 ∧ m < 6 ∧ (0 < m → H (m - 1) < d)
abbrev SB (P H : Nat → Int) (c m h : Nat) : Prop := 0 ≤ P h - H 0 ∧ (h = 0 ∨ P (h - 1) < P h - H 0) ∧ ∀ i, i < m → h + i < c ∧ P (h + i) = P h - H 0 + H i
theorem x0_addHole {I : Nat → Nat → Int32} {J : Nat → Nat → Int64} {F : Option Value → zM → Prop} {b : Nat} (hb : b < 10) {m : Nat} {d : Int} (bd : 0 ≤ d ∧ d ≤ 2000) (hm : rd I (bI b 0) 12 = m) (hm6 : m ≤ 6) (hn : ¬ hOK m (fun k => rd I (bI b 12) k) d → F (some (.int (iI (-1)))) (gM I J)) (hy : hOK m (fun k => rd I (bI b 12) k) d → F (some (.int (iI ((m : Int) + 1)))) (gM (wr (wr I (bI b 12) m d) (bI b 0) 12 ((m : Int) + 1)) J)) : Cl yX0_addHole kX0_addHole [.ref (bI b 0), .int (iI d)] (gM I J) F := by
  refine cl_s (by decide) (by decide) (Nat.le_of_ble_eq_true rfl) rt_i ?_
  show Wp _ F 0 [(0, .ref (bI b 0)), (1, .int (iI d))] [] _
  refine w_aload_n dX0_addHole_0 rfl ?_
  refine v_getI dX0_addHole_1 fX0_78 (sO_b hb (by decide) rfl) (Or.inl rfl) (fun z1 e1 b1 => ?_)
  have f1 : z1 = m := by rw [e1]; exact hm
  refine v_if_eq 22 dX0_addHole_4 (by decide) (by omega) (fun c4 => ?_) (fun c4 => ?_)
  · refine w_iconst (v := iI 1) dX0_addHole_22 rfl ?_
    refine w_goto 27 dX0_addHole_23 (by decide) ?_
    refine w_istore_n dX0_addHole_27 rfl rfl ?_
    refine w_aload_n dX0_addHole_28 rfl ?_
    refine v_getI dX0_addHole_29 fX0_78 (sO_b hb (by decide) rfl) (Or.inl rfl) (fun z29 e29 b29 => ?_)
    have f29 : z29 = m := by rw [e29]; exact hm
    refine w_bipush (v := iI 6) dX0_addHole_32 (by decide) ?_
    refine v_icmp_ge 41 dX0_addHole_34 (by decide) (by omega) (by omega) (fun c34 => ?_) (fun c34 => ?_)
    · refine w_iconst (v := iI (-1)) dX0_addHole_41 rfl ?_
      refine v_iret dX0_addHole_42 rfl ⟨rfl, rfl⟩ ?_
      refine hn ?_
      rintro ⟨g1, g2, g3, g4⟩
      first | omega | (have g5 := g4 (by omega); dsimp only at g5; omega)
    · refine w_iload_n dX0_addHole_37 rfl ?_
      refine v_if_ne 43 dX0_addHole_38 (by decide) (by decide) (fun _ => ?_) (fun q => absurd q (by decide))
      refine w_aload_n dX0_addHole_43 rfl ?_
      refine v_getR (j := bI b 12) dX0_addHole_44 fX0_39 (sO_b hb (by decide) rfl) rfl (r0_b hb (by decide)) ?_
      refine w_aload_n dX0_addHole_47 rfl ?_
      refine v_getI dX0_addHole_48 fX0_78 (sO_b hb (by decide) rfl) (Or.inl rfl) (fun z48 e48 b48 => ?_)
      have f48 : z48 = m := by rw [e48]; exact hm
      refine w_iload_n dX0_addHole_51 rfl ?_
      refine v_iast dX0_addHole_52 (sA_b hb (by decide) rfl) (by omega) (by omega) (by decide) ?_
      refine w_aload_n dX0_addHole_53 rfl ?_
      refine w_dup dX0_addHole_54 rfl ?_
      refine v_getI dX0_addHole_55 fX0_78 (sO_b hb (by decide) rfl) (Or.inl rfl) (fun z55 e55 b55 => ?_)
      have f55 : z55 = m := by rw [e55, rd_wr_row (by unfold bI; omega)]; exact hm
      refine w_iconst (v := iI 1) dX0_addHole_58 rfl ?_
      refine v_iadd dX0_addHole_59 ?_
      refine v_putI dX0_addHole_60 fX0_78 (sO_b hb (by decide) rfl) rfl (Or.inl rfl) ?_
      refine w_aload_n dX0_addHole_63 rfl ?_
      refine v_getI dX0_addHole_64 fX0_78 (sO_b hb (by decide) rfl) (Or.inl rfl) (fun z64 e64 b64 => ?_)
      have f64 : z64 = z55 + 1 := by rw [e64, rd_wr_eq (by omega) (by omega)]
      refine v_iret dX0_addHole_67 rfl ⟨rfl, rfl⟩ ?_
      rw [f64, f55, show z48.toNat = m by omega]
      refine hy ⟨bd.1, bd.2, by omega, fun g => ?_⟩
      first | omega | (dsimp only; rw [← f18]; omega)
  · refine w_iload_n dX0_addHole_7 rfl ?_
    refine w_aload_n dX0_addHole_8 rfl ?_
    refine v_getR (j := bI b 12) dX0_addHole_9 fX0_39 (sO_b hb (by decide) rfl) rfl (r0_b hb (by decide)) ?_
    refine w_aload_n dX0_addHole_12 rfl ?_
    refine v_getI dX0_addHole_13 fX0_78 (sO_b hb (by decide) rfl) (Or.inl rfl) (fun z13 e13 b13 => ?_)
    have f13 : z13 = m := by rw [e13]; exact hm
    refine w_iconst (v := iI 1) dX0_addHole_16 rfl ?_
    refine v_isub dX0_addHole_17 ?_
    refine v_iald dX0_addHole_18 (sA_b hb (by decide) rfl) (by omega) (by omega) (by decide) (fun z18 e18 b18 => ?_)
    have f18 : z18 = rd I (bI b 12) (m - 1) := by rw [e18]; congr 1; omega
    refine v_icmp_le 26 dX0_addHole_19 (by decide) (by omega) (by omega) (fun c19 => ?_) (fun c19 => ?_)
    · refine w_iconst (v := iI 0) dX0_addHole_26 rfl ?_
      refine w_istore_n dX0_addHole_27 rfl rfl ?_
      refine w_aload_n dX0_addHole_28 rfl ?_
      refine v_getI dX0_addHole_29 fX0_78 (sO_b hb (by decide) rfl) (Or.inl rfl) (fun z29 e29 b29 => ?_)
      have f29 : z29 = m := by rw [e29]; exact hm
      refine w_bipush (v := iI 6) dX0_addHole_32 (by decide) ?_
      refine v_icmp_ge 41 dX0_addHole_34 (by decide) (by omega) (by omega) (fun c34 => ?_) (fun c34 => ?_)
      · refine w_iconst (v := iI (-1)) dX0_addHole_41 rfl ?_
        refine v_iret dX0_addHole_42 rfl ⟨rfl, rfl⟩ ?_
        refine hn ?_
        rintro ⟨g1, g2, g3, g4⟩
        first | omega | (have g5 := g4 (by omega); dsimp only at g5; omega)
      · refine w_iload_n dX0_addHole_37 rfl ?_
        refine v_if_ne 43 dX0_addHole_38 (by decide) (by decide) (fun q => absurd q (by decide)) (fun _ => ?_)
        refine w_iconst (v := iI (-1)) dX0_addHole_41 rfl ?_
        refine v_iret dX0_addHole_42 rfl ⟨rfl, rfl⟩ ?_
        refine hn ?_
        rintro ⟨g1, g2, g3, g4⟩
        first | omega | (have g5 := g4 (by omega); dsimp only at g5; omega)
    · refine w_iconst (v := iI 1) dX0_addHole_22 rfl ?_
      refine w_goto 27 dX0_addHole_23 (by decide) ?_
      refine w_istore_n dX0_addHole_27 rfl rfl ?_
      refine w_aload_n dX0_addHole_28 rfl ?_
      refine v_getI dX0_addHole_29 fX0_78 (sO_b hb (by decide) rfl) (Or.inl rfl) (fun z29 e29 b29 => ?_)
      have f29 : z29 = m := by rw [e29]; exact hm
      refine w_bipush (v := iI 6) dX0_addHole_32 (by decide) ?_
      refine v_icmp_ge 41 dX0_addHole_34 (by decide) (by omega) (by omega) (fun c34 => ?_) (fun c34 => ?_)
      · refine w_iconst (v := iI (-1)) dX0_addHole_41 rfl ?_
        refine v_iret dX0_addHole_42 rfl ⟨rfl, rfl⟩ ?_
        refine hn ?_
        rintro ⟨g1, g2, g3, g4⟩
        first | omega | (have g5 := g4 (by omega); dsimp only at g5; omega)
      · refine w_iload_n dX0_addHole_37 rfl ?_
        refine v_if_ne 43 dX0_addHole_38 (by decide) (by decide) (fun _ => ?_) (fun q => absurd q (by decide))
        refine w_aload_n dX0_addHole_43 rfl ?_
        refine v_getR (j := bI b 12) dX0_addHole_44 fX0_39 (sO_b hb (by decide) rfl) rfl (r0_b hb (by decide)) ?_
        refine w_aload_n dX0_addHole_47 rfl ?_
        refine v_getI dX0_addHole_48 fX0_78 (sO_b hb (by decide) rfl) (Or.inl rfl) (fun z48 e48 b48 => ?_)
        have f48 : z48 = m := by rw [e48]; exact hm
        refine w_iload_n dX0_addHole_51 rfl ?_
        refine v_iast dX0_addHole_52 (sA_b hb (by decide) rfl) (by omega) (by omega) (by decide) ?_
        refine w_aload_n dX0_addHole_53 rfl ?_
        refine w_dup dX0_addHole_54 rfl ?_
        refine v_getI dX0_addHole_55 fX0_78 (sO_b hb (by decide) rfl) (Or.inl rfl) (fun z55 e55 b55 => ?_)
        have f55 : z55 = m := by rw [e55, rd_wr_row (by unfold bI; omega)]; exact hm
        refine w_iconst (v := iI 1) dX0_addHole_58 rfl ?_
        refine v_iadd dX0_addHole_59 ?_
        refine v_putI dX0_addHole_60 fX0_78 (sO_b hb (by decide) rfl) rfl (Or.inl rfl) ?_
        refine w_aload_n dX0_addHole_63 rfl ?_
        refine v_getI dX0_addHole_64 fX0_78 (sO_b hb (by decide) rfl) (Or.inl rfl) (fun z64 e64 b64 => ?_)
        have f64 : z64 = z55 + 1 := by rw [e64, rd_wr_eq (by omega) (by omega)]
        refine v_iret dX0_addHole_67 rfl ⟨rfl, rfl⟩ ?_
        rw [f64, f55, show z48.toNat = m by omega]
        refine hy ⟨bd.1, bd.2, by omega, fun g => ?_⟩
        first | omega | (dsimp only; rw [← f18]; omega)
theorem x11_hole {I : Nat → Nat → Int32} {J : Nat → Nat → Int64} {F : Option Value → zM → Prop} {b d : Int} (bb : -2147483648 ≤ b ∧ b < 2147483648) (bd : -2147483648 ≤ d ∧ d < 2147483648) (hm : ∀ q : Nat, q < 10 → 0 ≤ rd I (bI q 0) 12 ∧ rd I (bI q 0) 12 ≤ 6) (hn : (∀ q m : Nat, b = q → q < 10 → rd I (bI q 0) 4 ≠ 0 → rd I (bI q 0) 12 = m → ¬ hOK m (fun k => rd I (bI q 12) k) d) → F (some (.int (iI (-1)))) (gM I J)) (hy : ∀ q m : Nat, b = q → q < 10 → rd I (bI q 0) 4 ≠ 0 → rd I (bI q 0) 12 = m → hOK m (fun k => rd I (bI q 12) k) d → F (some (.int (iI ((m : Int) + 1)))) (gM (wr (wr I (bI q 12) m d) (bI q 0) 12 ((m : Int) + 1)) J)) : Cl yX11_hole kX11_hole [.ref 0, .int (iI b), .int (iI d)] (gM I J) F := by
  refine cl_s (by decide) (by decide) (Nat.le_of_ble_eq_true rfl) rt_i ?_
  show Wp _ F 0 [(0, .ref 0), (1, .int (iI b)), (2, .int (iI d))] [] _
  refine w_aload_n dX11_hole_0 rfl ?_
  refine w_iload_n dX11_hole_1 rfl ?_
  refine v_callV1 dX11_hole_2 lX11_83 vX11_bitOf (by decide) rfl rfl ⟨by decide, rfl⟩ (by decide) rfl (by decide) ?_
  refine x11_bitOf (by omega) (fun q2 => ?_) (fun q hqe hq hqc => ?_)
  · refine w_astore_nN dX11_hole_5 rfl rfl ?_
    refine w_aload_nN dX11_hole_6 rfl ?_
    refine w_ifnull_n 21 dX11_hole_7 (by decide) ?_
    refine w_iconst (v := iI (-1)) dX11_hole_21 rfl ?_
    refine v_iret dX11_hole_22 rfl ⟨rfl, rfl⟩ ?_
    refine hn (fun q m g1 g2 g3 g4 g5 => ?_)
    first | exact g3 (q2 q g1 g2) | omega
  · refine w_astore_n dX11_hole_5 rfl rfl ?_
    refine w_aload_n dX11_hole_6 rfl ?_
    refine w_ifnull_r dX11_hole_7 ?_
    refine w_iload_n dX11_hole_10 rfl ?_
    refine v_if_lt 21 dX11_hole_11 (by decide) (by omega) (fun c11 => ?_) (fun c11 => ?_)
    · refine w_iconst (v := iI (-1)) dX11_hole_21 rfl ?_
      refine v_iret dX11_hole_22 rfl ⟨rfl, rfl⟩ ?_
      refine hn (fun q m g1 g2 g3 g4 g5 => ?_)
      first | exact g3 (q2 q g1 g2) | omega
    · refine w_iload_n dX11_hole_14 rfl ?_
      refine w_sipush (v := iI 2000) dX11_hole_15 (by decide) ?_
      refine v_icmp_le 23 dX11_hole_18 (by decide) (by omega) (by omega) (fun c18 => ?_) (fun c18 => ?_)
      · refine w_aload_n dX11_hole_23 rfl ?_
        refine w_iload_n dX11_hole_24 rfl ?_
        refine v_callV1 dX11_hole_25 lX11_186 vX0_addHole (by decide) rfl rfl (sO_b hq (by decide) rfl) (by decide) rfl (by decide) ?_
        have hm0 := hm q hq
        refine x0_addHole (m := (rd I (bI q 0) 12).toNat) hq (by omega) (by omega) (by omega) (fun g => ?_) (fun g => ?_)
        · refine v_iret dX11_hole_28 rfl ⟨rfl, rfl⟩ ?_
          first | exact hy q _ hqe hq hqc (by omega) g | (refine hn (fun q' m g1 g2 g3 g4 g5 => g ?_); have g6 : q' = q := (by omega); subst g6; rw [show (rd I (bI q' 0) 12).toNat = m by omega]; exact g5)
        · refine v_iret dX11_hole_28 rfl ⟨rfl, rfl⟩ ?_
          first | exact hy q _ hqe hq hqc (by omega) g | (refine hn (fun q' m g1 g2 g3 g4 g5 => g ?_); have g6 : q' = q := (by omega); subst g6; rw [show (rd I (bI q' 0) 12).toNat = m by omega]; exact g5)
      · refine w_iconst (v := iI (-1)) dX11_hole_21 rfl ?_
        refine v_iret dX11_hole_22 rfl ⟨rfl, rfl⟩ ?_
        refine hn (fun q m g1 g2 g3 g4 g5 => ?_)
        first | exact g3 (q2 q g1 g2) | omega
theorem x12_hole {I : Nat → Nat → Int32} {J : Nat → Nat → Int64} {F : Option Value → zM → Prop} {b d : Int} (bb : -2147483648 ≤ b ∧ b < 2147483648) (bd : -2147483648 ≤ d ∧ d < 2147483648) (hm : ∀ q : Nat, q < 10 → 0 ≤ rd I 180 q ∧ rd I 180 q ≤ 6) (hn : (∀ q m : Nat, b = q → q < 10 → rd I 173 q ≠ 0 → rd I 180 q = m → ¬ hOK m (fun k => rd I 181 (6 * q + k)) d) → F (some (.int (iI (-1)))) (gM I J)) (hy : ∀ q m : Nat, b = q → q < 10 → rd I 173 q ≠ 0 → rd I 180 q = m → hOK m (fun k => rd I 181 (6 * q + k)) d → F (some (.int (iI ((m : Int) + 1)))) (gM (wr (wr I 181 (6 * q + m) d) 180 q ((m : Int) + 1)) J)) : Cl yX12_hole kX12_hole [.ref 171, .int (iI b), .int (iI d)] (gM I J) F := by
  refine cl_s (by decide) (by decide) (Nat.le_of_ble_eq_true rfl) rt_i ?_
  show Wp _ F 0 [(0, .ref 171), (1, .int (iI b)), (2, .int (iI d))] [] _
  refine w_aload_n dX12_hole_0 rfl ?_
  refine w_iload_n dX12_hole_1 rfl ?_
  refine v_callV1 dX12_hole_2 lX12_81 vX12_isBit (by decide) rfl rfl ⟨by decide, rfl⟩ (by decide) rfl (by decide) ?_
  refine x12_isBit (by omega) (fun q2 => ?_) (fun q hqe hq hqc => ?_)
  rotate_left
  · subst hqe
    have hm0 := hm q hq
    obtain ⟨m, hmm⟩ : ∃ m : Nat, rd I 180 q = m := ⟨(rd I 180 q).toNat, by omega⟩
    refine v_if_eq 61 dX12_hole_5 (by decide) (by decide) (fun q => absurd q (by decide)) (fun _ => ?_)
    refine w_iload_n dX12_hole_8 rfl ?_
    refine w_iconst (v := iI 0) dX12_hole_9 rfl ?_
    refine w_sipush (v := iI 2000) dX12_hole_10 (by decide) ?_
    refine v_callS3 dX12_hole_13 lX12_69 vX12_isIn (by decide) rfl rfl (by decide) ?_
    refine x12_isIn (by omega) (by omega) (by omega) (fun q13 => ?_) (fun q13 => ?_)
    · refine v_if_eq 61 dX12_hole_16 (by decide) (by decide) (fun q => absurd q (by decide)) (fun _ => ?_)
      refine w_aload_n dX12_hole_19 rfl ?_
      refine v_getR (j := 180) dX12_hole_20 fX12_35 ⟨by decide, rfl⟩ rfl rfl ?_
      refine w_iload_n dX12_hole_23 rfl ?_
      refine v_iald dX12_hole_24 ⟨by decide, rfl⟩ (by omega) (by omega) (by decide) (fun z24 e24 b24 => ?_)
      have f24 : z24 = m := by rw [e24]; exact hmm
      refine w_bipush (v := iI 6) dX12_hole_25 (by decide) ?_
      refine v_icmp_eq 61 dX12_hole_27 (by decide) (by omega) (by omega) (fun c27 => ?_) (fun c27 => ?_)
      · refine w_iconst (v := iI (-1)) dX12_hole_61 rfl ?_
        refine v_iret dX12_hole_62 rfl ⟨rfl, rfl⟩ ?_
        first | exact hn (fun q m g1 g2 g3 g4 g5 => g3 (q2 q g1 g2)) | (refine hn (fun q' m' g1 g2 g3 g4 g5 => ?_); have g6 : q' = q := (by omega); subst g6; have g7 : m' = m := (by omega); subst g7; obtain ⟨k1, k2, k3, k4⟩ := g5; first | omega | (have k5 := k4 (by omega); dsimp only at k5; omega)) | (refine hn (fun q' m' g1 g2 g3 g4 g5 => ?_); obtain ⟨k1, k2, k3, k4⟩ := g5; omega)
      · refine w_aload_n dX12_hole_30 rfl ?_
        refine v_getR (j := 180) dX12_hole_31 fX12_35 ⟨by decide, rfl⟩ rfl rfl ?_
        refine w_iload_n dX12_hole_34 rfl ?_
        refine v_iald dX12_hole_35 ⟨by decide, rfl⟩ (by omega) (by omega) (by decide) (fun z35 e35 b35 => ?_)
        have f35 : z35 = m := by rw [e35]; exact hmm
        refine v_if_le 63 dX12_hole_36 (by decide) (by omega) (fun c36 => ?_) (fun c36 => ?_)
        · refine w_aload_n dX12_hole_63 rfl ?_
          refine v_getR (j := 181) dX12_hole_64 fX12_38 ⟨by decide, rfl⟩ rfl rfl ?_
          refine w_bipush (v := iI 6) dX12_hole_67 (by decide) ?_
          refine w_iload_n dX12_hole_69 rfl ?_
          refine v_imul dX12_hole_70 ?_
          refine w_aload_n dX12_hole_71 rfl ?_
          refine v_getR (j := 180) dX12_hole_72 fX12_35 ⟨by decide, rfl⟩ rfl rfl ?_
          refine w_iload_n dX12_hole_75 rfl ?_
          refine v_iald dX12_hole_76 ⟨by decide, rfl⟩ (by omega) (by omega) (by decide) (fun z76 e76 b76 => ?_)
          have f76 : z76 = m := by rw [e76]; exact hmm
          refine v_iadd dX12_hole_77 ?_
          refine w_iload_n dX12_hole_78 rfl ?_
          refine v_iast dX12_hole_79 ⟨by decide, rfl⟩ (by omega) (by omega) (by decide) ?_
          refine w_aload_n dX12_hole_80 rfl ?_
          refine v_getR (j := 180) dX12_hole_81 fX12_35 ⟨by decide, rfl⟩ rfl rfl ?_
          refine w_iload_n dX12_hole_84 rfl ?_
          refine w_dup2 dX12_hole_85 rfl rfl ?_
          refine v_iald dX12_hole_86 ⟨by decide, rfl⟩ (by omega) (by omega) (by decide) (fun z86 e86 b86 => ?_)
          have f86 : z86 = m := by rw [e86, rd_wr_row (by decide)]; exact hmm
          refine w_iconst (v := iI 1) dX12_hole_87 rfl ?_
          refine v_iadd dX12_hole_88 ?_
          refine v_iast dX12_hole_89 ⟨by decide, rfl⟩ (by omega) (by omega) (by decide) ?_
          refine w_aload_n dX12_hole_90 rfl ?_
          refine v_getR (j := 180) dX12_hole_91 fX12_35 ⟨by decide, rfl⟩ rfl rfl ?_
          refine w_iload_n dX12_hole_94 rfl ?_
          refine v_iald dX12_hole_95 ⟨by decide, rfl⟩ (by omega) (by omega) (by decide) (fun z95 e95 b95 => ?_)
          have f95 : z95 = z86 + 1 := by rw [e95, rd_wr_eq (by omega) (by omega)]
          refine v_iret dX12_hole_96 rfl ⟨rfl, rfl⟩ ?_
          rw [f95, f86, show (6 * (q : Int) + z76).toNat = 6 * q + m by omega, Int.toNat_natCast]
          refine hy q m rfl hq hqc hmm ⟨by omega, by omega, by omega, fun g => ?_⟩
          first | omega | (dsimp only; rw [← f57]; omega)
        · refine w_iload_n dX12_hole_39 rfl ?_
          refine w_aload_n dX12_hole_40 rfl ?_
          refine v_getR (j := 181) dX12_hole_41 fX12_38 ⟨by decide, rfl⟩ rfl rfl ?_
          refine w_bipush (v := iI 6) dX12_hole_44 (by decide) ?_
          refine w_iload_n dX12_hole_46 rfl ?_
          refine v_imul dX12_hole_47 ?_
          refine w_aload_n dX12_hole_48 rfl ?_
          refine v_getR (j := 180) dX12_hole_49 fX12_35 ⟨by decide, rfl⟩ rfl rfl ?_
          refine w_iload_n dX12_hole_52 rfl ?_
          refine v_iald dX12_hole_53 ⟨by decide, rfl⟩ (by omega) (by omega) (by decide) (fun z53 e53 b53 => ?_)
          have f53 : z53 = m := by rw [e53]; exact hmm
          refine v_iadd dX12_hole_54 ?_
          refine w_iconst (v := iI 1) dX12_hole_55 rfl ?_
          refine v_isub dX12_hole_56 ?_
          refine v_iald dX12_hole_57 ⟨by decide, rfl⟩ (by omega) (by omega) (by decide) (fun z57 e57 b57 => ?_)
          have f57 : z57 = rd I 181 (6 * q + (m - 1)) := by rw [e57]; congr 1; omega
          refine v_icmp_gt 63 dX12_hole_58 (by decide) (by omega) (by omega) (fun c58 => ?_) (fun c58 => ?_)
          · refine w_aload_n dX12_hole_63 rfl ?_
            refine v_getR (j := 181) dX12_hole_64 fX12_38 ⟨by decide, rfl⟩ rfl rfl ?_
            refine w_bipush (v := iI 6) dX12_hole_67 (by decide) ?_
            refine w_iload_n dX12_hole_69 rfl ?_
            refine v_imul dX12_hole_70 ?_
            refine w_aload_n dX12_hole_71 rfl ?_
            refine v_getR (j := 180) dX12_hole_72 fX12_35 ⟨by decide, rfl⟩ rfl rfl ?_
            refine w_iload_n dX12_hole_75 rfl ?_
            refine v_iald dX12_hole_76 ⟨by decide, rfl⟩ (by omega) (by omega) (by decide) (fun z76 e76 b76 => ?_)
            have f76 : z76 = m := by rw [e76]; exact hmm
            refine v_iadd dX12_hole_77 ?_
            refine w_iload_n dX12_hole_78 rfl ?_
            refine v_iast dX12_hole_79 ⟨by decide, rfl⟩ (by omega) (by omega) (by decide) ?_
            refine w_aload_n dX12_hole_80 rfl ?_
            refine v_getR (j := 180) dX12_hole_81 fX12_35 ⟨by decide, rfl⟩ rfl rfl ?_
            refine w_iload_n dX12_hole_84 rfl ?_
            refine w_dup2 dX12_hole_85 rfl rfl ?_
            refine v_iald dX12_hole_86 ⟨by decide, rfl⟩ (by omega) (by omega) (by decide) (fun z86 e86 b86 => ?_)
            have f86 : z86 = m := by rw [e86, rd_wr_row (by decide)]; exact hmm
            refine w_iconst (v := iI 1) dX12_hole_87 rfl ?_
            refine v_iadd dX12_hole_88 ?_
            refine v_iast dX12_hole_89 ⟨by decide, rfl⟩ (by omega) (by omega) (by decide) ?_
            refine w_aload_n dX12_hole_90 rfl ?_
            refine v_getR (j := 180) dX12_hole_91 fX12_35 ⟨by decide, rfl⟩ rfl rfl ?_
            refine w_iload_n dX12_hole_94 rfl ?_
            refine v_iald dX12_hole_95 ⟨by decide, rfl⟩ (by omega) (by omega) (by decide) (fun z95 e95 b95 => ?_)
            have f95 : z95 = z86 + 1 := by rw [e95, rd_wr_eq (by omega) (by omega)]
            refine v_iret dX12_hole_96 rfl ⟨rfl, rfl⟩ ?_
            rw [f95, f86, show (6 * (q : Int) + z76).toNat = 6 * q + m by omega, Int.toNat_natCast]
            refine hy q m rfl hq hqc hmm ⟨by omega, by omega, by omega, fun g => ?_⟩
            first | omega | (dsimp only; rw [← f57]; omega)
          · refine w_iconst (v := iI (-1)) dX12_hole_61 rfl ?_
            refine v_iret dX12_hole_62 rfl ⟨rfl, rfl⟩ ?_
            first | exact hn (fun q m g1 g2 g3 g4 g5 => g3 (q2 q g1 g2)) | (refine hn (fun q' m' g1 g2 g3 g4 g5 => ?_); have g6 : q' = q := (by omega); subst g6; have g7 : m' = m := (by omega); subst g7; obtain ⟨k1, k2, k3, k4⟩ := g5; first | omega | (have k5 := k4 (by omega); dsimp only at k5; omega)) | (refine hn (fun q' m' g1 g2 g3 g4 g5 => ?_); obtain ⟨k1, k2, k3, k4⟩ := g5; omega)
    · refine v_if_eq 61 dX12_hole_16 (by decide) (by decide) (fun _ => ?_) (fun q => absurd q (by decide))
      refine w_iconst (v := iI (-1)) dX12_hole_61 rfl ?_
      refine v_iret dX12_hole_62 rfl ⟨rfl, rfl⟩ ?_
      first | exact hn (fun q m g1 g2 g3 g4 g5 => g3 (q2 q g1 g2)) | (refine hn (fun q' m' g1 g2 g3 g4 g5 => ?_); have g6 : q' = q := (by omega); subst g6; have g7 : m' = m := (by omega); subst g7; obtain ⟨k1, k2, k3, k4⟩ := g5; first | omega | (have k5 := k4 (by omega); dsimp only at k5; omega)) | (refine hn (fun q' m' g1 g2 g3 g4 g5 => ?_); obtain ⟨k1, k2, k3, k4⟩ := g5; omega)
  · refine v_if_eq 61 dX12_hole_5 (by decide) (by decide) (fun _ => ?_) (fun q => absurd q (by decide))
    refine w_iconst (v := iI (-1)) dX12_hole_61 rfl ?_
    refine v_iret dX12_hole_62 rfl ⟨rfl, rfl⟩ ?_
    first | exact hn (fun q m g1 g2 g3 g4 g5 => g3 (q2 q g1 g2)) | (refine hn (fun q' m' g1 g2 g3 g4 g5 => ?_); have g6 : q' = q := (by omega); subst g6; have g7 : m' = m := (by omega); subst g7; obtain ⟨k1, k2, k3, k4⟩ := g5; first | omega | (have k5 := k4 (by omega); dsimp only at k5; omega)) | (refine hn (fun q' m' g1 g2 g3 g4 g5 => ?_); obtain ⟨k1, k2, k3, k4⟩ := g5; omega)
theorem x6_stoodBy_l {I : Nat → Nat → Int32} {J : Nat → Nat → Int64} {F : Option Value → zM → Prop} {b : Nat} (hb : b < 10) {c m : Nat} (hc : rd I 167 1 = c) (hc40 : c ≤ 40) (hP : ∀ k, k < c → 0 ≤ rd I 168 k ∧ rd I 168 k ≤ 1000000) (hm : rd I (bI b 0) 12 = m) (hm1 : 1 ≤ m) (hm6 : m ≤ 6) (hH : ∀ k, k < m → 0 ≤ rd I (bI b 12) k ∧ rd I (bI b 12) k ≤ 2000) {h : Nat} (hh : h < c) (hy : SB (fun k => rd I 168 k) (fun k => rd I (bI b 12) k) c m h → F (some (.int (iI 1))) (gM I J)) (hn : ¬ SB (fun k => rd I 168 k) (fun k => rd I (bI b 12) k) c m h → F (some (.int (iI 0))) (gM I J)) {p : Int} (hp : p = rd I 168 h - rd I (bI b 12) 0) (hp0 : 0 ≤ p) (hp1 : h = 0 ∨ rd I 168 (h - 1) < p) : ∀ (n : Nat) (k : Nat), m - k < n → k ≤ m → (∀ i, i < k → h + i < c ∧ (fun k => rd I 168 k) (h + i) = (fun k => rd I 168 k) h - (fun k => rd I (bI b 12) k) 0 + (fun k => rd I (bI b 12) k) i) → Wp (sE kX6_stoodBy RX6) F 39 [(0, .ref 167), (1, .ref (bI b 0)), (2, .int (iI (h : Int))), (3, .int (iI p)), (4, .int (iI (k : Int)))] [] (gM I J) := by
  intro n
  induction n with
  | zero =>
    intro k hmz hk ha
    exact absurd hmz (Nat.not_lt_zero _)
  | succ n ih =>
    intro k hmz hk ha
    have gh := hP h hh
    have g0 := hH 0 (by omega)
    refine w_iload dX6_stoodBy_39 rfl ?_
    refine w_aload_n dX6_stoodBy_41 rfl ?_
    refine v_getI dX6_stoodBy_42 fX6_24 (sO_b hb (by decide) rfl) (Or.inl rfl) (fun z42 e42 b42 => ?_)
    have f42 : z42 = m := by rw [e42]; exact hm
    refine v_icmp_ge 90 dX6_stoodBy_45 (by decide) (by omega) (by omega) (fun c45 => ?_) (fun c45 => ?_)
    · refine w_iconst (v := iI 1) dX6_stoodBy_90 rfl ?_
      refine v_zret dX6_stoodBy_91 rfl ⟨rfl, rfl⟩ (by decide) ?_
      refine hy ⟨by simp only; omega, by simp only; omega, fun i hi => ha i (by omega)⟩
    · refine w_iload_n dX6_stoodBy_48 rfl ?_
      refine w_iload dX6_stoodBy_49 rfl ?_
      refine v_iadd dX6_stoodBy_51 ?_
      refine w_istore dX6_stoodBy_52 rfl rfl ?_
      refine w_iload dX6_stoodBy_54 rfl ?_
      refine w_aload_n dX6_stoodBy_56 rfl ?_
      refine v_getI dX6_stoodBy_57 fX6_15 ⟨by decide, rfl⟩ (Or.inl rfl) (fun z57 e57 b57 => ?_)
      have f57 : z57 = c := by rw [e57]; exact hc
      refine v_icmp_ge 82 dX6_stoodBy_60 (by decide) (by omega) (by omega) (fun c60 => ?_) (fun c60 => ?_)
      · refine w_iconst (v := iI 0) dX6_stoodBy_82 rfl ?_
        refine v_zret dX6_stoodBy_83 rfl ⟨rfl, rfl⟩ (by decide) ?_
        refine hn (fun g => ?_)
        have g2 := g.2.2 k (by omega)
        simp only at g2
        omega
      · refine w_aload_n dX6_stoodBy_63 rfl ?_
        refine v_getR (j := 168) dX6_stoodBy_64 fX6_9 ⟨by decide, rfl⟩ rfl rfl ?_
        refine w_iload dX6_stoodBy_67 rfl ?_
        refine v_iald dX6_stoodBy_69 ⟨by decide, rfl⟩ (by omega) (by omega) (by decide) (fun z69 e69 b69 => ?_)
        have f69 : z69 = rd I 168 (h + k) := by rw [e69]; congr 1
        have g69 := hP (h + k) (by omega)
        refine w_iload_n dX6_stoodBy_70 rfl ?_
        refine w_aload_n dX6_stoodBy_71 rfl ?_
        refine v_getR (j := bI b 12) dX6_stoodBy_72 fX6_19 (sO_b hb (by decide) rfl) rfl (r0_b hb (by decide)) ?_
        refine w_iload dX6_stoodBy_75 rfl ?_
        refine v_iald dX6_stoodBy_77 (sA_b hb (by decide) rfl) (by omega) (by omega) (by decide) (fun z77 e77 b77 => ?_)
        have f77 : z77 = rd I (bI b 12) k := by rw [e77]; congr 1
        have g77 := hH k (by omega)
        refine v_iadd dX6_stoodBy_78 ?_
        refine v_icmp_eq 84 dX6_stoodBy_79 (by decide) (by omega) (by omega) (fun c79 => ?_) (fun c79 => ?_)
        · refine v_iinc dX6_stoodBy_84 rfl rfl rfl ?_
          refine w_goto 39 dX6_stoodBy_87 (by decide) ?_
          refine w_keep 5 ?_
          refine ih (k + 1) (by omega) (by omega) (fun i hi => ?_)
          rcases Nat.lt_succ_iff_lt_or_eq.mp hi with g | g
          · exact ha i g
          · subst g
            simp only
            omega
        · refine w_iconst (v := iI 0) dX6_stoodBy_82 rfl ?_
          refine v_zret dX6_stoodBy_83 rfl ⟨rfl, rfl⟩ (by decide) ?_
          refine hn (fun g => ?_)
          have g2 := g.2.2 k (by omega)
          simp only at g2
          omega
theorem x6_stoodBy {I : Nat → Nat → Int32} {J : Nat → Nat → Int64} {F : Option Value → zM → Prop} {b : Nat} (hb : b < 10) {c m : Nat} (hc : rd I 167 1 = c) (hc40 : c ≤ 40) (hP : ∀ k, k < c → 0 ≤ rd I 168 k ∧ rd I 168 k ≤ 1000000) (hm : rd I (bI b 0) 12 = m) (hm1 : 1 ≤ m) (hm6 : m ≤ 6) (hH : ∀ k, k < m → 0 ≤ rd I (bI b 12) k ∧ rd I (bI b 12) k ≤ 2000) {h : Nat} (hh : h < c) (hy : SB (fun k => rd I 168 k) (fun k => rd I (bI b 12) k) c m h → F (some (.int (iI 1))) (gM I J)) (hn : ¬ SB (fun k => rd I 168 k) (fun k => rd I (bI b 12) k) c m h → F (some (.int (iI 0))) (gM I J)) : Cl yX6_stoodBy kX6_stoodBy [.ref 167, .ref (bI b 0), .int (iI (h : Int))] (gM I J) F := by
  refine cl_s (by decide) (by decide) (Nat.le_of_ble_eq_true rfl) rt_z ?_
  show Wp _ F 0 [(0, .ref 167), (1, .ref (bI b 0)), (2, .int (iI (h : Int)))] [] _
  refine w_aload_n dX6_stoodBy_0 rfl ?_
  refine v_getR (j := 168) dX6_stoodBy_1 fX6_9 ⟨by decide, rfl⟩ rfl rfl ?_
  refine w_iload_n dX6_stoodBy_4 rfl ?_
  refine v_iald dX6_stoodBy_5 ⟨by decide, rfl⟩ (by omega) (by omega) (by decide) (fun z5 e5 b5 => ?_)
  have f5 : z5 = rd I 168 h := by rw [e5]; congr 1
  have g5 := hP h hh
  refine w_aload_n dX6_stoodBy_6 rfl ?_
  refine v_getR (j := bI b 12) dX6_stoodBy_7 fX6_19 (sO_b hb (by decide) rfl) rfl (r0_b hb (by decide)) ?_
  refine w_iconst (v := iI 0) dX6_stoodBy_10 rfl ?_
  refine v_iald dX6_stoodBy_11 (sA_b hb (by decide) rfl) (by omega) (by omega) (by decide) (fun z11 e11 b11 => ?_)
  have f11 : z11 = rd I (bI b 12) 0 := by rw [e11]; rfl
  have g11 := hH 0 (by omega)
  refine v_isub dX6_stoodBy_12 ?_
  refine w_istore_n dX6_stoodBy_13 rfl rfl ?_
  refine w_iload_n dX6_stoodBy_14 rfl ?_
  refine v_if_lt 34 dX6_stoodBy_15 (by decide) (by omega) (fun c15 => ?_) (fun c15 => ?_)
  · refine w_iconst (v := iI 0) dX6_stoodBy_34 rfl ?_
    refine v_zret dX6_stoodBy_35 rfl ⟨rfl, rfl⟩ (by decide) ?_
    refine hn (fun g => ?_)
    have g1 := g.1
    have g2 := g.2.1
    simp only at g1 g2
    omega
  · refine w_iload_n dX6_stoodBy_18 rfl ?_
    refine v_if_le 36 dX6_stoodBy_19 (by decide) (by omega) (fun c19 => ?_) (fun c19 => ?_)
    · refine w_iconst (v := iI 0) dX6_stoodBy_36 rfl ?_
      refine w_istore dX6_stoodBy_37 rfl rfl ?_
      exact x6_stoodBy_l hb hc hc40 hP hm hm1 hm6 hH hh hy hn (by omega) (by omega) (by omega) (m + 1) 0 (by omega) (by omega) (fun i hi => by omega)
    · refine w_aload_n dX6_stoodBy_22 rfl ?_
      refine v_getR (j := 168) dX6_stoodBy_23 fX6_9 ⟨by decide, rfl⟩ rfl rfl ?_
      refine w_iload_n dX6_stoodBy_26 rfl ?_
      refine w_iconst (v := iI 1) dX6_stoodBy_27 rfl ?_
      refine v_isub dX6_stoodBy_28 ?_
      refine v_iald dX6_stoodBy_29 ⟨by decide, rfl⟩ (by omega) (by omega) (by decide) (fun z29 e29 b29 => ?_)
      have f29 : z29 = rd I 168 (h - 1) := by rw [e29]; congr 1; omega
      have g29 := hP (h - 1) (by omega)
      refine w_iload_n dX6_stoodBy_30 rfl ?_
      refine v_icmp_lt 36 dX6_stoodBy_31 (by decide) (by omega) (by omega) (fun c31 => ?_) (fun c31 => ?_)
      · refine w_iconst (v := iI 0) dX6_stoodBy_36 rfl ?_
        refine w_istore dX6_stoodBy_37 rfl rfl ?_
        exact x6_stoodBy_l hb hc hc40 hP hm hm1 hm6 hH hh hy hn (by omega) (by omega) (by omega) (m + 1) 0 (by omega) (by omega) (fun i hi => by omega)
      · refine w_iconst (v := iI 0) dX6_stoodBy_34 rfl ?_
        refine v_zret dX6_stoodBy_35 rfl ⟨rfl, rfl⟩ (by decide) ?_
        refine hn (fun g => ?_)
        have g1 := g.1
        have g2 := g.2.1
        simp only at g1 g2
        omega
theorem x6_countPlaces_l {I : Nat → Nat → Int32} {J : Nat → Nat → Int64} {F : Option Value → zM → Prop} {b : Nat} (hb : b < 10) {c m : Nat} (hc : rd I 167 1 = c) (hc40 : c ≤ 40) (hP : ∀ k, k < c → 0 ≤ rd I 168 k ∧ rd I 168 k ≤ 1000000) (hm : rd I (bI b 0) 12 = m) (hm1 : 1 ≤ m) (hm6 : m ≤ 6) (hH : ∀ k, k < m → 0 ≤ rd I (bI b 12) k ∧ rd I (bI b 12) k ≤ 2000) (hy : F (some (.int (iI (cn (fun h => decide (SB (fun k => rd I 168 k) (fun k => rd I (bI b 12) k) c m h)) c)))) (gM I J)) : ∀ (n : Nat) (k : Nat) (a : Int), c - k < n → k ≤ c → a = cn (fun h => decide (SB (fun k => rd I 168 k) (fun k => rd I (bI b 12) k) c m h)) k → Wp (sE kX6_countPlaces RX6) F 4 [(0, .ref 167), (1, .ref (bI b 0)), (2, .int (iI a)), (3, .int (iI (k : Int)))] [] (gM I J) := by
  intro n
  induction n with
  | zero =>
    intro k a hmz hk ha
    exact absurd hmz (Nat.not_lt_zero _)
  | succ n ih =>
    intro k a hmz hk ha
    refine w_iload_n dX6_countPlaces_4 rfl ?_
    refine w_aload_n dX6_countPlaces_5 rfl ?_
    refine v_getI dX6_countPlaces_6 fX6_15 ⟨by decide, rfl⟩ (Or.inl rfl) (fun z6 e6 b6 => ?_)
    have f6 : z6 = c := by rw [e6]; exact hc
    refine v_icmp_ge 30 dX6_countPlaces_9 (by decide) (by omega) (by omega) (fun c9 => ?_) (fun c9 => ?_)
    · refine w_iload_n dX6_countPlaces_30 rfl ?_
      refine v_iret dX6_countPlaces_31 rfl ⟨rfl, rfl⟩ ?_
      have g : k = c := by omega
      subst g
      rw [ha]
      exact hy
    · refine w_aload_n dX6_countPlaces_12 rfl ?_
      refine w_aload_n dX6_countPlaces_13 rfl ?_
      refine w_iload_n dX6_countPlaces_14 rfl ?_
      refine v_callV2 dX6_countPlaces_15 lX6_27 vX6_stoodBy (by decide) rfl rfl ⟨by decide, rfl⟩ (by decide) rfl (by decide) ?_
      refine x6_stoodBy (h := k) hb hc hc40 hP hm hm1 hm6 hH (by omega) (fun q15 => ?_) (fun q15 => ?_)
      · refine v_if_eq 24 dX6_countPlaces_18 (by decide) (by decide) (fun q => absurd q (by decide)) (fun _ => ?_)
        refine v_iinc dX6_countPlaces_21 rfl rfl rfl ?_
        refine v_iinc dX6_countPlaces_24 rfl rfl rfl ?_
        refine w_goto 4 dX6_countPlaces_27 (by decide) ?_
        refine ih (k + 1) _ (by omega) (by omega) ?_
        rw [cn, ← ha]
        first | (rw [if_pos (decide_eq_true q15)]; done) | (rw [if_neg (fun g => q15 (of_decide_eq_true g))]; omega)
      · refine v_if_eq 24 dX6_countPlaces_18 (by decide) (by decide) (fun _ => ?_) (fun q => absurd q (by decide))
        refine v_iinc dX6_countPlaces_24 rfl rfl rfl ?_
        refine w_goto 4 dX6_countPlaces_27 (by decide) ?_
        refine ih (k + 1) _ (by omega) (by omega) ?_
        rw [cn, ← ha]
        first | (rw [if_pos (decide_eq_true q15)]; done) | (rw [if_neg (fun g => q15 (of_decide_eq_true g))]; omega)
theorem x6_countPlaces {I : Nat → Nat → Int32} {J : Nat → Nat → Int64} {F : Option Value → zM → Prop} {b : Nat} (hb : b < 10) {c m : Nat} (hc : rd I 167 1 = c) (hc40 : c ≤ 40) (hP : ∀ k, k < c → 0 ≤ rd I 168 k ∧ rd I 168 k ≤ 1000000) (hm : rd I (bI b 0) 12 = m) (hm1 : 1 ≤ m) (hm6 : m ≤ 6) (hH : ∀ k, k < m → 0 ≤ rd I (bI b 12) k ∧ rd I (bI b 12) k ≤ 2000) (hy : F (some (.int (iI (cn (fun h => decide (SB (fun k => rd I 168 k) (fun k => rd I (bI b 12) k) c m h)) c)))) (gM I J)) : Cl yX6_countPlaces kX6_countPlaces [.ref 167, .ref (bI b 0)] (gM I J) F := by
  refine cl_s (by decide) (by decide) (Nat.le_of_ble_eq_true rfl) rt_i ?_
  show Wp _ F 0 [(0, .ref 167), (1, .ref (bI b 0))] [] _
  refine w_iconst (v := iI 0) dX6_countPlaces_0 rfl ?_
  refine w_istore_n dX6_countPlaces_1 rfl rfl ?_
  refine w_iconst (v := iI 0) dX6_countPlaces_2 rfl ?_
  refine w_istore_n dX6_countPlaces_3 rfl rfl ?_
  exact x6_countPlaces_l hb hc hc40 hP hm hm1 hm6 hH hy (c + 1) 0 0 (by omega) (by omega) rfl
theorem x6_placeOf_l {I : Nat → Nat → Int32} {J : Nat → Nat → Int64} {F : Option Value → zM → Prop} {b : Nat} (hb : b < 10) {c m : Nat} (hc : rd I 167 1 = c) (hc40 : c ≤ 40) (hP : ∀ k, k < c → 0 ≤ rd I 168 k ∧ rd I 168 k ≤ 1000000) (hm : rd I (bI b 0) 12 = m) (hm1 : 1 ≤ m) (hm6 : m ≤ 6) (hH : ∀ k, k < m → 0 ≤ rd I (bI b 12) k ∧ rd I (bI b 12) k ≤ 2000) {t : Int} (bt : -2147483648 ≤ t ∧ t < 2147483648) (hy : F (some (.int (iI (kf (fun h => decide (SB (fun k => rd I 168 k) (fun k => rd I (bI b 12) k) c m h)) (fun h => rd I 168 h - rd I (bI b 12) 0) t (-1) c)))) (gM I J)) : ∀ (n : Nat) (k : Nat) (a : Int), c - k < n → k ≤ c → a = cn (fun h => decide (SB (fun k => rd I 168 k) (fun k => rd I (bI b 12) k) c m h)) k → (∀ j, j < k → (fun h => decide (SB (fun k => rd I 168 k) (fun k => rd I (bI b 12) k) c m h)) j = true → cn (fun h => decide (SB (fun k => rd I 168 k) (fun k => rd I (bI b 12) k) c m h)) j ≠ t) → Wp (sE kX6_placeOf RX6) F 5 [(0, .ref 167), (1, .ref (bI b 0)), (2, .int (iI t)), (3, .int (iI a)), (4, .int (iI (k : Int)))] [] (gM I J) := by
  intro n
  induction n with
  | zero =>
    intro k a hmz hk ha hno
    exact absurd hmz (Nat.not_lt_zero _)
  | succ n ih =>
    intro k a hmz hk ha hno
    refine w_iload dX6_placeOf_5 rfl ?_
    refine w_aload_n dX6_placeOf_7 rfl ?_
    refine v_getI dX6_placeOf_8 fX6_15 ⟨by decide, rfl⟩ (Or.inl rfl) (fun z8 e8 b8 => ?_)
    have f8 : z8 = c := by rw [e8]; exact hc
    have b26 := cn_bd (fun h => decide (SB (fun k => rd I 168 k) (fun k => rd I (bI b 12) k) c m h)) k
    refine v_icmp_ge 53 dX6_placeOf_11 (by decide) (by omega) (by omega) (fun c11 => ?_) (fun c11 => ?_)
    · refine w_iconst (v := iI (-1)) dX6_placeOf_53 rfl ?_
      refine v_iret dX6_placeOf_54 rfl ⟨rfl, rfl⟩ ?_
      have g : k = c := by omega
      subst g
      rw [kf_none hno] at hy
      exact hy
    · refine w_aload_n dX6_placeOf_14 rfl ?_
      refine w_aload_n dX6_placeOf_15 rfl ?_
      refine w_iload dX6_placeOf_16 rfl ?_
      refine v_callV2 dX6_placeOf_18 lX6_27 vX6_stoodBy (by decide) rfl rfl ⟨by decide, rfl⟩ (by decide) rfl (by decide) ?_
      refine x6_stoodBy (h := k) hb hc hc40 hP hm hm1 hm6 hH (by omega) (fun q18 => ?_) (fun q18 => ?_)
      · refine v_if_eq 47 dX6_placeOf_21 (by decide) (by decide) (fun q => absurd q (by decide)) (fun _ => ?_)
        refine w_iload_n dX6_placeOf_24 rfl ?_
        refine w_iload_n dX6_placeOf_25 rfl ?_
        refine v_icmp_ne 44 dX6_placeOf_26 (by decide) (by omega) (by omega) (fun c26 => ?_) (fun c26 => ?_)
        · refine v_iinc dX6_placeOf_44 rfl rfl rfl ?_
          refine v_iinc dX6_placeOf_47 rfl rfl rfl ?_
          refine w_goto 5 dX6_placeOf_50 (by decide) ?_
          refine ih (k + 1) _ (by omega) (by omega) ?_ (fun j hj gj => ?_)
          · rw [cn, ← ha]
            first | (rw [if_pos (decide_eq_true q18)]; done) | (rw [if_neg (fun g => q18 (of_decide_eq_true g))]; omega)
          · rcases Nat.lt_succ_iff_lt_or_eq.mp hj with g | g
            · exact hno j g gj
            · subst g
              first | exact absurd (of_decide_eq_true gj) q18 | (rw [← ha]; omega)
        · refine w_aload_n dX6_placeOf_29 rfl ?_
          refine v_getR (j := 168) dX6_placeOf_30 fX6_9 ⟨by decide, rfl⟩ rfl rfl ?_
          refine w_iload dX6_placeOf_33 rfl ?_
          refine v_iald dX6_placeOf_35 ⟨by decide, rfl⟩ (by omega) (by omega) (by decide) (fun z35 e35 b35 => ?_)
          have f35 : z35 = rd I 168 k := by rw [e35]; congr 1
          refine w_aload_n dX6_placeOf_36 rfl ?_
          refine v_getR (j := bI b 12) dX6_placeOf_37 fX6_19 (sO_b hb (by decide) rfl) rfl (r0_b hb (by decide)) ?_
          refine w_iconst (v := iI 0) dX6_placeOf_40 rfl ?_
          refine v_iald dX6_placeOf_41 (sA_b hb (by decide) rfl) (by omega) (by omega) (by decide) (fun z41 e41 b41 => ?_)
          have f41 : z41 = rd I (bI b 12) 0 := by rw [e41]; rfl
          refine v_isub dX6_placeOf_42 ?_
          refine v_iret dX6_placeOf_43 rfl ⟨rfl, rfl⟩ ?_
          rw [f35, f41]
          rw [kf_at (h := k) (decide_eq_true q18) (by rw [← ha]; omega) (by omega)] at hy
          exact hy
      · refine v_if_eq 47 dX6_placeOf_21 (by decide) (by decide) (fun _ => ?_) (fun q => absurd q (by decide))
        refine v_iinc dX6_placeOf_47 rfl rfl rfl ?_
        refine w_goto 5 dX6_placeOf_50 (by decide) ?_
        refine ih (k + 1) _ (by omega) (by omega) ?_ (fun j hj gj => ?_)
        · rw [cn, ← ha]
          first | (rw [if_pos (decide_eq_true q18)]; done) | (rw [if_neg (fun g => q18 (of_decide_eq_true g))]; omega)
        · rcases Nat.lt_succ_iff_lt_or_eq.mp hj with g | g
          · exact hno j g gj
          · subst g
            first | exact absurd (of_decide_eq_true gj) q18 | (rw [← ha]; omega)
theorem x6_placeOf {I : Nat → Nat → Int32} {J : Nat → Nat → Int64} {F : Option Value → zM → Prop} {b : Nat} (hb : b < 10) {c m : Nat} (hc : rd I 167 1 = c) (hc40 : c ≤ 40) (hP : ∀ k, k < c → 0 ≤ rd I 168 k ∧ rd I 168 k ≤ 1000000) (hm : rd I (bI b 0) 12 = m) (hm1 : 1 ≤ m) (hm6 : m ≤ 6) (hH : ∀ k, k < m → 0 ≤ rd I (bI b 12) k ∧ rd I (bI b 12) k ≤ 2000) {t : Int} (bt : -2147483648 ≤ t ∧ t < 2147483648) (hy : F (some (.int (iI (kf (fun h => decide (SB (fun k => rd I 168 k) (fun k => rd I (bI b 12) k) c m h)) (fun h => rd I 168 h - rd I (bI b 12) 0) t (-1) c)))) (gM I J)) : Cl yX6_placeOf kX6_placeOf [.ref 167, .ref (bI b 0), .int (iI t)] (gM I J) F := by
  refine cl_s (by decide) (by decide) (Nat.le_of_ble_eq_true rfl) rt_i ?_
  show Wp _ F 0 [(0, .ref 167), (1, .ref (bI b 0)), (2, .int (iI t))] [] _
  refine w_iconst (v := iI 0) dX6_placeOf_0 rfl ?_
  refine w_istore_n dX6_placeOf_1 rfl rfl ?_
  refine w_iconst (v := iI 0) dX6_placeOf_2 rfl ?_
  refine w_istore dX6_placeOf_3 rfl rfl ?_
  exact x6_placeOf_l hb hc hc40 hP hm hm1 hm6 hH bt hy (c + 1) 0 0 (by omega) (by omega) rfl (fun j hj => by omega)
