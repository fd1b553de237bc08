/-! calls of the class on THE SHEET -/
theorem x11_sheet {I : Nat → Nat → Int32} {J : Nat → Nat → Int64} {F : Option Value → zM → Prop} {r c : Int} (br : -2147483648 ≤ r ∧ r < 2147483648) (bc : -2147483648 ≤ c ∧ c < 2147483648) (hn : ¬ inS r c → F (some (.int (iI (-1)))) (gM I J)) (hy : inS r c → F (some (.int (iI (sgAt I r c)))) (gM I J)) : Cl yX11_sheet kX11_sheet [.ref 0, .int (iI r), .int (iI c)] (gM I J) F := by
  refine cl_s (by decide) (by decide) (Nat.le_of_ble_eq_true rfl) rt_i ?_
  show Wp _ F 0 [(0, .ref 0), (1, .int (iI r)), (2, .int (iI c))] [] _
  refine w_iload_n dX11_sheet_0 rfl ?_
  refine w_iload_n dX11_sheet_1 rfl ?_
  refine v_callS2 dX11_sheet_2 lX11_138 vX8_isInside (by decide) rfl rfl (Nat.le_of_ble_eq_true rfl) ?_
  refine x8_isInside (by omega) (by omega) (fun q2 => ?_) (fun q2 => ?_)
  · refine v_if_eq 20 dX11_sheet_5 (by decide) (by decide) (fun q => absurd q (by decide)) (fun _ => ?_)
    refine w_aload_n dX11_sheet_8 rfl ?_
    refine v_getR (j := 142) dX11_sheet_9 fX11_35 ⟨by decide, rfl⟩ rfl rfl ?_
    refine w_iload_n dX11_sheet_12 rfl ?_
    refine w_iload_n dX11_sheet_13 rfl ?_
    refine v_callV2 dX11_sheet_14 lX11_142 vX8_signAt (by decide) rfl rfl ⟨by decide, rfl⟩ (by decide) rfl (Nat.le_of_ble_eq_true rfl) ?_
    refine x8_signAt (by omega) (by omega) (fun z14 e14 b14 => ?_)
    refine w_goto 21 dX11_sheet_17 (by decide) ?_
    refine v_iret dX11_sheet_21 rfl ⟨rfl, rfl⟩ ?_
    first | exact hn q2 | (rw [e14]; exact hy q2)
  · refine v_if_eq 20 dX11_sheet_5 (by decide) (by decide) (fun _ => ?_) (fun q => absurd q (by decide))
    refine w_iconst (v := iI (-1)) dX11_sheet_20 rfl ?_
    refine v_iret dX11_sheet_21 rfl ⟨rfl, rfl⟩ ?_
    first | exact hn q2 | (rw [e14]; exact hy q2)
theorem x11_whose {I : Nat → Nat → Int32} {J : Nat → Nat → Int64} {F : Option Value → zM → Prop} {r c : Int} (br : -2147483648 ≤ r ∧ r < 2147483648) (bc : -2147483648 ≤ c ∧ c < 2147483648) (hy : F (some (.int (iI (owAt I r c)))) (gM I J)) : Cl yX11_whose kX11_whose [.ref 0, .int (iI r), .int (iI c)] (gM I J) F := by
  refine cl_s (by decide) (by decide) (Nat.le_of_ble_eq_true rfl) rt_i ?_
  show Wp _ F 0 [(0, .ref 0), (1, .int (iI r)), (2, .int (iI c))] [] _
  refine w_aload_n dX11_whose_0 rfl ?_
  refine v_getR (j := 142) dX11_whose_1 fX11_35 ⟨by decide, rfl⟩ rfl rfl ?_
  refine w_iload_n dX11_whose_4 rfl ?_
  refine w_iload_n dX11_whose_5 rfl ?_
  refine v_callV2 dX11_whose_6 lX11_146 vX8_ownerAt (by decide) rfl rfl ⟨by decide, rfl⟩ (by decide) rfl (Nat.le_of_ble_eq_true rfl) ?_
  refine x8_ownerAt (by omega) (by omega) (fun z6 e6 b6 => ?_)
  refine v_iret dX11_whose_9 rfl ⟨rfl, rfl⟩ ?_
  rw [e6]; exact hy
theorem x11_place {I : Nat → Nat → Int32} {J : Nat → Nat → Int64} {F : Option Value → zM → Prop} {b k : Int} (bb : -2147483648 ≤ b ∧ b < 2147483648) (bk : -2147483648 ≤ k ∧ k < 2147483648) (hn : (∀ q : Nat, b = q → q < 10 → rd I (bI q 0) 4 ≠ 0 → rd I (bI q 0) 13 ≠ 0 → ¬ (k = 0 ∨ k = 1)) → F (some (.int (iI (-1)))) (gM I J)) (h0 : ∀ q : Nat, b = q → q < 10 → rd I (bI q 0) 4 ≠ 0 → rd I (bI q 0) 13 ≠ 0 → k = 0 → F (some (.int (iI (rd I (bI q 0) 14)))) (gM I J)) (h1 : ∀ q : Nat, b = q → q < 10 → rd I (bI q 0) 4 ≠ 0 → rd I (bI q 0) 13 ≠ 0 → k = 1 → F (some (.int (iI (rd I (bI q 0) 15)))) (gM I J)) : Cl yX11_place kX11_place [.ref 0, .int (iI b), .int (iI k)] (gM I J) F := by
  refine cl_s (by decide) (by decide) (Nat.le_of_ble_eq_true rfl) rt_i ?_
  show Wp _ F 0 [(0, .ref 0), (1, .int (iI b)), (2, .int (iI k))] [] _
  refine w_aload_n dX11_place_0 rfl ?_
  refine w_iload_n dX11_place_1 rfl ?_
  refine v_callV1 dX11_place_2 lX11_83 vX11_bitOf (by decide) rfl rfl ⟨by decide, rfl⟩ (by decide) rfl (Nat.le_of_ble_eq_true rfl) ?_
  refine x11_bitOf (by omega) (fun q2 => ?_) (fun q hqe hq hqc => ?_)
  · refine w_astore_nN dX11_place_5 rfl rfl ?_
    refine w_aload_nN dX11_place_6 rfl ?_
    refine w_ifnull_n 26 dX11_place_7 (by decide) ?_
    refine w_iconst (v := iI (-1)) dX11_place_26 rfl ?_
    refine v_iret dX11_place_27 rfl ⟨rfl, rfl⟩ ?_
    refine hn (fun q' g1 g2 g3 g4 => ?_)
    first | exact absurd (q2 q' g1 g2) g3 | (have g6 : q' = q := (by omega); subst g6; rw [← e11] at g4; omega)
  · refine w_astore_n dX11_place_5 rfl rfl ?_
    refine w_aload_n dX11_place_6 rfl ?_
    refine w_ifnull_r dX11_place_7 ?_
    refine w_aload_n dX11_place_10 rfl ?_
    refine v_getI dX11_place_11 fX11_71 (sO_b hq (by decide) rfl) (Or.inr rfl) (fun z11 e11 b11 => ?_)
    refine v_if_eq 26 dX11_place_14 (by decide) (by omega) (fun c14 => ?_) (fun c14 => ?_)
    · refine w_iconst (v := iI (-1)) dX11_place_26 rfl ?_
      refine v_iret dX11_place_27 rfl ⟨rfl, rfl⟩ ?_
      refine hn (fun q' g1 g2 g3 g4 => ?_)
      first | exact absurd (q2 q' g1 g2) g3 | (have g6 : q' = q := (by omega); subst g6; rw [← e11] at g4; omega)
    · refine w_iload_n dX11_place_17 rfl ?_
      refine v_if_lt 26 dX11_place_18 (by decide) (by omega) (fun c18 => ?_) (fun c18 => ?_)
      · refine w_iconst (v := iI (-1)) dX11_place_26 rfl ?_
        refine v_iret dX11_place_27 rfl ⟨rfl, rfl⟩ ?_
        refine hn (fun q' g1 g2 g3 g4 => ?_)
        first | exact absurd (q2 q' g1 g2) g3 | (have g6 : q' = q := (by omega); subst g6; rw [← e11] at g4; omega)
      · refine w_iload_n dX11_place_21 rfl ?_
        refine w_iconst (v := iI 1) dX11_place_22 rfl ?_
        refine v_icmp_le 28 dX11_place_23 (by decide) (by omega) (by omega) (fun c23 => ?_) (fun c23 => ?_)
        · refine w_iload_n dX11_place_28 rfl ?_
          refine v_if_ne 39 dX11_place_29 (by decide) (by omega) (fun c29 => ?_) (fun c29 => ?_)
          · refine w_aload_n dX11_place_39 rfl ?_
            refine v_getI dX11_place_40 fX11_135 (sO_b hq (by decide) rfl) (Or.inl rfl) (fun z40 e40 b40 => ?_)
            refine v_iret dX11_place_43 rfl ⟨rfl, rfl⟩ ?_
            first
              | (rw [e33]; exact h0 q hqe hq hqc (by rw [← e11]; omega) (by omega))
              | (rw [e40]; exact h1 q hqe hq hqc (by rw [← e11]; omega) (by omega))
          · refine w_aload_n dX11_place_32 rfl ?_
            refine v_getI dX11_place_33 fX11_132 (sO_b hq (by decide) rfl) (Or.inl rfl) (fun z33 e33 b33 => ?_)
            refine w_goto 43 dX11_place_36 (by decide) ?_
            refine v_iret dX11_place_43 rfl ⟨rfl, rfl⟩ ?_
            first
              | (rw [e33]; exact h0 q hqe hq hqc (by rw [← e11]; omega) (by omega))
              | (rw [e40]; exact h1 q hqe hq hqc (by rw [← e11]; omega) (by omega))
        · refine w_iconst (v := iI (-1)) dX11_place_26 rfl ?_
          refine v_iret dX11_place_27 rfl ⟨rfl, rfl⟩ ?_
          refine hn (fun q' g1 g2 g3 g4 => ?_)
          first | exact absurd (q2 q' g1 g2) g3 | (have g6 : q' = q := (by omega); subst g6; rw [← e11] at g4; omega)
theorem x11_looseBit {I : Nat → Nat → Int32} {J : Nat → Nat → Int64} {F : Option Value → zM → Prop} {b : Int} (bb : -2147483648 ≤ b ∧ b < 2147483648) (hn : (∀ q : Nat, b = q → q < 10 → rd I (bI q 0) 4 ≠ 0 → rd I (bI q 0) 13 = 0 → rd I 142 4 = 0) → F (some .null) (gM I J)) (hy : ∀ q : Nat, b = q → q < 10 → rd I (bI q 0) 4 ≠ 0 → rd I (bI q 0) 13 = 0 → rd I 142 4 ≠ 0 → F (some (.ref (bI q 0))) (gM I J)) : Cl yX11_looseBit kX11_looseBit [.ref 0, .int (iI b)] (gM I J) F := by
  refine cl_s (by decide) (by decide) (Nat.le_of_ble_eq_true rfl) (rt_o _) ?_
  show Wp _ F 0 [(0, .ref 0), (1, .int (iI b))] [] _
  refine w_aload_n dX11_looseBit_0 rfl ?_
  refine w_iload_n dX11_looseBit_1 rfl ?_
  refine v_callV1 dX11_looseBit_2 lX11_83 vX11_bitOf (by decide) rfl rfl ⟨by decide, rfl⟩ (by decide) rfl (Nat.le_of_ble_eq_true rfl) ?_
  refine x11_bitOf (by omega) (fun q2 => ?_) (fun q hqe hq hqc => ?_)
  · refine w_astore_nN dX11_looseBit_5 rfl rfl ?_
    refine w_aload_nN dX11_looseBit_6 rfl ?_
    refine w_ifnull_n 27 dX11_looseBit_7 (by decide) ?_
    refine w_null dX11_looseBit_27 ?_
    refine v_nret dX11_looseBit_28 rfl ⟨rfl, rfl⟩ ?_
    refine hn (fun q' g1 g2 g3 g4 => ?_)
    first | exact absurd (q2 q' g1 g2) g3 | (have g6 : q' = q := (by omega); subst g6; first | (rw [← e11] at g4; omega) | (rw [← e21]; omega))
  · refine w_astore_n dX11_looseBit_5 rfl rfl ?_
    refine w_aload_n dX11_looseBit_6 rfl ?_
    refine w_ifnull_r dX11_looseBit_7 ?_
    refine w_aload_n dX11_looseBit_10 rfl ?_
    refine v_getI dX11_looseBit_11 fX11_71 (sO_b hq (by decide) rfl) (Or.inr rfl) (fun z11 e11 b11 => ?_)
    refine v_if_ne 27 dX11_looseBit_14 (by decide) (by omega) (fun c14 => ?_) (fun c14 => ?_)
    · refine w_null dX11_looseBit_27 ?_
      refine v_nret dX11_looseBit_28 rfl ⟨rfl, rfl⟩ ?_
      refine hn (fun q' g1 g2 g3 g4 => ?_)
      first | exact absurd (q2 q' g1 g2) g3 | (have g6 : q' = q := (by omega); subst g6; first | (rw [← e11] at g4; omega) | (rw [← e21]; omega))
    · refine w_aload_n dX11_looseBit_17 rfl ?_
      refine v_getR (j := 142) dX11_looseBit_18 fX11_35 ⟨by decide, rfl⟩ rfl rfl ?_
      refine v_getI dX11_looseBit_21 fX11_215 ⟨by decide, rfl⟩ (Or.inl rfl) (fun z21 e21 b21 => ?_)
      refine v_if_ne 29 dX11_looseBit_24 (by decide) (by omega) (fun c24 => ?_) (fun c24 => ?_)
      · refine w_aload_n dX11_looseBit_29 rfl ?_
        refine v_aret dX11_looseBit_30 rfl ⟨rfl, rfl⟩ ?_
        exact hy q hqe hq hqc (by rw [← e11]; omega) (by rw [← e21]; omega)
      · refine w_null dX11_looseBit_27 ?_
        refine v_nret dX11_looseBit_28 rfl ⟨rfl, rfl⟩ ?_
        refine hn (fun q' g1 g2 g3 g4 => ?_)
        first | exact absurd (q2 q' g1 g2) g3 | (have g6 : q' = q := (by omega); subst g6; first | (rw [← e11] at g4; omega) | (rw [← e21]; omega))
theorem x11_take {I : Nat → Nat → Int32} {J : Nat → Nat → Int64} {F : Option Value → zM → Prop} {b : Int} (bb : -2147483648 ≤ b ∧ b < 2147483648) {ce : Nat → Nat → Int} {nn : Nat → Nat} (hS : ∀ q, q < 10 → rd I (bI q 0) 4 ≠ 0 → ∀ k, k < 50 → rd I (bI q 1) k = ce q k) (hB : ∀ q, q < 10 → rd I (bI q 0) 4 ≠ 0 → RBc I q (ce q) (nn q)) (hta : ∀ l : Nat, l < 16 → 0 ≤ rd I 147 l ∧ rd I 147 l ≤ 1000) (htd : ∀ l : Nat, l < 32 → 0 ≤ rd I 150 l ∧ rd I 150 l ≤ 1000) (hly : 0 ≤ rd I 142 4 ∧ rd I 142 4 ≤ 1000) (hrc : ∀ q, q < 10 → (-1000 ≤ rd I (bI q 0) 14 ∧ rd I (bI q 0) 14 ≤ 1000) ∧ -1000 ≤ rd I (bI q 0) 15 ∧ rd I (bI q 0) 15 ≤ 1000) (hn : (∀ q : Nat, b = q → q < 10 → rd I (bI q 0) 4 ≠ 0 → rd I (bI q 0) 13 = 0) → F (some (.int (iI 0))) (gM I J)) (hy : ∀ q : Nat, b = q → q < 10 → rd I (bI q 0) 4 ≠ 0 → rd I (bI q 0) 13 ≠ 0 → ∀ I', wPM I I' q (ce q) (rd I (bI q 0) 14) (rd I (bI q 0) 15) (fun _ => 95) (-1) (-1) 0 → F (some (.int (iI 1))) (gM I' J)) : Cl yX11_take kX11_take [.ref 0, .int (iI b)] (gM I J) F := by
  refine cl_s (by decide) (by decide) (Nat.le_of_ble_eq_true rfl) rt_z ?_
  show Wp _ F 0 [(0, .ref 0), (1, .int (iI b))] [] _
  refine w_aload_n dX11_take_0 rfl ?_
  refine w_iload_n dX11_take_1 rfl ?_
  refine v_callV1 dX11_take_2 lX11_83 vX11_bitOf (by decide) rfl rfl ⟨by decide, rfl⟩ (by decide) rfl (Nat.le_of_ble_eq_true rfl) ?_
  refine x11_bitOf (by omega) (fun q2 => ?_) (fun q hqe hq hqc => ?_)
  · refine w_astore_nN dX11_take_5 rfl rfl ?_
    refine w_aload_nN dX11_take_6 rfl ?_
    refine w_ifnull_n 17 dX11_take_7 (by decide) ?_
    refine w_iconst (v := iI 0) dX11_take_17 rfl ?_
    refine v_zret dX11_take_18 rfl ⟨rfl, rfl⟩ (by decide) ?_
    refine hn (fun q' g1 g2 g3 => ?_)
    first | exact absurd (q2 q' g1 g2) g3 | (have g6 : q' = q := (by omega); subst g6; rw [← e11]; omega)
  · refine w_astore_n dX11_take_5 rfl rfl ?_
    refine w_aload_n dX11_take_6 rfl ?_
    refine w_ifnull_r dX11_take_7 ?_
    refine w_aload_n dX11_take_10 rfl ?_
    refine v_getI dX11_take_11 fX11_71 (sO_b hq (by decide) rfl) (Or.inr rfl) (fun z11 e11 b11 => ?_)
    refine v_if_ne 19 dX11_take_14 (by decide) (by omega) (fun c14 => ?_) (fun c14 => ?_)
    · refine w_aload_n dX11_take_19 rfl ?_
      refine v_getR (j := 142) dX11_take_20 fX11_35 ⟨by decide, rfl⟩ rfl rfl ?_
      refine w_aload_n dX11_take_23 rfl ?_
      refine v_callV1 dX11_take_24 lX11_75 vX8_remove (by decide) rfl rfl ⟨by decide, rfl⟩ (by decide) rfl (Nat.le_of_ble_eq_true rfl) ?_
      refine x8_remove hq (hS q hq hqc) (hB q hq hqc) hta htd hly (hrc q hq).1 (hrc q hq).2 rfl rfl (fun I' p => ?_)
      refine w_iconst (v := iI 1) dX11_take_27 rfl ?_
      refine v_zret dX11_take_28 rfl ⟨rfl, rfl⟩ (by decide) ?_
      exact hy q hqe hq hqc (by rw [← e11]; omega) I' p
    · refine w_iconst (v := iI 0) dX11_take_17 rfl ?_
      refine v_zret dX11_take_18 rfl ⟨rfl, rfl⟩ (by decide) ?_
      refine hn (fun q' g1 g2 g3 => ?_)
      first | exact absurd (q2 q' g1 g2) g3 | (have g6 : q' = q := (by omega); subst g6; rw [← e11]; omega)
theorem x11_lay {I : Nat → Nat → Int32} {J : Nat → Nat → Int64} {F : Option Value → zM → Prop} {b R C : Int} (bb : -2147483648 ≤ b ∧ b < 2147483648) (bR : -2147483648 ≤ R ∧ R < 2147483648) (bC : -2147483648 ≤ C ∧ C < 2147483648) {ce : Nat → Nat → Int} {nn : Nat → Nat} (hS : ∀ q, q < 10 → rd I (bI q 0) 4 ≠ 0 → ∀ k, k < 50 → rd I (bI q 1) k = ce q k) (hB : ∀ q, q < 10 → rd I (bI q 0) 4 ≠ 0 → RBc I q (ce q) (nn q)) (hta : ∀ l : Nat, l < 16 → 0 ≤ rd I 147 l ∧ rd I 147 l ≤ 1000) (htd : ∀ l : Nat, l < 32 → 0 ≤ rd I 150 l ∧ rd I 150 l ≤ 1000) (hly : 0 ≤ rd I 142 4 ∧ rd I 142 4 ≤ 1000) {wn : Nat} (hL : wRL I J wn) (hE : ∀ q, q < 10 → rd I (bI q 0) 4 ≠ 0 → RBe I q (ce q)) (hso : ∀ y x : Int, inS y x → owAt I y x = -1 → sgAt I y x = 95) (hnu : ∀ q, q < 10 → rd I (bI q 0) 0 = q) (hn : (∀ q : Nat, b = q → q < 10 → rd I (bI q 0) 4 ≠ 0 → rd I (bI q 0) 13 ≠ 0) → F (some (.int (iI 0))) (gM I J)) (hy : ∀ q : Nat, b = q → q < 10 → rd I (bI q 0) 4 ≠ 0 → rd I (bI q 0) 13 = 0 → (((-5 < R ∧ R < 16 ∧ -10 < C ∧ C < 32) ∧ ∀ y x : Int, cA (ce q) R C y x ≠ 95 → inS y x ∧ owAt I y x = -1) ∧ ¬ (qLa I q R ∨ qLd I q C) ∧ (∀ y : Nat, y < 16 → allR I wn (fun x => sgAt I y x)) ∧ ∀ y : Nat, y < 16 → allR I wn (fun x => pS I (ce q) R C y x)) → ∀ J' : Nat → Nat → Int64, (∀ id k, id ≠ 140 → id ≠ 141 → J' id k = J id k) → ∀ I', wPM I I' q (ce q) R C (fun k => cA (ce q) R C ((k / 32 : Nat) : Int) ((k % 32 : Nat) : Int)) q 1 1 → F (some (.int (iI 1))) (gM I' J')) (hf : ∀ q : Nat, b = q → q < 10 → rd I (bI q 0) 4 ≠ 0 → rd I (bI q 0) 13 = 0 → ¬ (((-5 < R ∧ R < 16 ∧ -10 < C ∧ C < 32) ∧ ∀ y x : Int, cA (ce q) R C y x ≠ 95 → inS y x ∧ owAt I y x = -1) ∧ ¬ (qLa I q R ∨ qLd I q C) ∧ (∀ y : Nat, y < 16 → allR I wn (fun x => sgAt I y x)) ∧ ∀ y : Nat, y < 16 → allR I wn (fun x => pS I (ce q) R C y x)) → ∀ J' : Nat → Nat → Int64, (∀ id k, id ≠ 140 → id ≠ 141 → J' id k = J id k) → F (some (.int (iI 0))) (gM I J')) : Cl yX11_lay kX11_lay [.ref 0, .int (iI b), .int (iI R), .int (iI C)] (gM I J) F := by
  refine cl_s (by decide) (by decide) (Nat.le_of_ble_eq_true rfl) rt_z ?_
  show Wp _ F 0 [(0, .ref 0), (1, .int (iI b)), (2, .int (iI R)), (3, .int (iI C))] [] _
  refine w_aload_n dX11_lay_0 rfl ?_
  refine w_iload_n dX11_lay_1 rfl ?_
  refine v_callV1 dX11_lay_2 lX11_83 vX11_bitOf (by decide) rfl rfl ⟨by decide, rfl⟩ (by decide) rfl (Nat.le_of_ble_eq_true rfl) ?_
  refine x11_bitOf (by omega) (fun q2 => ?_) (fun q hqe hq hqc => ?_)
  · refine w_astoreN dX11_lay_5 rfl rfl ?_
    refine w_aloadN dX11_lay_7 rfl ?_
    refine w_ifnull_n 20 dX11_lay_9 (by decide) ?_
    refine w_iconst (v := iI 0) dX11_lay_20 rfl ?_
    refine v_zret dX11_lay_21 rfl ⟨rfl, rfl⟩ (by decide) ?_
    refine hn (fun q' g1 g2 g3 => ?_)
    first | exact absurd (q2 q' g1 g2) g3 | (have g6 : q' = q := (by omega); subst g6; rw [← e14]; omega)
  · refine w_astore dX11_lay_5 rfl rfl ?_
    refine w_aload dX11_lay_7 rfl ?_
    refine w_ifnull_r dX11_lay_9 ?_
    refine w_aload dX11_lay_12 rfl ?_
    refine v_getI dX11_lay_14 fX11_71 (sO_b hq (by decide) rfl) (Or.inr rfl) (fun z14 e14 b14 => ?_)
    refine v_if_eq 22 dX11_lay_17 (by decide) (by first | omega | (clear hqq hy hf hn; omega)) (fun c17 => ?_) (fun c17 => ?_)
    · refine w_aload_n dX11_lay_22 rfl ?_
      refine v_getR (j := 142) dX11_lay_23 fX11_35 ⟨by decide, rfl⟩ rfl rfl ?_
      refine w_aload dX11_lay_26 rfl ?_
      refine w_iload_n dX11_lay_28 rfl ?_
      refine w_iload_n dX11_lay_29 rfl ?_
      refine v_callV3 dX11_lay_30 lX11_112 vX8_hasRoom (by decide) rfl rfl ⟨by decide, rfl⟩ (by decide) rfl (Nat.le_of_ble_eq_true rfl) ?_
      refine x8_hasRoom hq (hB q hq hqc) bR bC (fun hr => ?_) (fun hr => ?_)
      · refine v_if_eq 87 dX11_lay_33 (by decide) (by decide) (fun q => absurd q (by decide)) (fun _ => ?_)
        refine w_aload_n dX11_lay_36 rfl ?_
        refine v_getR (j := 142) dX11_lay_37 fX11_35 ⟨by decide, rfl⟩ rfl rfl ?_
        refine w_aload dX11_lay_40 rfl ?_
        refine w_iload_n dX11_lay_42 rfl ?_
        refine w_iload_n dX11_lay_43 rfl ?_
        refine v_callV3 dX11_lay_44 lX11_116 vX8_fibreWorth (by decide) rfl rfl ⟨by decide, rfl⟩ (by decide) rfl (Nat.le_of_ble_eq_true rfl) ?_
        have rg := hr.1
        have w1 : 0 ≤ wLs I 147 16 (fun i : Int => tF I (bI q 7) (bI q 8) 5 i) R 5 ∧ wLs I 147 16 (fun i : Int => tF I (bI q 7) (bI q 8) 5 i) R 5 ≤ 2000 * ((5 : Nat) : Int) := wLs_bd (q := 147) (N := 16) hta 5
        have w2 : 0 ≤ wLs I 150 32 (fun i : Int => tF I (bI q 10) (bI q 11) 10 i) C 10 ∧ wLs I 150 32 (fun i : Int => tF I (bI q 10) (bI q 11) 10 i) C 10 ≤ 2000 * ((10 : Nat) : Int) := wLs_bd (q := 150) (N := 32) htd 10
        refine x8_fibreWorth hq hta htd (by omega) (by omega) (fun hqq => ?_) (fun hqq => ?_)
        · refine w_iconst (v := iI (-1)) dX11_lay_47 rfl ?_
          refine v_icmp_eq 87 dX11_lay_48 (by decide) (by decide) (by decide) (fun _ => ?_) (fun q => absurd q (by decide))
          refine w_iconst (v := iI 0) dX11_lay_87 rfl ?_
          refine w_istore dX11_lay_88 rfl rfl ?_
          refine w_iload dX11_lay_90 rfl ?_
          refine v_if_eq 106 dX11_lay_92 (by decide) (by decide) (fun _ => ?_) (fun q => absurd q (by decide))
          refine w_iload dX11_lay_106 rfl ?_
          refine v_zret dX11_lay_108 rfl ⟨rfl, rfl⟩ (by decide) ?_
          have nl : rd I (bI q 0) 13 = 0 := by rw [← e14]; clear hy hf hn; first | omega | (clear hqq; omega)
          first
            | exact hy q hqe hq hqc nl ⟨hr, hqq, ha, hp⟩ J2 j3 I' p
            | exact hf q hqe hq hqc nl (fun g => hp g.2.2.2) J2 j3
            | exact hf q hqe hq hqc nl (fun g => ha g.2.2.1) J1 j1
            | exact hf q hqe hq hqc nl (fun g => g.2.1 hqq) J (fun _ _ _ _ => rfl)
            | exact hf q hqe hq hqc nl (fun g => hr g.1) J (fun _ _ _ _ => rfl)
            | (exfalso; clear hqq hy hf hn; omega)
        · refine w_iconst (v := iI (-1)) dX11_lay_47 rfl ?_
          refine v_icmp_eq 87 dX11_lay_48 (by decide) (by first | omega | (clear hqq hy hf hn; omega)) (by first | omega | (clear hqq hy hf hn; omega)) (fun c48 => ?_) (fun c48 => ?_)
          · refine w_iconst (v := iI 0) dX11_lay_87 rfl ?_
            refine w_istore dX11_lay_88 rfl rfl ?_
            refine w_iload dX11_lay_90 rfl ?_
            refine v_if_eq 106 dX11_lay_92 (by decide) (by decide) (fun _ => ?_) (fun q => absurd q (by decide))
            refine w_iload dX11_lay_106 rfl ?_
            refine v_zret dX11_lay_108 rfl ⟨rfl, rfl⟩ (by decide) ?_
            have nl : rd I (bI q 0) 13 = 0 := by rw [← e14]; clear hy hf hn; first | omega | (clear hqq; omega)
            first
              | exact hy q hqe hq hqc nl ⟨hr, hqq, ha, hp⟩ J2 j3 I' p
              | exact hf q hqe hq hqc nl (fun g => hp g.2.2.2) J2 j3
              | exact hf q hqe hq hqc nl (fun g => ha g.2.2.1) J1 j1
              | exact hf q hqe hq hqc nl (fun g => g.2.1 hqq) J (fun _ _ _ _ => rfl)
              | exact hf q hqe hq hqc nl (fun g => hr g.1) J (fun _ _ _ _ => rfl)
              | (exfalso; clear hqq hy hf hn; omega)
          · refine w_aload_n dX11_lay_51 rfl ?_
            refine v_getR (j := 142) dX11_lay_52 fX11_35 ⟨by decide, rfl⟩ rfl rfl ?_
            refine w_aload_n dX11_lay_55 rfl ?_
            refine v_getR (j := 134) dX11_lay_56 fX11_28 ⟨by decide, rfl⟩ rfl rfl ?_
            refine v_callV1 dX11_lay_59 lX11_120 vX8_allRunsCan (by decide) rfl rfl ⟨by decide, rfl⟩ (by decide) rfl (Nat.le_of_ble_eq_true rfl) ?_
            refine x8_allRunsCan hL (fun ha J1 j1 => ?_) (fun ha J1 j1 => ?_)
            · refine v_if_eq 87 dX11_lay_62 (by decide) (by decide) (fun q => absurd q (by decide)) (fun _ => ?_)
              refine w_aload_n dX11_lay_65 rfl ?_
              refine v_getR (j := 142) dX11_lay_66 fX11_35 ⟨by decide, rfl⟩ rfl rfl ?_
              refine w_aload dX11_lay_69 rfl ?_
              refine w_iload_n dX11_lay_71 rfl ?_
              refine w_iload_n dX11_lay_72 rfl ?_
              refine w_aload_n dX11_lay_73 rfl ?_
              refine v_getR (j := 134) dX11_lay_74 fX11_28 ⟨by decide, rfl⟩ rfl rfl ?_
              refine v_callV4 dX11_lay_77 lX11_124 vX8_runsCanWith (by decide) rfl rfl ⟨by decide, rfl⟩ (by decide) rfl (Nat.le_of_ble_eq_true rfl) ?_
              refine x8_runsCanWith (wn := wn) hq (wRL_fr hL rfl rfl (fun _ _ => rfl) (fun _ _ => rfl) j1) (hS q hq hqc) (hB q hq hqc) (hE q hq hqc) (by omega) (by omega) (fun y x g => ⟨(hr.2 y x g).1, hso y x (hr.2 y x g).1 (hr.2 y x g).2⟩) ha (fun hp J2 j2 => ?_) (fun hp J2 j2 => ?_)
              all_goals have j3 : ∀ id k, id ≠ 140 → id ≠ 141 → J2 id k = J id k := fun id k u1 u2 => by rw [j2 id k u1 u2]; exact j1 id k u1 u2
              · refine v_if_eq 87 dX11_lay_80 (by decide) (by decide) (fun q => absurd q (by decide)) (fun _ => ?_)
                refine w_iconst (v := iI 1) dX11_lay_83 rfl ?_
                refine w_goto 88 dX11_lay_84 (by decide) ?_
                refine w_istore dX11_lay_88 rfl rfl ?_
                refine w_iload dX11_lay_90 rfl ?_
                refine v_if_eq 106 dX11_lay_92 (by decide) (by decide) (fun q => absurd q (by decide)) (fun _ => ?_)
                refine w_aload_n dX11_lay_95 rfl ?_
                refine v_getR (j := 142) dX11_lay_96 fX11_35 ⟨by decide, rfl⟩ rfl rfl ?_
                refine w_aload dX11_lay_99 rfl ?_
                refine w_iload_n dX11_lay_101 rfl ?_
                refine w_iload_n dX11_lay_102 rfl ?_
                refine v_callV3 dX11_lay_103 lX11_128 vX8_put (by decide) rfl rfl ⟨by decide, rfl⟩ (by decide) rfl (Nat.le_of_ble_eq_true rfl) ?_
                refine x8_put hq (hS q hq hqc) (hB q hq hqc) hta htd hly (by omega) (by omega) (hnu q hq) (fun I' p => ?_)
                refine w_iload dX11_lay_106 rfl ?_
                refine v_zret dX11_lay_108 rfl ⟨rfl, rfl⟩ (by decide) ?_
                have nl : rd I (bI q 0) 13 = 0 := by rw [← e14]; clear hy hf hn; first | omega | (clear hqq; omega)
                first
                  | exact hy q hqe hq hqc nl ⟨hr, hqq, ha, hp⟩ J2 j3 I' p
                  | exact hf q hqe hq hqc nl (fun g => hp g.2.2.2) J2 j3
                  | exact hf q hqe hq hqc nl (fun g => ha g.2.2.1) J1 j1
                  | exact hf q hqe hq hqc nl (fun g => g.2.1 hqq) J (fun _ _ _ _ => rfl)
                  | exact hf q hqe hq hqc nl (fun g => hr g.1) J (fun _ _ _ _ => rfl)
                  | (exfalso; clear hqq hy hf hn; omega)
              · refine v_if_eq 87 dX11_lay_80 (by decide) (by decide) (fun _ => ?_) (fun q => absurd q (by decide))
                refine w_iconst (v := iI 0) dX11_lay_87 rfl ?_
                refine w_istore dX11_lay_88 rfl rfl ?_
                refine w_iload dX11_lay_90 rfl ?_
                refine v_if_eq 106 dX11_lay_92 (by decide) (by decide) (fun _ => ?_) (fun q => absurd q (by decide))
                refine w_iload dX11_lay_106 rfl ?_
                refine v_zret dX11_lay_108 rfl ⟨rfl, rfl⟩ (by decide) ?_
                have nl : rd I (bI q 0) 13 = 0 := by rw [← e14]; clear hy hf hn; first | omega | (clear hqq; omega)
                first
                  | exact hy q hqe hq hqc nl ⟨hr, hqq, ha, hp⟩ J2 j3 I' p
                  | exact hf q hqe hq hqc nl (fun g => hp g.2.2.2) J2 j3
                  | exact hf q hqe hq hqc nl (fun g => ha g.2.2.1) J1 j1
                  | exact hf q hqe hq hqc nl (fun g => g.2.1 hqq) J (fun _ _ _ _ => rfl)
                  | exact hf q hqe hq hqc nl (fun g => hr g.1) J (fun _ _ _ _ => rfl)
                  | (exfalso; clear hqq hy hf hn; omega)
            · refine v_if_eq 87 dX11_lay_62 (by decide) (by decide) (fun _ => ?_) (fun q => absurd q (by decide))
              refine w_iconst (v := iI 0) dX11_lay_87 rfl ?_
              refine w_istore dX11_lay_88 rfl rfl ?_
              refine w_iload dX11_lay_90 rfl ?_
              refine v_if_eq 106 dX11_lay_92 (by decide) (by decide) (fun _ => ?_) (fun q => absurd q (by decide))
              refine w_iload dX11_lay_106 rfl ?_
              refine v_zret dX11_lay_108 rfl ⟨rfl, rfl⟩ (by decide) ?_
              have nl : rd I (bI q 0) 13 = 0 := by rw [← e14]; clear hy hf hn; first | omega | (clear hqq; omega)
              first
                | exact hy q hqe hq hqc nl ⟨hr, hqq, ha, hp⟩ J2 j3 I' p
                | exact hf q hqe hq hqc nl (fun g => hp g.2.2.2) J2 j3
                | exact hf q hqe hq hqc nl (fun g => ha g.2.2.1) J1 j1
                | exact hf q hqe hq hqc nl (fun g => g.2.1 hqq) J (fun _ _ _ _ => rfl)
                | exact hf q hqe hq hqc nl (fun g => hr g.1) J (fun _ _ _ _ => rfl)
                | (exfalso; clear hqq hy hf hn; omega)
      · refine v_if_eq 87 dX11_lay_33 (by decide) (by decide) (fun _ => ?_) (fun q => absurd q (by decide))
        refine w_iconst (v := iI 0) dX11_lay_87 rfl ?_
        refine w_istore dX11_lay_88 rfl rfl ?_
        refine w_iload dX11_lay_90 rfl ?_
        refine v_if_eq 106 dX11_lay_92 (by decide) (by decide) (fun _ => ?_) (fun q => absurd q (by decide))
        refine w_iload dX11_lay_106 rfl ?_
        refine v_zret dX11_lay_108 rfl ⟨rfl, rfl⟩ (by decide) ?_
        have nl : rd I (bI q 0) 13 = 0 := by rw [← e14]; clear hy hf hn; first | omega | (clear hqq; omega)
        first
          | exact hy q hqe hq hqc nl ⟨hr, hqq, ha, hp⟩ J2 j3 I' p
          | exact hf q hqe hq hqc nl (fun g => hp g.2.2.2) J2 j3
          | exact hf q hqe hq hqc nl (fun g => ha g.2.2.1) J1 j1
          | exact hf q hqe hq hqc nl (fun g => g.2.1 hqq) J (fun _ _ _ _ => rfl)
          | exact hf q hqe hq hqc nl (fun g => hr g.1) J (fun _ _ _ _ => rfl)
          | (exfalso; clear hqq hy hf hn; omega)
    · refine w_iconst (v := iI 0) dX11_lay_20 rfl ?_
      refine v_zret dX11_lay_21 rfl ⟨rfl, rfl⟩ (by decide) ?_
      refine hn (fun q' g1 g2 g3 => ?_)
      first | exact absurd (q2 q' g1 g2) g3 | (have g6 : q' = q := (by omega); subst g6; rw [← e14]; omega)
