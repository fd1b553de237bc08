/-! cell, fibre: both sides; word: the reference -/
theorem x12_cell {I : Nat → Nat → Int32} {J : Nat → Nat → Int64} {F : Option Value → zM → Prop} {b r c : Int} (bb : -2147483648 ≤ b ∧ b < 2147483648) (br : -2147483648 ≤ r ∧ r < 2147483648) (bc : -2147483648 ≤ c ∧ c < 2147483648) (hn : (∀ q : Nat, b = q → q < 10 → rd I 173 q ≠ 0 → ¬ (0 ≤ r ∧ r < 5 ∧ 0 ≤ c ∧ c < 10)) → F (some (.int (iI (-1)))) (gM I J)) (hy : ∀ q : Nat, b = q → q < 10 → rd I 173 q ≠ 0 → (0 ≤ r ∧ r < 5 ∧ 0 ≤ c ∧ c < 10) → F (some (.int (iI (rd I 174 (50 * q + (10 * r + c).toNat))))) (gM I J)) : Cl yX12_cell kX12_cell [.ref 171, .int (iI b), .int (iI r), .int (iI c)] (gM I J) F := by
  refine cl_s (by decide) (by decide) (Nat.le_of_ble_eq_true rfl) rt_i ?_
  show Wp _ F 0 [(0, .ref 171), (1, .int (iI b)), (2, .int (iI r)), (3, .int (iI c))] [] _
  refine w_aload_n dX12_cell_0 rfl ?_
  refine w_iload_n dX12_cell_1 rfl ?_
  refine v_callV1 dX12_cell_2 lX12_81 vX12_isBit (by decide) rfl rfl ⟨by decide, rfl⟩ (by decide) rfl (Nat.le_of_ble_eq_true rfl) ?_
  refine x12_isBit (by omega) (fun q2 => ?_) (fun q hqe hq hqc => ?_)
  rotate_left
  · refine v_if_eq 46 dX12_cell_5 (by decide) (by decide) (fun q => absurd q (by decide)) (fun _ => ?_)
    refine w_iload_n dX12_cell_8 rfl ?_
    refine w_iconst (v := iI 0) dX12_cell_9 rfl ?_
    refine w_iconst (v := iI 4) dX12_cell_10 rfl ?_
    refine v_callS3 dX12_cell_11 lX12_69 vX12_isIn (by decide) rfl rfl (Nat.le_of_ble_eq_true rfl) ?_
    refine x12_isIn (by omega) (by omega) (by omega) (fun q11 => ?_) (fun q11 => ?_)
    · refine v_if_eq 46 dX12_cell_14 (by decide) (by decide) (fun q => absurd q (by decide)) (fun _ => ?_)
      refine w_iload_n dX12_cell_17 rfl ?_
      refine w_iconst (v := iI 0) dX12_cell_18 rfl ?_
      refine w_bipush (v := iI 9) dX12_cell_19 (by decide) ?_
      refine v_callS3 dX12_cell_21 lX12_69 vX12_isIn (by decide) rfl rfl (Nat.le_of_ble_eq_true rfl) ?_
      refine x12_isIn (by omega) (by omega) (by omega) (fun q21 => ?_) (fun q21 => ?_)
      · refine v_if_eq 46 dX12_cell_24 (by decide) (by decide) (fun q => absurd q (by decide)) (fun _ => ?_)
        refine w_aload_n dX12_cell_27 rfl ?_
        refine v_getR (j := 174) dX12_cell_28 fX12_17 ⟨by decide, rfl⟩ rfl rfl ?_
        refine w_bipush (v := iI 50) dX12_cell_31 (by decide) ?_
        refine w_iload_n dX12_cell_33 rfl ?_
        refine v_imul dX12_cell_34 ?_
        refine w_bipush (v := iI 10) dX12_cell_35 (by decide) ?_
        refine w_iload_n dX12_cell_37 rfl ?_
        refine v_imul dX12_cell_38 ?_
        refine v_iadd dX12_cell_39 ?_
        refine w_iload_n dX12_cell_40 rfl ?_
        refine v_iadd dX12_cell_41 ?_
        refine v_iald dX12_cell_42 ⟨by decide, rfl⟩ (by omega) (by omega) (by decide) (fun z42 e42 b42 => ?_)
        refine w_goto 47 dX12_cell_43 (by decide) ?_
        refine v_iret dX12_cell_47 rfl ⟨rfl, rfl⟩ ?_
        first | (rw [e42, show (50 * b + 10 * r + c).toNat = 50 * q + (10 * r + c).toNat by omega]; exact hy q hqe hq hqc (by omega)) | (refine hn (fun q' g1 g2 g3 => ?_); first | exact absurd (q2 q' g1 g2) g3 | omega)
      · refine v_if_eq 46 dX12_cell_24 (by decide) (by decide) (fun _ => ?_) (fun q => absurd q (by decide))
        refine w_iconst (v := iI (-1)) dX12_cell_46 rfl ?_
        refine v_iret dX12_cell_47 rfl ⟨rfl, rfl⟩ ?_
        first | (rw [e42, show (50 * b + 10 * r + c).toNat = 50 * q + (10 * r + c).toNat by omega]; exact hy q hqe hq hqc (by omega)) | (refine hn (fun q' g1 g2 g3 => ?_); first | exact absurd (q2 q' g1 g2) g3 | omega)
    · refine v_if_eq 46 dX12_cell_14 (by decide) (by decide) (fun _ => ?_) (fun q => absurd q (by decide))
      refine w_iconst (v := iI (-1)) dX12_cell_46 rfl ?_
      refine v_iret dX12_cell_47 rfl ⟨rfl, rfl⟩ ?_
      first | (rw [e42, show (50 * b + 10 * r + c).toNat = 50 * q + (10 * r + c).toNat by omega]; exact hy q hqe hq hqc (by omega)) | (refine hn (fun q' g1 g2 g3 => ?_); first | exact absurd (q2 q' g1 g2) g3 | omega)
  · refine v_if_eq 46 dX12_cell_5 (by decide) (by decide) (fun _ => ?_) (fun q => absurd q (by decide))
    refine w_iconst (v := iI (-1)) dX12_cell_46 rfl ?_
    refine v_iret dX12_cell_47 rfl ⟨rfl, rfl⟩ ?_
    first | (rw [e42, show (50 * b + 10 * r + c).toNat = 50 * q + (10 * r + c).toNat by omega]; exact hy q hqe hq hqc (by omega)) | (refine hn (fun q' g1 g2 g3 => ?_); first | exact absurd (q2 q' g1 g2) g3 | omega)
theorem x11_cell {I : Nat → Nat → Int32} {J : Nat → Nat → Int64} {F : Option Value → zM → Prop} {b r c : Int} (bb : -2147483648 ≤ b ∧ b < 2147483648) (br : -2147483648 ≤ r ∧ r < 2147483648) (bc : -2147483648 ≤ c ∧ c < 2147483648) (hn : (∀ q : Nat, b = q → q < 10 → rd I (bI q 0) 4 ≠ 0 → ¬ (0 ≤ r ∧ r < 5 ∧ 0 ≤ c ∧ c < 10)) → F (some (.int (iI (-1)))) (gM I J)) (hy : ∀ q : Nat, b = q → q < 10 → rd I (bI q 0) 4 ≠ 0 → (0 ≤ r ∧ r < 5 ∧ 0 ≤ c ∧ c < 10) → F (some (.int (iI (rd I (bI q 1) (10 * r + c).toNat)))) (gM I J)) : Cl yX11_cell kX11_cell [.ref 0, .int (iI b), .int (iI r), .int (iI c)] (gM I J) F := by
  refine cl_s (by decide) (by decide) (Nat.le_of_ble_eq_true rfl) rt_i ?_
  show Wp _ F 0 [(0, .ref 0), (1, .int (iI b)), (2, .int (iI r)), (3, .int (iI c))] [] _
  refine w_aload_n dX11_cell_0 rfl ?_
  refine w_iload_n dX11_cell_1 rfl ?_
  refine v_callV1 dX11_cell_2 lX11_83 vX11_bitOf (by decide) rfl rfl ⟨by decide, rfl⟩ (by decide) rfl (Nat.le_of_ble_eq_true rfl) ?_
  refine x11_bitOf (by omega) (fun q2 => ?_) (fun q hqe hq hqc => ?_)
  · refine w_astoreN dX11_cell_5 rfl rfl ?_
    refine w_aloadN dX11_cell_7 rfl ?_
    refine w_ifnull_n 31 dX11_cell_9 (by decide) ?_
    refine w_iconst (v := iI (-1)) dX11_cell_31 rfl ?_
    refine v_iret dX11_cell_32 rfl ⟨rfl, rfl⟩ ?_
    refine hn (fun q' g1 g2 g3 => ?_)
    first | exact absurd (q2 q' g1 g2) g3 | omega
  · refine w_astore dX11_cell_5 rfl rfl ?_
    refine w_aload dX11_cell_7 rfl ?_
    refine w_ifnull_r dX11_cell_9 ?_
    refine w_iload_n dX11_cell_12 rfl ?_
    refine v_if_lt 31 dX11_cell_13 (by decide) (by omega) (fun c13 => ?_) (fun c13 => ?_)
    · refine w_iconst (v := iI (-1)) dX11_cell_31 rfl ?_
      refine v_iret dX11_cell_32 rfl ⟨rfl, rfl⟩ ?_
      refine hn (fun q' g1 g2 g3 => ?_)
      first | exact absurd (q2 q' g1 g2) g3 | omega
    · refine w_iload_n dX11_cell_16 rfl ?_
      refine w_iconst (v := iI 5) dX11_cell_17 rfl ?_
      refine v_icmp_ge 31 dX11_cell_18 (by decide) (by omega) (by omega) (fun c18 => ?_) (fun c18 => ?_)
      · refine w_iconst (v := iI (-1)) dX11_cell_31 rfl ?_
        refine v_iret dX11_cell_32 rfl ⟨rfl, rfl⟩ ?_
        refine hn (fun q' g1 g2 g3 => ?_)
        first | exact absurd (q2 q' g1 g2) g3 | omega
      · refine w_iload_n dX11_cell_21 rfl ?_
        refine v_if_lt 31 dX11_cell_22 (by decide) (by omega) (fun c22 => ?_) (fun c22 => ?_)
        · refine w_iconst (v := iI (-1)) dX11_cell_31 rfl ?_
          refine v_iret dX11_cell_32 rfl ⟨rfl, rfl⟩ ?_
          refine hn (fun q' g1 g2 g3 => ?_)
          first | exact absurd (q2 q' g1 g2) g3 | omega
        · refine w_iload_n dX11_cell_25 rfl ?_
          refine w_bipush (v := iI 10) dX11_cell_26 (by decide) ?_
          refine v_icmp_lt 33 dX11_cell_28 (by decide) (by omega) (by omega) (fun c28 => ?_) (fun c28 => ?_)
          · refine w_aload dX11_cell_33 rfl ?_
            refine v_getR (j := bI q 1) dX11_cell_35 fX11_87 (sO_b hq (by decide) rfl) rfl (r0_b hq (by decide)) ?_
            refine w_iload_n dX11_cell_38 rfl ?_
            refine w_bipush (v := iI 10) dX11_cell_39 (by decide) ?_
            refine v_imul dX11_cell_41 ?_
            refine w_iload_n dX11_cell_42 rfl ?_
            refine v_iadd dX11_cell_43 ?_
            refine v_iald dX11_cell_44 (sA_b hq (by decide) rfl) (by omega) (by omega) (by decide) (fun z44 e44 b44 => ?_)
            refine v_iret dX11_cell_45 rfl ⟨rfl, rfl⟩ ?_
            rw [e44, show (r * 10 + c).toNat = (10 * r + c).toNat by omega]
            exact hy q hqe hq hqc (by omega)
          · refine w_iconst (v := iI (-1)) dX11_cell_31 rfl ?_
            refine v_iret dX11_cell_32 rfl ⟨rfl, rfl⟩ ?_
            refine hn (fun q' g1 g2 g3 => ?_)
            first | exact absurd (q2 q' g1 g2) g3 | omega
theorem x12_fibre {I : Nat → Nat → Int32} {J : Nat → Nat → Int64} {F : Option Value → zM → Prop} {b ac i v : Int} (bb : -2147483648 ≤ b ∧ b < 2147483648) (bi : -2147483648 ≤ i ∧ i < 2147483648) (bv : -2147483648 ≤ v ∧ v < 2147483648) (hac : ac = 0 ∨ ac = 1) (hn : (∀ q : Nat, b = q → q < 10 → rd I 173 q ≠ 0 → rd I 177 q = 0 → ¬ (0 ≤ v ∧ v ≤ 99 ∧ 0 ≤ i ∧ (ac = 0 → i < 10) ∧ (ac ≠ 0 → i < 5))) → F (some (.int (iI (-1)))) (gM I J)) (hya : ∀ q : Nat, b = q → q < 10 → rd I 173 q ≠ 0 → rd I 177 q = 0 → (0 ≤ v ∧ v ≤ 99 ∧ 0 ≤ i ∧ (ac = 0 → i < 10) ∧ (ac ≠ 0 → i < 5)) → ac = 1 → F (some (.int (iI (rd I 175 (5 * q + i.toNat))))) (gM (wr I 175 (5 * q + i.toNat) v) J)) (hyd : ∀ q : Nat, b = q → q < 10 → rd I 173 q ≠ 0 → rd I 177 q = 0 → (0 ≤ v ∧ v ≤ 99 ∧ 0 ≤ i ∧ (ac = 0 → i < 10) ∧ (ac ≠ 0 → i < 5)) → ac = 0 → F (some (.int (iI (rd I 176 (10 * q + i.toNat))))) (gM (wr I 176 (10 * q + i.toNat) v) J)) : Cl yX12_fibre kX12_fibre [.ref 171, .int (iI b), .int (iI ac), .int (iI i), .int (iI v)] (gM I J) F := by
  refine cl_s (by decide) (by decide) (Nat.le_of_ble_eq_true rfl) rt_i ?_
  show Wp _ F 0 [(0, .ref 171), (1, .int (iI b)), (2, .int (iI ac)), (3, .int (iI i)), (4, .int (iI v))] [] _
  refine w_aload_n dX12_fibre_0 rfl ?_
  refine w_iload_n dX12_fibre_1 rfl ?_
  refine v_callV1 dX12_fibre_2 lX12_81 vX12_isBit (by decide) rfl rfl ⟨by decide, rfl⟩ (by decide) rfl (Nat.le_of_ble_eq_true rfl) ?_
  refine x12_isBit (by omega) (fun q2 => ?_) (fun q hqe hq hqc => ?_)
  rotate_left
  · refine v_if_eq 46 dX12_fibre_5 (by decide) (by decide) (fun q => absurd q (by decide)) (fun _ => ?_)
    refine w_aload_n dX12_fibre_8 rfl ?_
    refine v_getR (j := 177) dX12_fibre_9 fX12_26 ⟨by decide, rfl⟩ rfl rfl ?_
    refine w_iload_n dX12_fibre_12 rfl ?_
    refine v_zald dX12_fibre_13 ⟨by decide, rfl⟩ (by omega) (by omega) (by decide) (fun z13 e13 b13 => ?_)
    refine v_if_ne 46 dX12_fibre_14 (by decide) (by omega) (fun c14 => ?_) (fun c14 => ?_)
    · refine w_iconst (v := iI (-1)) dX12_fibre_46 rfl ?_
      refine v_iret dX12_fibre_47 rfl ⟨rfl, rfl⟩ ?_
      refine hn (fun q' g1 g2 g3 g4 g5 => ?_)
      first | exact absurd (q2 q' g1 g2) g3 | omega | (have g6 : q' = q := (by omega); subst g6; rw [show b.toNat = q' by omega, g4] at e13; omega)
    · refine w_iload dX12_fibre_17 rfl ?_
      refine w_iconst (v := iI 0) dX12_fibre_19 rfl ?_
      refine w_bipush (v := iI 99) dX12_fibre_20 (by decide) ?_
      refine v_callS3 dX12_fibre_22 lX12_69 vX12_isIn (by decide) rfl rfl (Nat.le_of_ble_eq_true rfl) ?_
      refine x12_isIn (by omega) (by omega) (by omega) (fun q22 => ?_) (fun q22 => ?_)
      · refine v_if_eq 46 dX12_fibre_25 (by decide) (by decide) (fun q => absurd q (by decide)) (fun _ => ?_)
        refine w_iload_n dX12_fibre_28 rfl ?_
        refine w_iconst (v := iI 0) dX12_fibre_29 rfl ?_
        refine w_iload_n dX12_fibre_30 rfl ?_
        refine v_if_eq 38 dX12_fibre_31 (by decide) (by omega) (fun c31 => ?_) (fun c31 => ?_)
        · refine w_bipush (v := iI 9) dX12_fibre_38 (by decide) ?_
          refine v_callS3 dX12_fibre_40 lX12_69 vX12_isIn (by decide) rfl rfl (Nat.le_of_ble_eq_true rfl) ?_
          refine x12_isIn (by omega) (by omega) (by omega) (fun q40 => ?_) (fun q40 => ?_)
          · refine v_if_ne 48 dX12_fibre_43 (by decide) (by decide) (fun _ => ?_) (fun q => absurd q (by decide))
            refine w_iload_n dX12_fibre_48 rfl ?_
            refine v_if_eq 65 dX12_fibre_49 (by decide) (by omega) (fun c49 => ?_) (fun c49 => ?_)
            · first
                | (exfalso; omega)
                | (refine w_aload_n dX12_fibre_65 rfl ?_
                   refine v_getR (j := 176) dX12_fibre_66 fX12_23 ⟨by decide, rfl⟩ rfl rfl ?_
                   refine w_bipush (v := iI 10) dX12_fibre_69 (by decide) ?_
                   refine w_iload_n dX12_fibre_71 rfl ?_
                   refine v_imul dX12_fibre_72 ?_
                   refine w_iload_n dX12_fibre_73 rfl ?_
                   refine v_iadd dX12_fibre_74 ?_
                   refine v_iald dX12_fibre_75 ⟨by decide, rfl⟩ (by omega) (by omega) (by decide) (fun z75 e75 b75 => ?_)
                   refine w_istore dX12_fibre_76 rfl rfl ?_
                   refine w_iload_n dX12_fibre_78 rfl ?_
                   refine v_if_eq 97 dX12_fibre_79 (by decide) (by omega) (fun c79 => ?_) (fun c79 => ?_)
                   · first
                       | (exfalso; omega)
                       | (refine w_aload_n dX12_fibre_97 rfl ?_
                          refine v_getR (j := 176) dX12_fibre_98 fX12_23 ⟨by decide, rfl⟩ rfl rfl ?_
                          refine w_bipush (v := iI 10) dX12_fibre_101 (by decide) ?_
                          refine w_iload_n dX12_fibre_103 rfl ?_
                          refine v_imul dX12_fibre_104 ?_
                          refine w_iload_n dX12_fibre_105 rfl ?_
                          refine v_iadd dX12_fibre_106 ?_
                          refine w_iload dX12_fibre_107 rfl ?_
                          refine v_iast dX12_fibre_109 ⟨by decide, rfl⟩ (by omega) (by omega) (by decide) ?_
                          refine w_iload dX12_fibre_110 rfl ?_
                          refine v_iret dX12_fibre_112 rfl ⟨rfl, rfl⟩ ?_
                          have hl : rd I 177 q = 0 := by rw [show b.toNat = q by omega] at e13; omega
                          first
                            | (rw [e61, show (5 * b + i).toNat = 5 * q + i.toNat by omega]
                               exact hya q hqe hq hqc hl (by omega) (by omega))
                            | (rw [e75, show (10 * b + i).toNat = 10 * q + i.toNat by omega]
                               exact hyd q hqe hq hqc hl (by omega) (by omega)))
                   · first
                       | (exfalso; omega)
                       | (refine w_aload_n dX12_fibre_82 rfl ?_
                          refine v_getR (j := 175) dX12_fibre_83 fX12_20 ⟨by decide, rfl⟩ rfl rfl ?_
                          refine w_iconst (v := iI 5) dX12_fibre_86 rfl ?_
                          refine w_iload_n dX12_fibre_87 rfl ?_
                          refine v_imul dX12_fibre_88 ?_
                          refine w_iload_n dX12_fibre_89 rfl ?_
                          refine v_iadd dX12_fibre_90 ?_
                          refine w_iload dX12_fibre_91 rfl ?_
                          refine v_iast dX12_fibre_93 ⟨by decide, rfl⟩ (by omega) (by omega) (by decide) ?_
                          refine w_goto 110 dX12_fibre_94 (by decide) ?_
                          refine w_iload dX12_fibre_110 rfl ?_
                          refine v_iret dX12_fibre_112 rfl ⟨rfl, rfl⟩ ?_
                          have hl : rd I 177 q = 0 := by rw [show b.toNat = q by omega] at e13; omega
                          first
                            | (rw [e61, show (5 * b + i).toNat = 5 * q + i.toNat by omega]
                               exact hya q hqe hq hqc hl (by omega) (by omega))
                            | (rw [e75, show (10 * b + i).toNat = 10 * q + i.toNat by omega]
                               exact hyd q hqe hq hqc hl (by omega) (by omega))))
            · first
                | (exfalso; omega)
                | (refine w_aload_n dX12_fibre_52 rfl ?_
                   refine v_getR (j := 175) dX12_fibre_53 fX12_20 ⟨by decide, rfl⟩ rfl rfl ?_
                   refine w_iconst (v := iI 5) dX12_fibre_56 rfl ?_
                   refine w_iload_n dX12_fibre_57 rfl ?_
                   refine v_imul dX12_fibre_58 ?_
                   refine w_iload_n dX12_fibre_59 rfl ?_
                   refine v_iadd dX12_fibre_60 ?_
                   refine v_iald dX12_fibre_61 ⟨by decide, rfl⟩ (by omega) (by omega) (by decide) (fun z61 e61 b61 => ?_)
                   refine w_goto 76 dX12_fibre_62 (by decide) ?_
                   refine w_istore dX12_fibre_76 rfl rfl ?_
                   refine w_iload_n dX12_fibre_78 rfl ?_
                   refine v_if_eq 97 dX12_fibre_79 (by decide) (by omega) (fun c79 => ?_) (fun c79 => ?_)
                   · first
                       | (exfalso; omega)
                       | (refine w_aload_n dX12_fibre_97 rfl ?_
                          refine v_getR (j := 176) dX12_fibre_98 fX12_23 ⟨by decide, rfl⟩ rfl rfl ?_
                          refine w_bipush (v := iI 10) dX12_fibre_101 (by decide) ?_
                          refine w_iload_n dX12_fibre_103 rfl ?_
                          refine v_imul dX12_fibre_104 ?_
                          refine w_iload_n dX12_fibre_105 rfl ?_
                          refine v_iadd dX12_fibre_106 ?_
                          refine w_iload dX12_fibre_107 rfl ?_
                          refine v_iast dX12_fibre_109 ⟨by decide, rfl⟩ (by omega) (by omega) (by decide) ?_
                          refine w_iload dX12_fibre_110 rfl ?_
                          refine v_iret dX12_fibre_112 rfl ⟨rfl, rfl⟩ ?_
                          have hl : rd I 177 q = 0 := by rw [show b.toNat = q by omega] at e13; omega
                          first
                            | (rw [e61, show (5 * b + i).toNat = 5 * q + i.toNat by omega]
                               exact hya q hqe hq hqc hl (by omega) (by omega))
                            | (rw [e75, show (10 * b + i).toNat = 10 * q + i.toNat by omega]
                               exact hyd q hqe hq hqc hl (by omega) (by omega)))
                   · first
                       | (exfalso; omega)
                       | (refine w_aload_n dX12_fibre_82 rfl ?_
                          refine v_getR (j := 175) dX12_fibre_83 fX12_20 ⟨by decide, rfl⟩ rfl rfl ?_
                          refine w_iconst (v := iI 5) dX12_fibre_86 rfl ?_
                          refine w_iload_n dX12_fibre_87 rfl ?_
                          refine v_imul dX12_fibre_88 ?_
                          refine w_iload_n dX12_fibre_89 rfl ?_
                          refine v_iadd dX12_fibre_90 ?_
                          refine w_iload dX12_fibre_91 rfl ?_
                          refine v_iast dX12_fibre_93 ⟨by decide, rfl⟩ (by omega) (by omega) (by decide) ?_
                          refine w_goto 110 dX12_fibre_94 (by decide) ?_
                          refine w_iload dX12_fibre_110 rfl ?_
                          refine v_iret dX12_fibre_112 rfl ⟨rfl, rfl⟩ ?_
                          have hl : rd I 177 q = 0 := by rw [show b.toNat = q by omega] at e13; omega
                          first
                            | (rw [e61, show (5 * b + i).toNat = 5 * q + i.toNat by omega]
                               exact hya q hqe hq hqc hl (by omega) (by omega))
                            | (rw [e75, show (10 * b + i).toNat = 10 * q + i.toNat by omega]
                               exact hyd q hqe hq hqc hl (by omega) (by omega))))
          · refine v_if_ne 48 dX12_fibre_43 (by decide) (by decide) (fun q => absurd q (by decide)) (fun _ => ?_)
            refine w_iconst (v := iI (-1)) dX12_fibre_46 rfl ?_
            refine v_iret dX12_fibre_47 rfl ⟨rfl, rfl⟩ ?_
            refine hn (fun q' g1 g2 g3 g4 g5 => ?_)
            first | exact absurd (q2 q' g1 g2) g3 | omega | (have g6 : q' = q := (by omega); subst g6; rw [show b.toNat = q' by omega, g4] at e13; omega)
        · refine w_iconst (v := iI 4) dX12_fibre_34 rfl ?_
          refine w_goto 40 dX12_fibre_35 (by decide) ?_
          refine v_callS3 dX12_fibre_40 lX12_69 vX12_isIn (by decide) rfl rfl (Nat.le_of_ble_eq_true rfl) ?_
          refine x12_isIn (by omega) (by omega) (by omega) (fun q40 => ?_) (fun q40 => ?_)
          · refine v_if_ne 48 dX12_fibre_43 (by decide) (by decide) (fun _ => ?_) (fun q => absurd q (by decide))
            refine w_iload_n dX12_fibre_48 rfl ?_
            refine v_if_eq 65 dX12_fibre_49 (by decide) (by omega) (fun c49 => ?_) (fun c49 => ?_)
            · first
                | (exfalso; omega)
                | (refine w_aload_n dX12_fibre_65 rfl ?_
                   refine v_getR (j := 176) dX12_fibre_66 fX12_23 ⟨by decide, rfl⟩ rfl rfl ?_
                   refine w_bipush (v := iI 10) dX12_fibre_69 (by decide) ?_
                   refine w_iload_n dX12_fibre_71 rfl ?_
                   refine v_imul dX12_fibre_72 ?_
                   refine w_iload_n dX12_fibre_73 rfl ?_
                   refine v_iadd dX12_fibre_74 ?_
                   refine v_iald dX12_fibre_75 ⟨by decide, rfl⟩ (by omega) (by omega) (by decide) (fun z75 e75 b75 => ?_)
                   refine w_istore dX12_fibre_76 rfl rfl ?_
                   refine w_iload_n dX12_fibre_78 rfl ?_
                   refine v_if_eq 97 dX12_fibre_79 (by decide) (by omega) (fun c79 => ?_) (fun c79 => ?_)
                   · first
                       | (exfalso; omega)
                       | (refine w_aload_n dX12_fibre_97 rfl ?_
                          refine v_getR (j := 176) dX12_fibre_98 fX12_23 ⟨by decide, rfl⟩ rfl rfl ?_
                          refine w_bipush (v := iI 10) dX12_fibre_101 (by decide) ?_
                          refine w_iload_n dX12_fibre_103 rfl ?_
                          refine v_imul dX12_fibre_104 ?_
                          refine w_iload_n dX12_fibre_105 rfl ?_
                          refine v_iadd dX12_fibre_106 ?_
                          refine w_iload dX12_fibre_107 rfl ?_
                          refine v_iast dX12_fibre_109 ⟨by decide, rfl⟩ (by omega) (by omega) (by decide) ?_
                          refine w_iload dX12_fibre_110 rfl ?_
                          refine v_iret dX12_fibre_112 rfl ⟨rfl, rfl⟩ ?_
                          have hl : rd I 177 q = 0 := by rw [show b.toNat = q by omega] at e13; omega
                          first
                            | (rw [e61, show (5 * b + i).toNat = 5 * q + i.toNat by omega]
                               exact hya q hqe hq hqc hl (by omega) (by omega))
                            | (rw [e75, show (10 * b + i).toNat = 10 * q + i.toNat by omega]
                               exact hyd q hqe hq hqc hl (by omega) (by omega)))
                   · first
                       | (exfalso; omega)
                       | (refine w_aload_n dX12_fibre_82 rfl ?_
                          refine v_getR (j := 175) dX12_fibre_83 fX12_20 ⟨by decide, rfl⟩ rfl rfl ?_
                          refine w_iconst (v := iI 5) dX12_fibre_86 rfl ?_
                          refine w_iload_n dX12_fibre_87 rfl ?_
                          refine v_imul dX12_fibre_88 ?_
                          refine w_iload_n dX12_fibre_89 rfl ?_
                          refine v_iadd dX12_fibre_90 ?_
                          refine w_iload dX12_fibre_91 rfl ?_
                          refine v_iast dX12_fibre_93 ⟨by decide, rfl⟩ (by omega) (by omega) (by decide) ?_
                          refine w_goto 110 dX12_fibre_94 (by decide) ?_
                          refine w_iload dX12_fibre_110 rfl ?_
                          refine v_iret dX12_fibre_112 rfl ⟨rfl, rfl⟩ ?_
                          have hl : rd I 177 q = 0 := by rw [show b.toNat = q by omega] at e13; omega
                          first
                            | (rw [e61, show (5 * b + i).toNat = 5 * q + i.toNat by omega]
                               exact hya q hqe hq hqc hl (by omega) (by omega))
                            | (rw [e75, show (10 * b + i).toNat = 10 * q + i.toNat by omega]
                               exact hyd q hqe hq hqc hl (by omega) (by omega))))
            · first
                | (exfalso; omega)
                | (refine w_aload_n dX12_fibre_52 rfl ?_
                   refine v_getR (j := 175) dX12_fibre_53 fX12_20 ⟨by decide, rfl⟩ rfl rfl ?_
                   refine w_iconst (v := iI 5) dX12_fibre_56 rfl ?_
                   refine w_iload_n dX12_fibre_57 rfl ?_
                   refine v_imul dX12_fibre_58 ?_
                   refine w_iload_n dX12_fibre_59 rfl ?_
                   refine v_iadd dX12_fibre_60 ?_
                   refine v_iald dX12_fibre_61 ⟨by decide, rfl⟩ (by omega) (by omega) (by decide) (fun z61 e61 b61 => ?_)
                   refine w_goto 76 dX12_fibre_62 (by decide) ?_
                   refine w_istore dX12_fibre_76 rfl rfl ?_
                   refine w_iload_n dX12_fibre_78 rfl ?_
                   refine v_if_eq 97 dX12_fibre_79 (by decide) (by omega) (fun c79 => ?_) (fun c79 => ?_)
                   · first
                       | (exfalso; omega)
                       | (refine w_aload_n dX12_fibre_97 rfl ?_
                          refine v_getR (j := 176) dX12_fibre_98 fX12_23 ⟨by decide, rfl⟩ rfl rfl ?_
                          refine w_bipush (v := iI 10) dX12_fibre_101 (by decide) ?_
                          refine w_iload_n dX12_fibre_103 rfl ?_
                          refine v_imul dX12_fibre_104 ?_
                          refine w_iload_n dX12_fibre_105 rfl ?_
                          refine v_iadd dX12_fibre_106 ?_
                          refine w_iload dX12_fibre_107 rfl ?_
                          refine v_iast dX12_fibre_109 ⟨by decide, rfl⟩ (by omega) (by omega) (by decide) ?_
                          refine w_iload dX12_fibre_110 rfl ?_
                          refine v_iret dX12_fibre_112 rfl ⟨rfl, rfl⟩ ?_
                          have hl : rd I 177 q = 0 := by rw [show b.toNat = q by omega] at e13; omega
                          first
                            | (rw [e61, show (5 * b + i).toNat = 5 * q + i.toNat by omega]
                               exact hya q hqe hq hqc hl (by omega) (by omega))
                            | (rw [e75, show (10 * b + i).toNat = 10 * q + i.toNat by omega]
                               exact hyd q hqe hq hqc hl (by omega) (by omega)))
                   · first
                       | (exfalso; omega)
                       | (refine w_aload_n dX12_fibre_82 rfl ?_
                          refine v_getR (j := 175) dX12_fibre_83 fX12_20 ⟨by decide, rfl⟩ rfl rfl ?_
                          refine w_iconst (v := iI 5) dX12_fibre_86 rfl ?_
                          refine w_iload_n dX12_fibre_87 rfl ?_
                          refine v_imul dX12_fibre_88 ?_
                          refine w_iload_n dX12_fibre_89 rfl ?_
                          refine v_iadd dX12_fibre_90 ?_
                          refine w_iload dX12_fibre_91 rfl ?_
                          refine v_iast dX12_fibre_93 ⟨by decide, rfl⟩ (by omega) (by omega) (by decide) ?_
                          refine w_goto 110 dX12_fibre_94 (by decide) ?_
                          refine w_iload dX12_fibre_110 rfl ?_
                          refine v_iret dX12_fibre_112 rfl ⟨rfl, rfl⟩ ?_
                          have hl : rd I 177 q = 0 := by rw [show b.toNat = q by omega] at e13; omega
                          first
                            | (rw [e61, show (5 * b + i).toNat = 5 * q + i.toNat by omega]
                               exact hya q hqe hq hqc hl (by omega) (by omega))
                            | (rw [e75, show (10 * b + i).toNat = 10 * q + i.toNat by omega]
                               exact hyd q hqe hq hqc hl (by omega) (by omega))))
          · refine v_if_ne 48 dX12_fibre_43 (by decide) (by decide) (fun q => absurd q (by decide)) (fun _ => ?_)
            refine w_iconst (v := iI (-1)) dX12_fibre_46 rfl ?_
            refine v_iret dX12_fibre_47 rfl ⟨rfl, rfl⟩ ?_
            refine hn (fun q' g1 g2 g3 g4 g5 => ?_)
            first | exact absurd (q2 q' g1 g2) g3 | omega | (have g6 : q' = q := (by omega); subst g6; rw [show b.toNat = q' by omega, g4] at e13; omega)
      · refine v_if_eq 46 dX12_fibre_25 (by decide) (by decide) (fun _ => ?_) (fun q => absurd q (by decide))
        refine w_iconst (v := iI (-1)) dX12_fibre_46 rfl ?_
        refine v_iret dX12_fibre_47 rfl ⟨rfl, rfl⟩ ?_
        refine hn (fun q' g1 g2 g3 g4 g5 => ?_)
        first | exact absurd (q2 q' g1 g2) g3 | omega | (have g6 : q' = q := (by omega); subst g6; rw [show b.toNat = q' by omega, g4] at e13; omega)
  · refine v_if_eq 46 dX12_fibre_5 (by decide) (by decide) (fun _ => ?_) (fun q => absurd q (by decide))
    refine w_iconst (v := iI (-1)) dX12_fibre_46 rfl ?_
    refine v_iret dX12_fibre_47 rfl ⟨rfl, rfl⟩ ?_
    refine hn (fun q' g1 g2 g3 g4 g5 => ?_)
    first | exact absurd (q2 q' g1 g2) g3 | omega | (have g6 : q' = q := (by omega); subst g6; rw [show b.toNat = q' by omega, g4] at e13; omega)
theorem x11_fibre {I : Nat → Nat → Int32} {J : Nat → Nat → Int64} {F : Option Value → zM → Prop} {b ac i v : Int} (bb : -2147483648 ≤ b ∧ b < 2147483648) (bi : -2147483648 ≤ i ∧ i < 2147483648) (bv : -2147483648 ≤ v ∧ v < 2147483648) (hac : ac = 0 ∨ ac = 1) (hn : (∀ q : Nat, b = q → q < 10 → rd I (bI q 0) 4 ≠ 0 → rd I (bI q 0) 13 = 0 → ¬ (0 ≤ v ∧ v ≤ 99 ∧ 0 ≤ i ∧ (ac = 0 → i < 10) ∧ (ac ≠ 0 → i < 5))) → F (some (.int (iI (-1)))) (gM I J)) (hya : ∀ q : Nat, b = q → q < 10 → rd I (bI q 0) 4 ≠ 0 → rd I (bI q 0) 13 = 0 → (0 ≤ v ∧ v ≤ 99 ∧ 0 ≤ i ∧ (ac = 0 → i < 10) ∧ (ac ≠ 0 → i < 5)) → ac = 1 → F (some (.int (iI (rd I (bI q 7) i.toNat)))) (gM (wr I (bI q 7) i.toNat v) J)) (hyd : ∀ q : Nat, b = q → q < 10 → rd I (bI q 0) 4 ≠ 0 → rd I (bI q 0) 13 = 0 → (0 ≤ v ∧ v ≤ 99 ∧ 0 ≤ i ∧ (ac = 0 → i < 10) ∧ (ac ≠ 0 → i < 5)) → ac = 0 → F (some (.int (iI (rd I (bI q 10) i.toNat)))) (gM (wr I (bI q 10) i.toNat v) J)) : Cl yX11_fibre kX11_fibre [.ref 0, .int (iI b), .int (iI ac), .int (iI i), .int (iI v)] (gM I J) F := by
  refine cl_s (by decide) (by decide) (Nat.le_of_ble_eq_true rfl) rt_i ?_
  show Wp _ F 0 [(0, .ref 0), (1, .int (iI b)), (2, .int (iI ac)), (3, .int (iI i)), (4, .int (iI v))] [] _
  refine w_aload_n dX11_fibre_0 rfl ?_
  refine w_iload_n dX11_fibre_1 rfl ?_
  refine v_callV1 dX11_fibre_2 lX11_83 vX11_bitOf (by decide) rfl rfl ⟨by decide, rfl⟩ (by decide) rfl (Nat.le_of_ble_eq_true rfl) ?_
  refine x11_bitOf (by omega) (fun q2 => ?_) (fun q hqe hq hqc => ?_)
  · refine w_astoreN dX11_fibre_5 rfl rfl ?_
    refine w_aloadN dX11_fibre_7 rfl ?_
    refine w_ifnull_n 32 dX11_fibre_9 (by decide) ?_
    refine w_iconst (v := iI (-1)) dX11_fibre_32 rfl ?_
    refine v_iret dX11_fibre_33 rfl ⟨rfl, rfl⟩ ?_
    refine hn (fun q' g1 g2 g3 g4 g5 => ?_)
    first | exact absurd (q2 q' g1 g2) g3 | omega | (have g6 : q' = q := (by omega); subst g6; rw [g4] at e14; omega)
  · refine w_astore dX11_fibre_5 rfl rfl ?_
    refine w_aload dX11_fibre_7 rfl ?_
    refine w_ifnull_r dX11_fibre_9 ?_
    refine w_aload dX11_fibre_12 rfl ?_
    refine v_getI dX11_fibre_14 fX11_71 (sO_b hq (by decide) rfl) (Or.inr rfl) (fun z14 e14 b14 => ?_)
    refine v_if_ne 32 dX11_fibre_17 (by decide) (by omega) (fun c17 => ?_) (fun c17 => ?_)
    · refine w_iconst (v := iI (-1)) dX11_fibre_32 rfl ?_
      refine v_iret dX11_fibre_33 rfl ⟨rfl, rfl⟩ ?_
      refine hn (fun q' g1 g2 g3 g4 g5 => ?_)
      first | exact absurd (q2 q' g1 g2) g3 | omega | (have g6 : q' = q := (by omega); subst g6; rw [g4] at e14; omega)
    · refine w_iload dX11_fibre_20 rfl ?_
      refine v_if_lt 32 dX11_fibre_22 (by decide) (by omega) (fun c22 => ?_) (fun c22 => ?_)
      · refine w_iconst (v := iI (-1)) dX11_fibre_32 rfl ?_
        refine v_iret dX11_fibre_33 rfl ⟨rfl, rfl⟩ ?_
        refine hn (fun q' g1 g2 g3 g4 g5 => ?_)
        first | exact absurd (q2 q' g1 g2) g3 | omega | (have g6 : q' = q := (by omega); subst g6; rw [g4] at e14; omega)
      · refine w_iload dX11_fibre_25 rfl ?_
        refine w_bipush (v := iI 99) dX11_fibre_27 (by decide) ?_
        refine v_icmp_le 34 dX11_fibre_29 (by decide) (by omega) (by omega) (fun c29 => ?_) (fun c29 => ?_)
        · refine w_iload_n dX11_fibre_34 rfl ?_
          refine v_if_eq 46 dX11_fibre_35 (by decide) (by omega) (fun c35 => ?_) (fun c35 => ?_)
          · refine w_aload dX11_fibre_46 rfl ?_
            refine v_getR (j := bI q 9) dX11_fibre_48 fX11_95 (sO_b hq (by decide) rfl) rfl (r0_b hq (by decide)) ?_
            refine w_astore dX11_fibre_51 rfl rfl ?_
            refine w_iload_n dX11_fibre_53 rfl ?_
            refine v_if_lt 67 dX11_fibre_54 (by decide) (by omega) (fun c54 => ?_) (fun c54 => ?_)
            · refine w_iconst (v := iI (-1)) dX11_fibre_67 rfl ?_
              refine v_iret dX11_fibre_68 rfl ⟨rfl, rfl⟩ ?_
              refine hn (fun q' g1 g2 g3 g4 g5 => ?_)
              first | exact absurd (q2 q' g1 g2) g3 | omega | (have g6 : q' = q := (by omega); subst g6; rw [g4] at e14; omega)
            · refine w_iload_n dX11_fibre_57 rfl ?_
              refine w_aload dX11_fibre_58 rfl ?_
              refine v_getR (j := bI q 10) dX11_fibre_60 fX11_98 (sO_b hq (by decide) rfl) rfl (r0_b hq (by decide)) ?_
              refine v_alen0 dX11_fibre_63 (sA_b hq (by decide) rfl) ?_
              refine v_icmp_lt 69 dX11_fibre_64 (by decide) (by omega) (by omega) (fun c64 => ?_) (fun c64 => ?_)
              · refine w_aload dX11_fibre_69 rfl ?_
                refine v_getR (j := bI q 10) dX11_fibre_71 fX11_98 (sO_b hq (by decide) rfl) rfl (r0_b hq (by decide)) ?_
                refine w_iload_n dX11_fibre_74 rfl ?_
                refine v_iald dX11_fibre_75 (sA_b hq (by decide) rfl) (by omega) (by omega) (by decide) (fun z75 e75 b75 => ?_)
                refine w_istore dX11_fibre_76 rfl rfl ?_
                refine w_aload dX11_fibre_78 rfl ?_
                refine v_getR (j := bI q 10) dX11_fibre_80 fX11_98 (sO_b hq (by decide) rfl) rfl (r0_b hq (by decide)) ?_
                refine w_iload_n dX11_fibre_83 rfl ?_
                refine w_iload dX11_fibre_84 rfl ?_
                refine v_iast dX11_fibre_86 (sA_b hq (by decide) rfl) (by omega) (by omega) (by decide) ?_
                refine w_iload dX11_fibre_87 rfl ?_
                refine v_iret dX11_fibre_89 rfl ⟨rfl, rfl⟩ ?_
                have hl : rd I (bI q 0) 13 = 0 := by omega
                first
                  | (rw [e75]
                     exact hya q hqe hq hqc hl (by omega) (by omega))
                  | (rw [e75]
                     exact hyd q hqe hq hqc hl (by omega) (by omega))
              · refine w_iconst (v := iI (-1)) dX11_fibre_67 rfl ?_
                refine v_iret dX11_fibre_68 rfl ⟨rfl, rfl⟩ ?_
                refine hn (fun q' g1 g2 g3 g4 g5 => ?_)
                first | exact absurd (q2 q' g1 g2) g3 | omega | (have g6 : q' = q := (by omega); subst g6; rw [g4] at e14; omega)
          · refine w_aload dX11_fibre_38 rfl ?_
            refine v_getR (j := bI q 6) dX11_fibre_40 fX11_91 (sO_b hq (by decide) rfl) rfl (r0_b hq (by decide)) ?_
            refine w_goto 51 dX11_fibre_43 (by decide) ?_
            refine w_astore dX11_fibre_51 rfl rfl ?_
            refine w_iload_n dX11_fibre_53 rfl ?_
            refine v_if_lt 67 dX11_fibre_54 (by decide) (by omega) (fun c54 => ?_) (fun c54 => ?_)
            · refine w_iconst (v := iI (-1)) dX11_fibre_67 rfl ?_
              refine v_iret dX11_fibre_68 rfl ⟨rfl, rfl⟩ ?_
              refine hn (fun q' g1 g2 g3 g4 g5 => ?_)
              first | exact absurd (q2 q' g1 g2) g3 | omega | (have g6 : q' = q := (by omega); subst g6; rw [g4] at e14; omega)
            · refine w_iload_n dX11_fibre_57 rfl ?_
              refine w_aload dX11_fibre_58 rfl ?_
              refine v_getR (j := bI q 7) dX11_fibre_60 fX11_98 (sO_b hq (by decide) rfl) rfl (r0_b hq (by decide)) ?_
              refine v_alen0 dX11_fibre_63 (sA_b hq (by decide) rfl) ?_
              refine v_icmp_lt 69 dX11_fibre_64 (by decide) (by omega) (by omega) (fun c64 => ?_) (fun c64 => ?_)
              · refine w_aload dX11_fibre_69 rfl ?_
                refine v_getR (j := bI q 7) dX11_fibre_71 fX11_98 (sO_b hq (by decide) rfl) rfl (r0_b hq (by decide)) ?_
                refine w_iload_n dX11_fibre_74 rfl ?_
                refine v_iald dX11_fibre_75 (sA_b hq (by decide) rfl) (by omega) (by omega) (by decide) (fun z75 e75 b75 => ?_)
                refine w_istore dX11_fibre_76 rfl rfl ?_
                refine w_aload dX11_fibre_78 rfl ?_
                refine v_getR (j := bI q 7) dX11_fibre_80 fX11_98 (sO_b hq (by decide) rfl) rfl (r0_b hq (by decide)) ?_
                refine w_iload_n dX11_fibre_83 rfl ?_
                refine w_iload dX11_fibre_84 rfl ?_
                refine v_iast dX11_fibre_86 (sA_b hq (by decide) rfl) (by omega) (by omega) (by decide) ?_
                refine w_iload dX11_fibre_87 rfl ?_
                refine v_iret dX11_fibre_89 rfl ⟨rfl, rfl⟩ ?_
                have hl : rd I (bI q 0) 13 = 0 := by omega
                first
                  | (rw [e75]
                     exact hya q hqe hq hqc hl (by omega) (by omega))
                  | (rw [e75]
                     exact hyd q hqe hq hqc hl (by omega) (by omega))
              · refine w_iconst (v := iI (-1)) dX11_fibre_67 rfl ?_
                refine v_iret dX11_fibre_68 rfl ⟨rfl, rfl⟩ ?_
                refine hn (fun q' g1 g2 g3 g4 g5 => ?_)
                first | exact absurd (q2 q' g1 g2) g3 | omega | (have g6 : q' = q := (by omega); subst g6; rw [g4] at e14; omega)
        · refine w_iconst (v := iI (-1)) dX11_fibre_32 rfl ?_
          refine v_iret dX11_fibre_33 rfl ⟨rfl, rfl⟩ ?_
          refine hn (fun q' g1 g2 g3 g4 g5 => ?_)
          first | exact absurd (q2 q' g1 g2) g3 | omega | (have g6 : q' = q := (by omega); subst g6; rw [g4] at e14; omega)
theorem x12_word_c {I : Nat → Nat → Int32} {J : Nat → Nat → Int64} {F : Option Value → zM → Prop} {t wn : Nat} (ht : rd I 171 1 = t) (ht2 : t ≤ 200) (hw : rd I 171 12 = wn) (hw2 : wn ≤ 12) (hn : ¬ (1 ≤ t ∧ t ≤ 10 ∧ wn < 12 ∧ ∀ k, k < t → isLt (rd I 172 k)) → F (some (.int (iI (-1)))) (gM (wr I 171 1 0) J)) (hy : (1 ≤ t ∧ t ≤ 10 ∧ wn < 12 ∧ ∀ k, k < t → isLt (rd I 172 k)) → ∀ I', (rd I' 171 1 = 0 ∧ rd I' 171 12 = (wn : Int) + 1 ∧ rd I' 183 wn = t ∧ (∀ k, k < t → rd I' 184 (10 * wn + k) = rd I 172 k) ∧ fq (fun id k => (id = 171 ∧ (k = 1 ∨ k = 12)) ∨ (id = 183 ∧ k = wn) ∨ (id = 184 ∧ 10 * wn ≤ k ∧ k < 10 * wn + 10)) I I') → F (some (.int (iI ((wn : Int) + 1)))) (gM I' J)) (hok : (1 ≤ t ∧ t ≤ 10 ∧ wn < 12 ∧ ∀ k, k < t → isLt (rd I 172 k))) : ∀ (nz : Nat) (k : Nat) (I' : Nat → Nat → Int32), t - k < nz → k ≤ t → (rd I' 171 1 = 0 ∧ rd I' 171 12 = wn ∧ rd I' 183 wn = t ∧ (∀ j, j < k → rd I' 184 (10 * wn + j) = rd I 172 j) ∧ fq (fun id k => (id = 171 ∧ (k = 1 ∨ k = 12)) ∨ (id = 183 ∧ k = wn) ∨ (id = 184 ∧ 10 * wn ≤ k ∧ k < 10 * wn + 10)) I I') → Wp (sE kX12_word RX12) F 71 [(0, .ref 171), (1, .int (iI (t : Int))), (2, .int (iI (k : Int)))] [] (gM I' J) := by
  intro nz
  induction nz with
  | zero =>
    intro k I' hmz hk hI
    exact absurd hmz (Nat.not_lt_zero _)
  | succ nz ih =>
    intro k I' hmz hk hI
    refine w_iload_n dX12_word_71 rfl ?_
    refine w_iload_n dX12_word_72 rfl ?_
    refine v_icmp_ge 102 dX12_word_73 (by decide) (by omega) (by omega) (fun c73 => ?_) (fun c73 => ?_)
    · refine w_aload_n dX12_word_102 rfl ?_
      refine w_dup dX12_word_103 rfl ?_
      refine v_getI dX12_word_104 fX12_83 ⟨by decide, rfl⟩ (Or.inl rfl) (fun z104 e104 b104 => ?_)
      have f104 : z104 = wn := by rw [e104]; exact hI.2.1
      refine w_iconst (v := iI 1) dX12_word_107 rfl ?_
      refine v_iadd dX12_word_108 ?_
      refine v_putI dX12_word_109 fX12_83 ⟨by decide, rfl⟩ rfl (Or.inl rfl) ?_
      refine w_aload_n dX12_word_112 rfl ?_
      refine v_getI dX12_word_113 fX12_83 ⟨by decide, rfl⟩ (Or.inl rfl) (fun z113 e113 b113 => ?_)
      have f113 : z113 = (wn : Int) + 1 := by rw [e113, f104, rd_wr_eq (by omega) (by omega)]
      refine v_iret dX12_word_116 rfl ⟨rfl, rfl⟩ ?_
      have g : k = t := by omega
      subst g
      rw [f113]
      refine hy hok _ ⟨?_, ?_, ?_, fun j hj => ?_, fun id j hj => ?_⟩
      · rw [rd_wr_ne (by omega)]; exact hI.1
      · rw [rd_wr_eq (by omega) (by omega)]; omega
      · rw [rd_wr_row (by decide)]; exact hI.2.2.1
      · rw [rd_wr_row (by decide)]; exact hI.2.2.2.1 j hj
      · rw [rd_wr_ne (by (try dsimp only at hj); omega)]; exact hI.2.2.2.2 id j hj
    · refine w_aload_n dX12_word_76 rfl ?_
      refine v_getR (j := 184) dX12_word_77 fX12_47 ⟨by decide, rfl⟩ rfl rfl ?_
      refine w_bipush (v := iI 10) dX12_word_80 (by decide) ?_
      refine w_aload_n dX12_word_82 rfl ?_
      refine v_getI dX12_word_83 fX12_83 ⟨by decide, rfl⟩ (Or.inl rfl) (fun z83 e83 b83 => ?_)
      have f83 : z83 = wn := by rw [e83]; exact hI.2.1
      refine v_imul dX12_word_86 ?_
      refine w_iload_n dX12_word_87 rfl ?_
      refine v_iadd dX12_word_88 ?_
      refine w_aload_n dX12_word_89 rfl ?_
      refine v_getR (j := 172) dX12_word_90 fX12_7 ⟨by decide, rfl⟩ rfl rfl ?_
      refine w_iload_n dX12_word_93 rfl ?_
      refine v_iald dX12_word_94 ⟨by decide, rfl⟩ (by omega) (by omega) (by decide) (fun z94 e94 b94 => ?_)
      have f94 : z94 = rd I 172 k := by rw [e94, hI.2.2.2.2 _ _ (by (try dsimp only); omega)]; congr 1
      refine v_iast dX12_word_95 ⟨by decide, rfl⟩ (by omega) (by omega) (by decide) ?_
      refine v_iinc dX12_word_96 rfl rfl rfl ?_
      refine w_goto 71 dX12_word_99 (by decide) ?_
      refine ih (k + 1) _ (by omega) (by omega) ⟨?_, ?_, ?_, fun j hj => ?_, fun id j hj => ?_⟩
      · rw [rd_wr_row (by decide)]; exact hI.1
      · rw [rd_wr_row (by decide)]; exact hI.2.1
      · rw [rd_wr_row (by decide)]; exact hI.2.2.1
      · rw [rd_wr (by omega) (by omega)]
        by_cases g : j = k
        · rw [if_pos ⟨rfl, by omega⟩, g]; exact f94
        · rw [if_neg (by omega)]; exact hI.2.2.2.1 j (by omega)
      · rw [rd_wr_ne (by (try dsimp only at hj); omega)]; exact hI.2.2.2.2 id j hj
theorem x12_word_l {I : Nat → Nat → Int32} {J : Nat → Nat → Int64} {F : Option Value → zM → Prop} {t wn : Nat} (ht : rd I 171 1 = t) (ht2 : t ≤ 200) (hw : rd I 171 12 = wn) (hw2 : wn ≤ 12) (hn : ¬ (1 ≤ t ∧ t ≤ 10 ∧ wn < 12 ∧ ∀ k, k < t → isLt (rd I 172 k)) → F (some (.int (iI (-1)))) (gM (wr I 171 1 0) J)) (hy : (1 ≤ t ∧ t ≤ 10 ∧ wn < 12 ∧ ∀ k, k < t → isLt (rd I 172 k)) → ∀ I', (rd I' 171 1 = 0 ∧ rd I' 171 12 = (wn : Int) + 1 ∧ rd I' 183 wn = t ∧ (∀ k, k < t → rd I' 184 (10 * wn + k) = rd I 172 k) ∧ fq (fun id k => (id = 171 ∧ (k = 1 ∨ k = 12)) ∨ (id = 183 ∧ k = wn) ∨ (id = 184 ∧ 10 * wn ≤ k ∧ k < 10 * wn + 10)) I I') → F (some (.int (iI ((wn : Int) + 1)))) (gM I' J)) (h1 : 1 ≤ t) (h2 : t ≤ 10) (h3 : wn < 12) : ∀ (nz : Nat) (k : Nat), t - k < nz → k ≤ t → (∀ j, j < k → isLt (rd I 172 j)) → Wp (sE kX12_word RX12) F 34 [(0, .ref 171), (1, .int (iI (t : Int))), (2, .int (iI (k : Int)))] [] (gM (wr I 171 1 0) J) := by
  intro nz
  induction nz with
  | zero =>
    intro k hmz hk ha
    exact absurd hmz (Nat.not_lt_zero _)
  | succ nz ih =>
    intro k hmz hk ha
    refine w_iload_n dX12_word_34 rfl ?_
    refine w_iload_n dX12_word_35 rfl ?_
    refine v_icmp_ge 59 dX12_word_36 (by decide) (by omega) (by omega) (fun c36 => ?_) (fun c36 => ?_)
    · refine w_aload_n dX12_word_59 rfl ?_
      refine v_getR (j := 183) dX12_word_60 fX12_44 ⟨by decide, rfl⟩ rfl rfl ?_
      refine w_aload_n dX12_word_63 rfl ?_
      refine v_getI dX12_word_64 fX12_83 ⟨by decide, rfl⟩ (Or.inl rfl) (fun z64 e64 b64 => ?_)
      have f64 : z64 = wn := by rw [e64, rd_wr_ne (by omega)]; exact hw
      refine w_iload_n dX12_word_67 rfl ?_
      refine v_iast dX12_word_68 ⟨by decide, rfl⟩ (by omega) (by omega) (by decide) ?_
      refine w_iconst (v := iI 0) dX12_word_69 rfl ?_
      refine w_istore_n dX12_word_70 rfl rfl ?_
      rw [show z64.toNat = wn by omega]
      refine x12_word_c ht ht2 hw hw2 hn hy ⟨h1, h2, h3, fun j hj => ha j (by omega)⟩ (t + 1) 0 _ (by omega) (by omega) ⟨?_, ?_, ?_, fun j hj => by omega, fun id j hj => ?_⟩
      · rw [rd_wr_row (by decide)]; exact rd_wr_eq (by omega) (by omega)
      · rw [rd_wr_row (by decide), rd_wr_ne (by omega)]; exact hw
      · exact rd_wr_eq (by omega) (by omega)
      · rw [rd_wr_ne (by (try dsimp only at hj); omega), rd_wr_ne (by (try dsimp only at hj); omega)]
    · refine w_aload_n dX12_word_39 rfl ?_
      refine v_getR (j := 172) dX12_word_40 fX12_7 ⟨by decide, rfl⟩ rfl rfl ?_
      refine w_iload_n dX12_word_43 rfl ?_
      refine v_iald dX12_word_44 ⟨by decide, rfl⟩ (by omega) (by omega) (by decide) (fun z44 e44 b44 => ?_)
      have f44 : z44 = rd I 172 k := by rw [e44, rd_wr_row (by decide)]; congr 1
      refine v_callS1 dX12_word_45 lX12_73 vX12_isLetter (by decide) rfl rfl (Nat.le_of_ble_eq_true rfl) ?_
      refine x12_isLetter (by omega) (fun q45 => ?_) (fun q45 => ?_)
      · refine v_if_ne 53 dX12_word_48 (by decide) (by decide) (fun _ => ?_) (fun q => absurd q (by decide))
        refine v_iinc dX12_word_53 rfl rfl rfl ?_
        refine w_goto 34 dX12_word_56 (by decide) ?_
        refine ih (k + 1) (by omega) (by omega) (fun j hj => ?_)
        rcases Nat.lt_succ_iff_lt_or_eq.mp hj with g | g
        · exact ha j g
        · subst g; rw [← f44]; exact q45
      · refine v_if_ne 53 dX12_word_48 (by decide) (by decide) (fun q => absurd q (by decide)) (fun _ => ?_)
        refine w_iconst (v := iI (-1)) dX12_word_51 rfl ?_
        refine v_iret dX12_word_52 rfl ⟨rfl, rfl⟩ ?_
        refine hn (fun g => q45 ?_)
        rw [f44]
        exact g.2.2.2 k (by omega)
theorem x12_word {I : Nat → Nat → Int32} {J : Nat → Nat → Int64} {F : Option Value → zM → Prop} {t wn : Nat} (ht : rd I 171 1 = t) (ht2 : t ≤ 200) (hw : rd I 171 12 = wn) (hw2 : wn ≤ 12) (hn : ¬ (1 ≤ t ∧ t ≤ 10 ∧ wn < 12 ∧ ∀ k, k < t → isLt (rd I 172 k)) → F (some (.int (iI (-1)))) (gM (wr I 171 1 0) J)) (hy : (1 ≤ t ∧ t ≤ 10 ∧ wn < 12 ∧ ∀ k, k < t → isLt (rd I 172 k)) → ∀ I', (rd I' 171 1 = 0 ∧ rd I' 171 12 = (wn : Int) + 1 ∧ rd I' 183 wn = t ∧ (∀ k, k < t → rd I' 184 (10 * wn + k) = rd I 172 k) ∧ fq (fun id k => (id = 171 ∧ (k = 1 ∨ k = 12)) ∨ (id = 183 ∧ k = wn) ∨ (id = 184 ∧ 10 * wn ≤ k ∧ k < 10 * wn + 10)) I I') → F (some (.int (iI ((wn : Int) + 1)))) (gM I' J)) : Cl yX12_word kX12_word [.ref 171] (gM I J) F := by
  refine cl_s (by decide) (by decide) (Nat.le_of_ble_eq_true rfl) rt_i ?_
  show Wp _ F 0 [(0, .ref 171)] [] _
  refine w_aload_n dX12_word_0 rfl ?_
  refine v_getI dX12_word_1 fX12_65 ⟨by decide, rfl⟩ (Or.inl rfl) (fun z1 e1 b1 => ?_)
  have f1 : z1 = t := by rw [e1]; exact ht
  subst f1
  refine w_istore_n dX12_word_4 rfl rfl ?_
  refine w_aload_n dX12_word_5 rfl ?_
  refine w_iconst (v := iI 0) dX12_word_6 rfl ?_
  refine v_putI dX12_word_7 fX12_65 ⟨by decide, rfl⟩ rfl (Or.inl rfl) ?_
  refine w_iload_n dX12_word_10 rfl ?_
  refine w_iconst (v := iI 1) dX12_word_11 rfl ?_
  refine v_icmp_lt 30 dX12_word_12 (by decide) (by omega) (by omega) (fun c12 => ?_) (fun c12 => ?_)
  · refine w_iconst (v := iI (-1)) dX12_word_30 rfl ?_
    refine v_iret dX12_word_31 rfl ⟨rfl, rfl⟩ ?_
    exact hn (by omega)
  · refine w_iload_n dX12_word_15 rfl ?_
    refine w_bipush (v := iI 10) dX12_word_16 (by decide) ?_
    refine v_icmp_gt 30 dX12_word_18 (by decide) (by omega) (by omega) (fun c18 => ?_) (fun c18 => ?_)
    · refine w_iconst (v := iI (-1)) dX12_word_30 rfl ?_
      refine v_iret dX12_word_31 rfl ⟨rfl, rfl⟩ ?_
      exact hn (by omega)
    · refine w_aload_n dX12_word_21 rfl ?_
      refine v_getI dX12_word_22 fX12_83 ⟨by decide, rfl⟩ (Or.inl rfl) (fun z22 e22 b22 => ?_)
      have f22 : z22 = wn := by rw [e22, rd_wr_ne (by omega)]; exact hw
      refine w_bipush (v := iI 12) dX12_word_25 (by decide) ?_
      refine v_icmp_ne 32 dX12_word_27 (by decide) (by omega) (by omega) (fun c27 => ?_) (fun c27 => ?_)
      · refine w_iconst (v := iI 0) dX12_word_32 rfl ?_
        refine w_istore_n dX12_word_33 rfl rfl ?_
        exact x12_word_l ht ht2 hw hw2 hn hy (by omega) (by omega) (by omega) (t + 1) 0 (by omega) (by omega) (fun j hj => by omega)
      · refine w_iconst (v := iI (-1)) dX12_word_30 rfl ?_
        refine v_iret dX12_word_31 rfl ⟨rfl, rfl⟩ ?_
        exact hn (by omega)
