/-! what THE SHEET is worth: the reference -/
def sdK (o : Nat → Int) (a b : Int) (k : Nat) : Int := if o k = a then (if 0 < k % 32 ∧ o (k - 1) = b then 1 else 0) + (if k % 32 < 31 ∧ o (k + 1) = b then 1 else 0) + (if 32 ≤ k ∧ o (k - 32) = b then 1 else 0) + (if k + 32 < 512 ∧ o (k + 32) = b then 1 else 0) else 0
theorem x12_sides_l {I : Nat → Nat → Int32} {J : Nat → Nat → Int64} {F : Option Value → zM → Prop} {a b : Nat} (ha : a < 10) (hb : b < 10) (h : F (some (.int (iI (smN (sdK (fun k => rd I 186 k) a b) 512)))) (gM I J)) : ∀ (nz : Nat) (k : Nat) (u : Int), 512 - k < nz → k ≤ 512 → u = smN (sdK (fun k => rd I 186 k) a b) k → Wp (sE kX12_sides RX12) F 5 [(0, .ref 171), (1, .int (iI (a : Int))), (2, .int (iI (b : Int))), (3, .int (iI u)), (4, .int (iI (k : Int)))] [] (gM I J) := by
  intro nz
  induction nz with
  | zero =>
    intro k u hmz hk hu
    exact absurd hmz (Nat.not_lt_zero _)
  | succ nz ih =>
    intro k u hmz hk hu
    refine w_iload dX12_sides_5 rfl ?_
    refine w_sipush (v := iI 512) dX12_sides_7 (by decide) ?_
    refine v_icmp_ge 135 dX12_sides_10 (by decide) (by omega) (by omega) (fun c10 => ?_) (fun c10 => ?_)
    · refine w_iload_n dX12_sides_135 rfl ?_
      refine v_iret dX12_sides_136 rfl ⟨rfl, rfl⟩ ?_
      have g : k = 512 := by omega
      subst g
      rw [hu]
      exact h
    · refine w_aload_n dX12_sides_13 rfl ?_
      refine v_getR (j := 186) dX12_sides_14 fX12_53 ⟨by decide, rfl⟩ rfl rfl ?_
      refine w_iload dX12_sides_17 rfl ?_
      refine v_iald dX12_sides_19 ⟨by decide, rfl⟩ (by omega) (by omega) (by decide) (fun z19 e19 b19 => ?_)
      have f19 : z19 = rd I 186 k := by rw [e19]; rfl
      refine w_iload_n dX12_sides_20 rfl ?_
      refine v_icmp_eq 27 dX12_sides_21 (by decide) (by omega) (by omega) (fun c21 => ?_) (fun c21 => ?_)
      · refine w_iload dX12_sides_27 rfl ?_
        refine w_bipush (v := iI 32) dX12_sides_29 (by decide) ?_
        refine v_irem dX12_sides_31 (by omega) (by omega) ?_
        refine v_if_le 51 dX12_sides_32 (by decide) (by omega) (fun c32 => ?_) (fun c32 => ?_)
        · refine w_iload dX12_sides_51 rfl ?_
          refine w_bipush (v := iI 32) dX12_sides_53 (by decide) ?_
          refine v_irem dX12_sides_55 (by omega) (by omega) ?_
          refine w_bipush (v := iI 31) dX12_sides_56 (by decide) ?_
          refine v_icmp_ge 77 dX12_sides_58 (by decide) (by omega) (by omega) (fun c58 => ?_) (fun c58 => ?_)
          · refine w_iload dX12_sides_77 rfl ?_
            refine w_bipush (v := iI 32) dX12_sides_79 (by decide) ?_
            refine v_icmp_lt 101 dX12_sides_81 (by decide) (by omega) (by omega) (fun c81 => ?_) (fun c81 => ?_)
            · refine w_iload dX12_sides_101 rfl ?_
              refine w_bipush (v := iI 32) dX12_sides_103 (by decide) ?_
              refine v_iadd dX12_sides_105 ?_
              refine w_sipush (v := iI 512) dX12_sides_106 (by decide) ?_
              refine v_icmp_ge 129 dX12_sides_109 (by decide) (by omega) (by omega) (fun c109 => ?_) (fun c109 => ?_)
              · refine v_iinc dX12_sides_129 rfl rfl rfl ?_
                refine w_goto 5 dX12_sides_132 (by decide) ?_
                rw [show (k : Int) + 1 = ((k + 1 : Nat) : Int) by omega]
                refine ih (k + 1) _ (by omega) (by omega) ?_
                rw [smN, ← hu]
                unfold sdK
                (try dsimp only)
                first
                  | (rw [if_neg (c := rd I 186 k = (a : Int)) (by omega)]; omega)
                  | (rw [if_pos (c := rd I 186 k = (a : Int)) (by omega)]
                     first | rw [if_pos (c := 0 < k % 32 ∧ rd I 186 (k - 1) = (b : Int)) (by omega)] | rw [if_neg (c := 0 < k % 32 ∧ rd I 186 (k - 1) = (b : Int)) (by omega)]
                     first | rw [if_pos (c := k % 32 < 31 ∧ rd I 186 (k + 1) = (b : Int)) (by omega)] | rw [if_neg (c := k % 32 < 31 ∧ rd I 186 (k + 1) = (b : Int)) (by omega)]
                     first | rw [if_pos (c := 32 ≤ k ∧ rd I 186 (k - 32) = (b : Int)) (by omega)] | rw [if_neg (c := 32 ≤ k ∧ rd I 186 (k - 32) = (b : Int)) (by omega)]
                     first | rw [if_pos (c := k + 32 < 512 ∧ rd I 186 (k + 32) = (b : Int)) (by omega)] | rw [if_neg (c := k + 32 < 512 ∧ rd I 186 (k + 32) = (b : Int)) (by omega)]
                     omega)
              · refine w_aload_n dX12_sides_112 rfl ?_
                refine v_getR (j := 186) dX12_sides_113 fX12_53 ⟨by decide, rfl⟩ rfl rfl ?_
                refine w_iload dX12_sides_116 rfl ?_
                refine w_bipush (v := iI 32) dX12_sides_118 (by decide) ?_
                refine v_iadd dX12_sides_120 ?_
                refine v_iald dX12_sides_121 ⟨by decide, rfl⟩ (by omega) (by omega) (by decide) (fun z121 e121 b121 => ?_)
                have f121 : z121 = rd I 186 (k + 32) := by rw [e121]; congr 1
                refine w_iload_n dX12_sides_122 rfl ?_
                refine v_icmp_ne 129 dX12_sides_123 (by decide) (by omega) (by omega) (fun c123 => ?_) (fun c123 => ?_)
                · refine v_iinc dX12_sides_129 rfl rfl rfl ?_
                  refine w_goto 5 dX12_sides_132 (by decide) ?_
                  rw [show (k : Int) + 1 = ((k + 1 : Nat) : Int) by omega]
                  refine ih (k + 1) _ (by omega) (by omega) ?_
                  rw [smN, ← hu]
                  unfold sdK
                  (try dsimp only)
                  first
                    | (rw [if_neg (c := rd I 186 k = (a : Int)) (by omega)]; omega)
                    | (rw [if_pos (c := rd I 186 k = (a : Int)) (by omega)]
                       first | rw [if_pos (c := 0 < k % 32 ∧ rd I 186 (k - 1) = (b : Int)) (by omega)] | rw [if_neg (c := 0 < k % 32 ∧ rd I 186 (k - 1) = (b : Int)) (by omega)]
                       first | rw [if_pos (c := k % 32 < 31 ∧ rd I 186 (k + 1) = (b : Int)) (by omega)] | rw [if_neg (c := k % 32 < 31 ∧ rd I 186 (k + 1) = (b : Int)) (by omega)]
                       first | rw [if_pos (c := 32 ≤ k ∧ rd I 186 (k - 32) = (b : Int)) (by omega)] | rw [if_neg (c := 32 ≤ k ∧ rd I 186 (k - 32) = (b : Int)) (by omega)]
                       first | rw [if_pos (c := k + 32 < 512 ∧ rd I 186 (k + 32) = (b : Int)) (by omega)] | rw [if_neg (c := k + 32 < 512 ∧ rd I 186 (k + 32) = (b : Int)) (by omega)]
                       omega)
                · refine v_iinc dX12_sides_126 rfl rfl rfl ?_
                  refine v_iinc dX12_sides_129 rfl rfl rfl ?_
                  refine w_goto 5 dX12_sides_132 (by decide) ?_
                  rw [show (k : Int) + 1 = ((k + 1 : Nat) : Int) by omega]
                  refine ih (k + 1) _ (by omega) (by omega) ?_
                  rw [smN, ← hu]
                  unfold sdK
                  (try dsimp only)
                  first
                    | (rw [if_neg (c := rd I 186 k = (a : Int)) (by omega)]; omega)
                    | (rw [if_pos (c := rd I 186 k = (a : Int)) (by omega)]
                       first | rw [if_pos (c := 0 < k % 32 ∧ rd I 186 (k - 1) = (b : Int)) (by omega)] | rw [if_neg (c := 0 < k % 32 ∧ rd I 186 (k - 1) = (b : Int)) (by omega)]
                       first | rw [if_pos (c := k % 32 < 31 ∧ rd I 186 (k + 1) = (b : Int)) (by omega)] | rw [if_neg (c := k % 32 < 31 ∧ rd I 186 (k + 1) = (b : Int)) (by omega)]
                       first | rw [if_pos (c := 32 ≤ k ∧ rd I 186 (k - 32) = (b : Int)) (by omega)] | rw [if_neg (c := 32 ≤ k ∧ rd I 186 (k - 32) = (b : Int)) (by omega)]
                       first | rw [if_pos (c := k + 32 < 512 ∧ rd I 186 (k + 32) = (b : Int)) (by omega)] | rw [if_neg (c := k + 32 < 512 ∧ rd I 186 (k + 32) = (b : Int)) (by omega)]
                       omega)
            · refine w_aload_n dX12_sides_84 rfl ?_
              refine v_getR (j := 186) dX12_sides_85 fX12_53 ⟨by decide, rfl⟩ rfl rfl ?_
              refine w_iload dX12_sides_88 rfl ?_
              refine w_bipush (v := iI 32) dX12_sides_90 (by decide) ?_
              refine v_isub dX12_sides_92 ?_
              refine v_iald dX12_sides_93 ⟨by decide, rfl⟩ (by omega) (by omega) (by decide) (fun z93 e93 b93 => ?_)
              have f93 : z93 = rd I 186 (k - 32) := by rw [e93]; congr 1; omega
              refine w_iload_n dX12_sides_94 rfl ?_
              refine v_icmp_ne 101 dX12_sides_95 (by decide) (by omega) (by omega) (fun c95 => ?_) (fun c95 => ?_)
              · refine w_iload dX12_sides_101 rfl ?_
                refine w_bipush (v := iI 32) dX12_sides_103 (by decide) ?_
                refine v_iadd dX12_sides_105 ?_
                refine w_sipush (v := iI 512) dX12_sides_106 (by decide) ?_
                refine v_icmp_ge 129 dX12_sides_109 (by decide) (by omega) (by omega) (fun c109 => ?_) (fun c109 => ?_)
                · refine v_iinc dX12_sides_129 rfl rfl rfl ?_
                  refine w_goto 5 dX12_sides_132 (by decide) ?_
                  rw [show (k : Int) + 1 = ((k + 1 : Nat) : Int) by omega]
                  refine ih (k + 1) _ (by omega) (by omega) ?_
                  rw [smN, ← hu]
                  unfold sdK
                  (try dsimp only)
                  first
                    | (rw [if_neg (c := rd I 186 k = (a : Int)) (by omega)]; omega)
                    | (rw [if_pos (c := rd I 186 k = (a : Int)) (by omega)]
                       first | rw [if_pos (c := 0 < k % 32 ∧ rd I 186 (k - 1) = (b : Int)) (by omega)] | rw [if_neg (c := 0 < k % 32 ∧ rd I 186 (k - 1) = (b : Int)) (by omega)]
                       first | rw [if_pos (c := k % 32 < 31 ∧ rd I 186 (k + 1) = (b : Int)) (by omega)] | rw [if_neg (c := k % 32 < 31 ∧ rd I 186 (k + 1) = (b : Int)) (by omega)]
                       first | rw [if_pos (c := 32 ≤ k ∧ rd I 186 (k - 32) = (b : Int)) (by omega)] | rw [if_neg (c := 32 ≤ k ∧ rd I 186 (k - 32) = (b : Int)) (by omega)]
                       first | rw [if_pos (c := k + 32 < 512 ∧ rd I 186 (k + 32) = (b : Int)) (by omega)] | rw [if_neg (c := k + 32 < 512 ∧ rd I 186 (k + 32) = (b : Int)) (by omega)]
                       omega)
                · refine w_aload_n dX12_sides_112 rfl ?_
                  refine v_getR (j := 186) dX12_sides_113 fX12_53 ⟨by decide, rfl⟩ rfl rfl ?_
                  refine w_iload dX12_sides_116 rfl ?_
                  refine w_bipush (v := iI 32) dX12_sides_118 (by decide) ?_
                  refine v_iadd dX12_sides_120 ?_
                  refine v_iald dX12_sides_121 ⟨by decide, rfl⟩ (by omega) (by omega) (by decide) (fun z121 e121 b121 => ?_)
                  have f121 : z121 = rd I 186 (k + 32) := by rw [e121]; congr 1
                  refine w_iload_n dX12_sides_122 rfl ?_
                  refine v_icmp_ne 129 dX12_sides_123 (by decide) (by omega) (by omega) (fun c123 => ?_) (fun c123 => ?_)
                  · refine v_iinc dX12_sides_129 rfl rfl rfl ?_
                    refine w_goto 5 dX12_sides_132 (by decide) ?_
                    rw [show (k : Int) + 1 = ((k + 1 : Nat) : Int) by omega]
                    refine ih (k + 1) _ (by omega) (by omega) ?_
                    rw [smN, ← hu]
                    unfold sdK
                    (try dsimp only)
                    first
                      | (rw [if_neg (c := rd I 186 k = (a : Int)) (by omega)]; omega)
                      | (rw [if_pos (c := rd I 186 k = (a : Int)) (by omega)]
                         first | rw [if_pos (c := 0 < k % 32 ∧ rd I 186 (k - 1) = (b : Int)) (by omega)] | rw [if_neg (c := 0 < k % 32 ∧ rd I 186 (k - 1) = (b : Int)) (by omega)]
                         first | rw [if_pos (c := k % 32 < 31 ∧ rd I 186 (k + 1) = (b : Int)) (by omega)] | rw [if_neg (c := k % 32 < 31 ∧ rd I 186 (k + 1) = (b : Int)) (by omega)]
                         first | rw [if_pos (c := 32 ≤ k ∧ rd I 186 (k - 32) = (b : Int)) (by omega)] | rw [if_neg (c := 32 ≤ k ∧ rd I 186 (k - 32) = (b : Int)) (by omega)]
                         first | rw [if_pos (c := k + 32 < 512 ∧ rd I 186 (k + 32) = (b : Int)) (by omega)] | rw [if_neg (c := k + 32 < 512 ∧ rd I 186 (k + 32) = (b : Int)) (by omega)]
                         omega)
                  · refine v_iinc dX12_sides_126 rfl rfl rfl ?_
                    refine v_iinc dX12_sides_129 rfl rfl rfl ?_
                    refine w_goto 5 dX12_sides_132 (by decide) ?_
                    rw [show (k : Int) + 1 = ((k + 1 : Nat) : Int) by omega]
                    refine ih (k + 1) _ (by omega) (by omega) ?_
                    rw [smN, ← hu]
                    unfold sdK
                    (try dsimp only)
                    first
                      | (rw [if_neg (c := rd I 186 k = (a : Int)) (by omega)]; omega)
                      | (rw [if_pos (c := rd I 186 k = (a : Int)) (by omega)]
                         first | rw [if_pos (c := 0 < k % 32 ∧ rd I 186 (k - 1) = (b : Int)) (by omega)] | rw [if_neg (c := 0 < k % 32 ∧ rd I 186 (k - 1) = (b : Int)) (by omega)]
                         first | rw [if_pos (c := k % 32 < 31 ∧ rd I 186 (k + 1) = (b : Int)) (by omega)] | rw [if_neg (c := k % 32 < 31 ∧ rd I 186 (k + 1) = (b : Int)) (by omega)]
                         first | rw [if_pos (c := 32 ≤ k ∧ rd I 186 (k - 32) = (b : Int)) (by omega)] | rw [if_neg (c := 32 ≤ k ∧ rd I 186 (k - 32) = (b : Int)) (by omega)]
                         first | rw [if_pos (c := k + 32 < 512 ∧ rd I 186 (k + 32) = (b : Int)) (by omega)] | rw [if_neg (c := k + 32 < 512 ∧ rd I 186 (k + 32) = (b : Int)) (by omega)]
                         omega)
              · refine v_iinc dX12_sides_98 rfl rfl rfl ?_
                refine w_iload dX12_sides_101 rfl ?_
                refine w_bipush (v := iI 32) dX12_sides_103 (by decide) ?_
                refine v_iadd dX12_sides_105 ?_
                refine w_sipush (v := iI 512) dX12_sides_106 (by decide) ?_
                refine v_icmp_ge 129 dX12_sides_109 (by decide) (by omega) (by omega) (fun c109 => ?_) (fun c109 => ?_)
                · refine v_iinc dX12_sides_129 rfl rfl rfl ?_
                  refine w_goto 5 dX12_sides_132 (by decide) ?_
                  rw [show (k : Int) + 1 = ((k + 1 : Nat) : Int) by omega]
                  refine ih (k + 1) _ (by omega) (by omega) ?_
                  rw [smN, ← hu]
                  unfold sdK
                  (try dsimp only)
                  first
                    | (rw [if_neg (c := rd I 186 k = (a : Int)) (by omega)]; omega)
                    | (rw [if_pos (c := rd I 186 k = (a : Int)) (by omega)]
                       first | rw [if_pos (c := 0 < k % 32 ∧ rd I 186 (k - 1) = (b : Int)) (by omega)] | rw [if_neg (c := 0 < k % 32 ∧ rd I 186 (k - 1) = (b : Int)) (by omega)]
                       first | rw [if_pos (c := k % 32 < 31 ∧ rd I 186 (k + 1) = (b : Int)) (by omega)] | rw [if_neg (c := k % 32 < 31 ∧ rd I 186 (k + 1) = (b : Int)) (by omega)]
                       first | rw [if_pos (c := 32 ≤ k ∧ rd I 186 (k - 32) = (b : Int)) (by omega)] | rw [if_neg (c := 32 ≤ k ∧ rd I 186 (k - 32) = (b : Int)) (by omega)]
                       first | rw [if_pos (c := k + 32 < 512 ∧ rd I 186 (k + 32) = (b : Int)) (by omega)] | rw [if_neg (c := k + 32 < 512 ∧ rd I 186 (k + 32) = (b : Int)) (by omega)]
                       omega)
                · refine w_aload_n dX12_sides_112 rfl ?_
                  refine v_getR (j := 186) dX12_sides_113 fX12_53 ⟨by decide, rfl⟩ rfl rfl ?_
                  refine w_iload dX12_sides_116 rfl ?_
                  refine w_bipush (v := iI 32) dX12_sides_118 (by decide) ?_
                  refine v_iadd dX12_sides_120 ?_
                  refine v_iald dX12_sides_121 ⟨by decide, rfl⟩ (by omega) (by omega) (by decide) (fun z121 e121 b121 => ?_)
                  have f121 : z121 = rd I 186 (k + 32) := by rw [e121]; congr 1
                  refine w_iload_n dX12_sides_122 rfl ?_
                  refine v_icmp_ne 129 dX12_sides_123 (by decide) (by omega) (by omega) (fun c123 => ?_) (fun c123 => ?_)
                  · refine v_iinc dX12_sides_129 rfl rfl rfl ?_
                    refine w_goto 5 dX12_sides_132 (by decide) ?_
                    rw [show (k : Int) + 1 = ((k + 1 : Nat) : Int) by omega]
                    refine ih (k + 1) _ (by omega) (by omega) ?_
                    rw [smN, ← hu]
                    unfold sdK
                    (try dsimp only)
                    first
                      | (rw [if_neg (c := rd I 186 k = (a : Int)) (by omega)]; omega)
                      | (rw [if_pos (c := rd I 186 k = (a : Int)) (by omega)]
                         first | rw [if_pos (c := 0 < k % 32 ∧ rd I 186 (k - 1) = (b : Int)) (by omega)] | rw [if_neg (c := 0 < k % 32 ∧ rd I 186 (k - 1) = (b : Int)) (by omega)]
                         first | rw [if_pos (c := k % 32 < 31 ∧ rd I 186 (k + 1) = (b : Int)) (by omega)] | rw [if_neg (c := k % 32 < 31 ∧ rd I 186 (k + 1) = (b : Int)) (by omega)]
                         first | rw [if_pos (c := 32 ≤ k ∧ rd I 186 (k - 32) = (b : Int)) (by omega)] | rw [if_neg (c := 32 ≤ k ∧ rd I 186 (k - 32) = (b : Int)) (by omega)]
                         first | rw [if_pos (c := k + 32 < 512 ∧ rd I 186 (k + 32) = (b : Int)) (by omega)] | rw [if_neg (c := k + 32 < 512 ∧ rd I 186 (k + 32) = (b : Int)) (by omega)]
                         omega)
                  · refine v_iinc dX12_sides_126 rfl rfl rfl ?_
                    refine v_iinc dX12_sides_129 rfl rfl rfl ?_
                    refine w_goto 5 dX12_sides_132 (by decide) ?_
                    rw [show (k : Int) + 1 = ((k + 1 : Nat) : Int) by omega]
                    refine ih (k + 1) _ (by omega) (by omega) ?_
                    rw [smN, ← hu]
                    unfold sdK
                    (try dsimp only)
                    first
                      | (rw [if_neg (c := rd I 186 k = (a : Int)) (by omega)]; omega)
                      | (rw [if_pos (c := rd I 186 k = (a : Int)) (by omega)]
                         first | rw [if_pos (c := 0 < k % 32 ∧ rd I 186 (k - 1) = (b : Int)) (by omega)] | rw [if_neg (c := 0 < k % 32 ∧ rd I 186 (k - 1) = (b : Int)) (by omega)]
                         first | rw [if_pos (c := k % 32 < 31 ∧ rd I 186 (k + 1) = (b : Int)) (by omega)] | rw [if_neg (c := k % 32 < 31 ∧ rd I 186 (k + 1) = (b : Int)) (by omega)]
                         first | rw [if_pos (c := 32 ≤ k ∧ rd I 186 (k - 32) = (b : Int)) (by omega)] | rw [if_neg (c := 32 ≤ k ∧ rd I 186 (k - 32) = (b : Int)) (by omega)]
                         first | rw [if_pos (c := k + 32 < 512 ∧ rd I 186 (k + 32) = (b : Int)) (by omega)] | rw [if_neg (c := k + 32 < 512 ∧ rd I 186 (k + 32) = (b : Int)) (by omega)]
                         omega)
          · refine w_aload_n dX12_sides_61 rfl ?_
            refine v_getR (j := 186) dX12_sides_62 fX12_53 ⟨by decide, rfl⟩ rfl rfl ?_
            refine w_iload dX12_sides_65 rfl ?_
            refine w_iconst (v := iI 1) dX12_sides_67 rfl ?_
            refine v_iadd dX12_sides_68 ?_
            refine v_iald dX12_sides_69 ⟨by decide, rfl⟩ (by omega) (by omega) (by decide) (fun z69 e69 b69 => ?_)
            have f69 : z69 = rd I 186 (k + 1) := by rw [e69]; congr 1
            refine w_iload_n dX12_sides_70 rfl ?_
            refine v_icmp_ne 77 dX12_sides_71 (by decide) (by omega) (by omega) (fun c71 => ?_) (fun c71 => ?_)
            · refine w_iload dX12_sides_77 rfl ?_
              refine w_bipush (v := iI 32) dX12_sides_79 (by decide) ?_
              refine v_icmp_lt 101 dX12_sides_81 (by decide) (by omega) (by omega) (fun c81 => ?_) (fun c81 => ?_)
              · refine w_iload dX12_sides_101 rfl ?_
                refine w_bipush (v := iI 32) dX12_sides_103 (by decide) ?_
                refine v_iadd dX12_sides_105 ?_
                refine w_sipush (v := iI 512) dX12_sides_106 (by decide) ?_
                refine v_icmp_ge 129 dX12_sides_109 (by decide) (by omega) (by omega) (fun c109 => ?_) (fun c109 => ?_)
                · refine v_iinc dX12_sides_129 rfl rfl rfl ?_
                  refine w_goto 5 dX12_sides_132 (by decide) ?_
                  rw [show (k : Int) + 1 = ((k + 1 : Nat) : Int) by omega]
                  refine ih (k + 1) _ (by omega) (by omega) ?_
                  rw [smN, ← hu]
                  unfold sdK
                  (try dsimp only)
                  first
                    | (rw [if_neg (c := rd I 186 k = (a : Int)) (by omega)]; omega)
                    | (rw [if_pos (c := rd I 186 k = (a : Int)) (by omega)]
                       first | rw [if_pos (c := 0 < k % 32 ∧ rd I 186 (k - 1) = (b : Int)) (by omega)] | rw [if_neg (c := 0 < k % 32 ∧ rd I 186 (k - 1) = (b : Int)) (by omega)]
                       first | rw [if_pos (c := k % 32 < 31 ∧ rd I 186 (k + 1) = (b : Int)) (by omega)] | rw [if_neg (c := k % 32 < 31 ∧ rd I 186 (k + 1) = (b : Int)) (by omega)]
                       first | rw [if_pos (c := 32 ≤ k ∧ rd I 186 (k - 32) = (b : Int)) (by omega)] | rw [if_neg (c := 32 ≤ k ∧ rd I 186 (k - 32) = (b : Int)) (by omega)]
                       first | rw [if_pos (c := k + 32 < 512 ∧ rd I 186 (k + 32) = (b : Int)) (by omega)] | rw [if_neg (c := k + 32 < 512 ∧ rd I 186 (k + 32) = (b : Int)) (by omega)]
                       omega)
                · refine w_aload_n dX12_sides_112 rfl ?_
                  refine v_getR (j := 186) dX12_sides_113 fX12_53 ⟨by decide, rfl⟩ rfl rfl ?_
                  refine w_iload dX12_sides_116 rfl ?_
                  refine w_bipush (v := iI 32) dX12_sides_118 (by decide) ?_
                  refine v_iadd dX12_sides_120 ?_
                  refine v_iald dX12_sides_121 ⟨by decide, rfl⟩ (by omega) (by omega) (by decide) (fun z121 e121 b121 => ?_)
                  have f121 : z121 = rd I 186 (k + 32) := by rw [e121]; congr 1
                  refine w_iload_n dX12_sides_122 rfl ?_
                  refine v_icmp_ne 129 dX12_sides_123 (by decide) (by omega) (by omega) (fun c123 => ?_) (fun c123 => ?_)
                  · refine v_iinc dX12_sides_129 rfl rfl rfl ?_
                    refine w_goto 5 dX12_sides_132 (by decide) ?_
                    rw [show (k : Int) + 1 = ((k + 1 : Nat) : Int) by omega]
                    refine ih (k + 1) _ (by omega) (by omega) ?_
                    rw [smN, ← hu]
                    unfold sdK
                    (try dsimp only)
                    first
                      | (rw [if_neg (c := rd I 186 k = (a : Int)) (by omega)]; omega)
                      | (rw [if_pos (c := rd I 186 k = (a : Int)) (by omega)]
                         first | rw [if_pos (c := 0 < k % 32 ∧ rd I 186 (k - 1) = (b : Int)) (by omega)] | rw [if_neg (c := 0 < k % 32 ∧ rd I 186 (k - 1) = (b : Int)) (by omega)]
                         first | rw [if_pos (c := k % 32 < 31 ∧ rd I 186 (k + 1) = (b : Int)) (by omega)] | rw [if_neg (c := k % 32 < 31 ∧ rd I 186 (k + 1) = (b : Int)) (by omega)]
                         first | rw [if_pos (c := 32 ≤ k ∧ rd I 186 (k - 32) = (b : Int)) (by omega)] | rw [if_neg (c := 32 ≤ k ∧ rd I 186 (k - 32) = (b : Int)) (by omega)]
                         first | rw [if_pos (c := k + 32 < 512 ∧ rd I 186 (k + 32) = (b : Int)) (by omega)] | rw [if_neg (c := k + 32 < 512 ∧ rd I 186 (k + 32) = (b : Int)) (by omega)]
                         omega)
                  · refine v_iinc dX12_sides_126 rfl rfl rfl ?_
                    refine v_iinc dX12_sides_129 rfl rfl rfl ?_
                    refine w_goto 5 dX12_sides_132 (by decide) ?_
                    rw [show (k : Int) + 1 = ((k + 1 : Nat) : Int) by omega]
                    refine ih (k + 1) _ (by omega) (by omega) ?_
                    rw [smN, ← hu]
                    unfold sdK
                    (try dsimp only)
                    first
                      | (rw [if_neg (c := rd I 186 k = (a : Int)) (by omega)]; omega)
                      | (rw [if_pos (c := rd I 186 k = (a : Int)) (by omega)]
                         first | rw [if_pos (c := 0 < k % 32 ∧ rd I 186 (k - 1) = (b : Int)) (by omega)] | rw [if_neg (c := 0 < k % 32 ∧ rd I 186 (k - 1) = (b : Int)) (by omega)]
                         first | rw [if_pos (c := k % 32 < 31 ∧ rd I 186 (k + 1) = (b : Int)) (by omega)] | rw [if_neg (c := k % 32 < 31 ∧ rd I 186 (k + 1) = (b : Int)) (by omega)]
                         first | rw [if_pos (c := 32 ≤ k ∧ rd I 186 (k - 32) = (b : Int)) (by omega)] | rw [if_neg (c := 32 ≤ k ∧ rd I 186 (k - 32) = (b : Int)) (by omega)]
                         first | rw [if_pos (c := k + 32 < 512 ∧ rd I 186 (k + 32) = (b : Int)) (by omega)] | rw [if_neg (c := k + 32 < 512 ∧ rd I 186 (k + 32) = (b : Int)) (by omega)]
                         omega)
              · refine w_aload_n dX12_sides_84 rfl ?_
                refine v_getR (j := 186) dX12_sides_85 fX12_53 ⟨by decide, rfl⟩ rfl rfl ?_
                refine w_iload dX12_sides_88 rfl ?_
                refine w_bipush (v := iI 32) dX12_sides_90 (by decide) ?_
                refine v_isub dX12_sides_92 ?_
                refine v_iald dX12_sides_93 ⟨by decide, rfl⟩ (by omega) (by omega) (by decide) (fun z93 e93 b93 => ?_)
                have f93 : z93 = rd I 186 (k - 32) := by rw [e93]; congr 1; omega
                refine w_iload_n dX12_sides_94 rfl ?_
                refine v_icmp_ne 101 dX12_sides_95 (by decide) (by omega) (by omega) (fun c95 => ?_) (fun c95 => ?_)
                · refine w_iload dX12_sides_101 rfl ?_
                  refine w_bipush (v := iI 32) dX12_sides_103 (by decide) ?_
                  refine v_iadd dX12_sides_105 ?_
                  refine w_sipush (v := iI 512) dX12_sides_106 (by decide) ?_
                  refine v_icmp_ge 129 dX12_sides_109 (by decide) (by omega) (by omega) (fun c109 => ?_) (fun c109 => ?_)
                  · refine v_iinc dX12_sides_129 rfl rfl rfl ?_
                    refine w_goto 5 dX12_sides_132 (by decide) ?_
                    rw [show (k : Int) + 1 = ((k + 1 : Nat) : Int) by omega]
                    refine ih (k + 1) _ (by omega) (by omega) ?_
                    rw [smN, ← hu]
                    unfold sdK
                    (try dsimp only)
                    first
                      | (rw [if_neg (c := rd I 186 k = (a : Int)) (by omega)]; omega)
                      | (rw [if_pos (c := rd I 186 k = (a : Int)) (by omega)]
                         first | rw [if_pos (c := 0 < k % 32 ∧ rd I 186 (k - 1) = (b : Int)) (by omega)] | rw [if_neg (c := 0 < k % 32 ∧ rd I 186 (k - 1) = (b : Int)) (by omega)]
                         first | rw [if_pos (c := k % 32 < 31 ∧ rd I 186 (k + 1) = (b : Int)) (by omega)] | rw [if_neg (c := k % 32 < 31 ∧ rd I 186 (k + 1) = (b : Int)) (by omega)]
                         first | rw [if_pos (c := 32 ≤ k ∧ rd I 186 (k - 32) = (b : Int)) (by omega)] | rw [if_neg (c := 32 ≤ k ∧ rd I 186 (k - 32) = (b : Int)) (by omega)]
                         first | rw [if_pos (c := k + 32 < 512 ∧ rd I 186 (k + 32) = (b : Int)) (by omega)] | rw [if_neg (c := k + 32 < 512 ∧ rd I 186 (k + 32) = (b : Int)) (by omega)]
                         omega)
                  · refine w_aload_n dX12_sides_112 rfl ?_
                    refine v_getR (j := 186) dX12_sides_113 fX12_53 ⟨by decide, rfl⟩ rfl rfl ?_
                    refine w_iload dX12_sides_116 rfl ?_
                    refine w_bipush (v := iI 32) dX12_sides_118 (by decide) ?_
                    refine v_iadd dX12_sides_120 ?_
                    refine v_iald dX12_sides_121 ⟨by decide, rfl⟩ (by omega) (by omega) (by decide) (fun z121 e121 b121 => ?_)
                    have f121 : z121 = rd I 186 (k + 32) := by rw [e121]; congr 1
                    refine w_iload_n dX12_sides_122 rfl ?_
                    refine v_icmp_ne 129 dX12_sides_123 (by decide) (by omega) (by omega) (fun c123 => ?_) (fun c123 => ?_)
                    · refine v_iinc dX12_sides_129 rfl rfl rfl ?_
                      refine w_goto 5 dX12_sides_132 (by decide) ?_
                      rw [show (k : Int) + 1 = ((k + 1 : Nat) : Int) by omega]
                      refine ih (k + 1) _ (by omega) (by omega) ?_
                      rw [smN, ← hu]
                      unfold sdK
                      (try dsimp only)
                      first
                        | (rw [if_neg (c := rd I 186 k = (a : Int)) (by omega)]; omega)
                        | (rw [if_pos (c := rd I 186 k = (a : Int)) (by omega)]
                           first | rw [if_pos (c := 0 < k % 32 ∧ rd I 186 (k - 1) = (b : Int)) (by omega)] | rw [if_neg (c := 0 < k % 32 ∧ rd I 186 (k - 1) = (b : Int)) (by omega)]
                           first | rw [if_pos (c := k % 32 < 31 ∧ rd I 186 (k + 1) = (b : Int)) (by omega)] | rw [if_neg (c := k % 32 < 31 ∧ rd I 186 (k + 1) = (b : Int)) (by omega)]
                           first | rw [if_pos (c := 32 ≤ k ∧ rd I 186 (k - 32) = (b : Int)) (by omega)] | rw [if_neg (c := 32 ≤ k ∧ rd I 186 (k - 32) = (b : Int)) (by omega)]
                           first | rw [if_pos (c := k + 32 < 512 ∧ rd I 186 (k + 32) = (b : Int)) (by omega)] | rw [if_neg (c := k + 32 < 512 ∧ rd I 186 (k + 32) = (b : Int)) (by omega)]
                           omega)
                    · refine v_iinc dX12_sides_126 rfl rfl rfl ?_
                      refine v_iinc dX12_sides_129 rfl rfl rfl ?_
                      refine w_goto 5 dX12_sides_132 (by decide) ?_
                      rw [show (k : Int) + 1 = ((k + 1 : Nat) : Int) by omega]
                      refine ih (k + 1) _ (by omega) (by omega) ?_
                      rw [smN, ← hu]
                      unfold sdK
                      (try dsimp only)
                      first
                        | (rw [if_neg (c := rd I 186 k = (a : Int)) (by omega)]; omega)
                        | (rw [if_pos (c := rd I 186 k = (a : Int)) (by omega)]
                           first | rw [if_pos (c := 0 < k % 32 ∧ rd I 186 (k - 1) = (b : Int)) (by omega)] | rw [if_neg (c := 0 < k % 32 ∧ rd I 186 (k - 1) = (b : Int)) (by omega)]
                           first | rw [if_pos (c := k % 32 < 31 ∧ rd I 186 (k + 1) = (b : Int)) (by omega)] | rw [if_neg (c := k % 32 < 31 ∧ rd I 186 (k + 1) = (b : Int)) (by omega)]
                           first | rw [if_pos (c := 32 ≤ k ∧ rd I 186 (k - 32) = (b : Int)) (by omega)] | rw [if_neg (c := 32 ≤ k ∧ rd I 186 (k - 32) = (b : Int)) (by omega)]
                           first | rw [if_pos (c := k + 32 < 512 ∧ rd I 186 (k + 32) = (b : Int)) (by omega)] | rw [if_neg (c := k + 32 < 512 ∧ rd I 186 (k + 32) = (b : Int)) (by omega)]
                           omega)
                · refine v_iinc dX12_sides_98 rfl rfl rfl ?_
                  refine w_iload dX12_sides_101 rfl ?_
                  refine w_bipush (v := iI 32) dX12_sides_103 (by decide) ?_
                  refine v_iadd dX12_sides_105 ?_
                  refine w_sipush (v := iI 512) dX12_sides_106 (by decide) ?_
                  refine v_icmp_ge 129 dX12_sides_109 (by decide) (by omega) (by omega) (fun c109 => ?_) (fun c109 => ?_)
                  · refine v_iinc dX12_sides_129 rfl rfl rfl ?_
                    refine w_goto 5 dX12_sides_132 (by decide) ?_
                    rw [show (k : Int) + 1 = ((k + 1 : Nat) : Int) by omega]
                    refine ih (k + 1) _ (by omega) (by omega) ?_
                    rw [smN, ← hu]
                    unfold sdK
                    (try dsimp only)
                    first
                      | (rw [if_neg (c := rd I 186 k = (a : Int)) (by omega)]; omega)
                      | (rw [if_pos (c := rd I 186 k = (a : Int)) (by omega)]
                         first | rw [if_pos (c := 0 < k % 32 ∧ rd I 186 (k - 1) = (b : Int)) (by omega)] | rw [if_neg (c := 0 < k % 32 ∧ rd I 186 (k - 1) = (b : Int)) (by omega)]
                         first | rw [if_pos (c := k % 32 < 31 ∧ rd I 186 (k + 1) = (b : Int)) (by omega)] | rw [if_neg (c := k % 32 < 31 ∧ rd I 186 (k + 1) = (b : Int)) (by omega)]
                         first | rw [if_pos (c := 32 ≤ k ∧ rd I 186 (k - 32) = (b : Int)) (by omega)] | rw [if_neg (c := 32 ≤ k ∧ rd I 186 (k - 32) = (b : Int)) (by omega)]
                         first | rw [if_pos (c := k + 32 < 512 ∧ rd I 186 (k + 32) = (b : Int)) (by omega)] | rw [if_neg (c := k + 32 < 512 ∧ rd I 186 (k + 32) = (b : Int)) (by omega)]
                         omega)
                  · refine w_aload_n dX12_sides_112 rfl ?_
                    refine v_getR (j := 186) dX12_sides_113 fX12_53 ⟨by decide, rfl⟩ rfl rfl ?_
                    refine w_iload dX12_sides_116 rfl ?_
                    refine w_bipush (v := iI 32) dX12_sides_118 (by decide) ?_
                    refine v_iadd dX12_sides_120 ?_
                    refine v_iald dX12_sides_121 ⟨by decide, rfl⟩ (by omega) (by omega) (by decide) (fun z121 e121 b121 => ?_)
                    have f121 : z121 = rd I 186 (k + 32) := by rw [e121]; congr 1
                    refine w_iload_n dX12_sides_122 rfl ?_
                    refine v_icmp_ne 129 dX12_sides_123 (by decide) (by omega) (by omega) (fun c123 => ?_) (fun c123 => ?_)
                    · refine v_iinc dX12_sides_129 rfl rfl rfl ?_
                      refine w_goto 5 dX12_sides_132 (by decide) ?_
                      rw [show (k : Int) + 1 = ((k + 1 : Nat) : Int) by omega]
                      refine ih (k + 1) _ (by omega) (by omega) ?_
                      rw [smN, ← hu]
                      unfold sdK
                      (try dsimp only)
                      first
                        | (rw [if_neg (c := rd I 186 k = (a : Int)) (by omega)]; omega)
                        | (rw [if_pos (c := rd I 186 k = (a : Int)) (by omega)]
                           first | rw [if_pos (c := 0 < k % 32 ∧ rd I 186 (k - 1) = (b : Int)) (by omega)] | rw [if_neg (c := 0 < k % 32 ∧ rd I 186 (k - 1) = (b : Int)) (by omega)]
                           first | rw [if_pos (c := k % 32 < 31 ∧ rd I 186 (k + 1) = (b : Int)) (by omega)] | rw [if_neg (c := k % 32 < 31 ∧ rd I 186 (k + 1) = (b : Int)) (by omega)]
                           first | rw [if_pos (c := 32 ≤ k ∧ rd I 186 (k - 32) = (b : Int)) (by omega)] | rw [if_neg (c := 32 ≤ k ∧ rd I 186 (k - 32) = (b : Int)) (by omega)]
                           first | rw [if_pos (c := k + 32 < 512 ∧ rd I 186 (k + 32) = (b : Int)) (by omega)] | rw [if_neg (c := k + 32 < 512 ∧ rd I 186 (k + 32) = (b : Int)) (by omega)]
                           omega)
                    · refine v_iinc dX12_sides_126 rfl rfl rfl ?_
                      refine v_iinc dX12_sides_129 rfl rfl rfl ?_
                      refine w_goto 5 dX12_sides_132 (by decide) ?_
                      rw [show (k : Int) + 1 = ((k + 1 : Nat) : Int) by omega]
                      refine ih (k + 1) _ (by omega) (by omega) ?_
                      rw [smN, ← hu]
                      unfold sdK
                      (try dsimp only)
                      first
                        | (rw [if_neg (c := rd I 186 k = (a : Int)) (by omega)]; omega)
                        | (rw [if_pos (c := rd I 186 k = (a : Int)) (by omega)]
                           first | rw [if_pos (c := 0 < k % 32 ∧ rd I 186 (k - 1) = (b : Int)) (by omega)] | rw [if_neg (c := 0 < k % 32 ∧ rd I 186 (k - 1) = (b : Int)) (by omega)]
                           first | rw [if_pos (c := k % 32 < 31 ∧ rd I 186 (k + 1) = (b : Int)) (by omega)] | rw [if_neg (c := k % 32 < 31 ∧ rd I 186 (k + 1) = (b : Int)) (by omega)]
                           first | rw [if_pos (c := 32 ≤ k ∧ rd I 186 (k - 32) = (b : Int)) (by omega)] | rw [if_neg (c := 32 ≤ k ∧ rd I 186 (k - 32) = (b : Int)) (by omega)]
                           first | rw [if_pos (c := k + 32 < 512 ∧ rd I 186 (k + 32) = (b : Int)) (by omega)] | rw [if_neg (c := k + 32 < 512 ∧ rd I 186 (k + 32) = (b : Int)) (by omega)]
                           omega)
            · refine v_iinc dX12_sides_74 rfl rfl rfl ?_
              refine w_iload dX12_sides_77 rfl ?_
              refine w_bipush (v := iI 32) dX12_sides_79 (by decide) ?_
              refine v_icmp_lt 101 dX12_sides_81 (by decide) (by omega) (by omega) (fun c81 => ?_) (fun c81 => ?_)
              · refine w_iload dX12_sides_101 rfl ?_
                refine w_bipush (v := iI 32) dX12_sides_103 (by decide) ?_
                refine v_iadd dX12_sides_105 ?_
                refine w_sipush (v := iI 512) dX12_sides_106 (by decide) ?_
                refine v_icmp_ge 129 dX12_sides_109 (by decide) (by omega) (by omega) (fun c109 => ?_) (fun c109 => ?_)
                · refine v_iinc dX12_sides_129 rfl rfl rfl ?_
                  refine w_goto 5 dX12_sides_132 (by decide) ?_
                  rw [show (k : Int) + 1 = ((k + 1 : Nat) : Int) by omega]
                  refine ih (k + 1) _ (by omega) (by omega) ?_
                  rw [smN, ← hu]
                  unfold sdK
                  (try dsimp only)
                  first
                    | (rw [if_neg (c := rd I 186 k = (a : Int)) (by omega)]; omega)
                    | (rw [if_pos (c := rd I 186 k = (a : Int)) (by omega)]
                       first | rw [if_pos (c := 0 < k % 32 ∧ rd I 186 (k - 1) = (b : Int)) (by omega)] | rw [if_neg (c := 0 < k % 32 ∧ rd I 186 (k - 1) = (b : Int)) (by omega)]
                       first | rw [if_pos (c := k % 32 < 31 ∧ rd I 186 (k + 1) = (b : Int)) (by omega)] | rw [if_neg (c := k % 32 < 31 ∧ rd I 186 (k + 1) = (b : Int)) (by omega)]
                       first | rw [if_pos (c := 32 ≤ k ∧ rd I 186 (k - 32) = (b : Int)) (by omega)] | rw [if_neg (c := 32 ≤ k ∧ rd I 186 (k - 32) = (b : Int)) (by omega)]
                       first | rw [if_pos (c := k + 32 < 512 ∧ rd I 186 (k + 32) = (b : Int)) (by omega)] | rw [if_neg (c := k + 32 < 512 ∧ rd I 186 (k + 32) = (b : Int)) (by omega)]
                       omega)
                · refine w_aload_n dX12_sides_112 rfl ?_
                  refine v_getR (j := 186) dX12_sides_113 fX12_53 ⟨by decide, rfl⟩ rfl rfl ?_
                  refine w_iload dX12_sides_116 rfl ?_
                  refine w_bipush (v := iI 32) dX12_sides_118 (by decide) ?_
                  refine v_iadd dX12_sides_120 ?_
                  refine v_iald dX12_sides_121 ⟨by decide, rfl⟩ (by omega) (by omega) (by decide) (fun z121 e121 b121 => ?_)
                  have f121 : z121 = rd I 186 (k + 32) := by rw [e121]; congr 1
                  refine w_iload_n dX12_sides_122 rfl ?_
                  refine v_icmp_ne 129 dX12_sides_123 (by decide) (by omega) (by omega) (fun c123 => ?_) (fun c123 => ?_)
                  · refine v_iinc dX12_sides_129 rfl rfl rfl ?_
                    refine w_goto 5 dX12_sides_132 (by decide) ?_
                    rw [show (k : Int) + 1 = ((k + 1 : Nat) : Int) by omega]
                    refine ih (k + 1) _ (by omega) (by omega) ?_
                    rw [smN, ← hu]
                    unfold sdK
                    (try dsimp only)
                    first
                      | (rw [if_neg (c := rd I 186 k = (a : Int)) (by omega)]; omega)
                      | (rw [if_pos (c := rd I 186 k = (a : Int)) (by omega)]
                         first | rw [if_pos (c := 0 < k % 32 ∧ rd I 186 (k - 1) = (b : Int)) (by omega)] | rw [if_neg (c := 0 < k % 32 ∧ rd I 186 (k - 1) = (b : Int)) (by omega)]
                         first | rw [if_pos (c := k % 32 < 31 ∧ rd I 186 (k + 1) = (b : Int)) (by omega)] | rw [if_neg (c := k % 32 < 31 ∧ rd I 186 (k + 1) = (b : Int)) (by omega)]
                         first | rw [if_pos (c := 32 ≤ k ∧ rd I 186 (k - 32) = (b : Int)) (by omega)] | rw [if_neg (c := 32 ≤ k ∧ rd I 186 (k - 32) = (b : Int)) (by omega)]
                         first | rw [if_pos (c := k + 32 < 512 ∧ rd I 186 (k + 32) = (b : Int)) (by omega)] | rw [if_neg (c := k + 32 < 512 ∧ rd I 186 (k + 32) = (b : Int)) (by omega)]
                         omega)
                  · refine v_iinc dX12_sides_126 rfl rfl rfl ?_
                    refine v_iinc dX12_sides_129 rfl rfl rfl ?_
                    refine w_goto 5 dX12_sides_132 (by decide) ?_
                    rw [show (k : Int) + 1 = ((k + 1 : Nat) : Int) by omega]
                    refine ih (k + 1) _ (by omega) (by omega) ?_
                    rw [smN, ← hu]
                    unfold sdK
                    (try dsimp only)
                    first
                      | (rw [if_neg (c := rd I 186 k = (a : Int)) (by omega)]; omega)
                      | (rw [if_pos (c := rd I 186 k = (a : Int)) (by omega)]
                         first | rw [if_pos (c := 0 < k % 32 ∧ rd I 186 (k - 1) = (b : Int)) (by omega)] | rw [if_neg (c := 0 < k % 32 ∧ rd I 186 (k - 1) = (b : Int)) (by omega)]
                         first | rw [if_pos (c := k % 32 < 31 ∧ rd I 186 (k + 1) = (b : Int)) (by omega)] | rw [if_neg (c := k % 32 < 31 ∧ rd I 186 (k + 1) = (b : Int)) (by omega)]
                         first | rw [if_pos (c := 32 ≤ k ∧ rd I 186 (k - 32) = (b : Int)) (by omega)] | rw [if_neg (c := 32 ≤ k ∧ rd I 186 (k - 32) = (b : Int)) (by omega)]
                         first | rw [if_pos (c := k + 32 < 512 ∧ rd I 186 (k + 32) = (b : Int)) (by omega)] | rw [if_neg (c := k + 32 < 512 ∧ rd I 186 (k + 32) = (b : Int)) (by omega)]
                         omega)
              · refine w_aload_n dX12_sides_84 rfl ?_
                refine v_getR (j := 186) dX12_sides_85 fX12_53 ⟨by decide, rfl⟩ rfl rfl ?_
                refine w_iload dX12_sides_88 rfl ?_
                refine w_bipush (v := iI 32) dX12_sides_90 (by decide) ?_
                refine v_isub dX12_sides_92 ?_
                refine v_iald dX12_sides_93 ⟨by decide, rfl⟩ (by omega) (by omega) (by decide) (fun z93 e93 b93 => ?_)
                have f93 : z93 = rd I 186 (k - 32) := by rw [e93]; congr 1; omega
                refine w_iload_n dX12_sides_94 rfl ?_
                refine v_icmp_ne 101 dX12_sides_95 (by decide) (by omega) (by omega) (fun c95 => ?_) (fun c95 => ?_)
                · refine w_iload dX12_sides_101 rfl ?_
                  refine w_bipush (v := iI 32) dX12_sides_103 (by decide) ?_
                  refine v_iadd dX12_sides_105 ?_
                  refine w_sipush (v := iI 512) dX12_sides_106 (by decide) ?_
                  refine v_icmp_ge 129 dX12_sides_109 (by decide) (by omega) (by omega) (fun c109 => ?_) (fun c109 => ?_)
                  · refine v_iinc dX12_sides_129 rfl rfl rfl ?_
                    refine w_goto 5 dX12_sides_132 (by decide) ?_
                    rw [show (k : Int) + 1 = ((k + 1 : Nat) : Int) by omega]
                    refine ih (k + 1) _ (by omega) (by omega) ?_
                    rw [smN, ← hu]
                    unfold sdK
                    (try dsimp only)
                    first
                      | (rw [if_neg (c := rd I 186 k = (a : Int)) (by omega)]; omega)
                      | (rw [if_pos (c := rd I 186 k = (a : Int)) (by omega)]
                         first | rw [if_pos (c := 0 < k % 32 ∧ rd I 186 (k - 1) = (b : Int)) (by omega)] | rw [if_neg (c := 0 < k % 32 ∧ rd I 186 (k - 1) = (b : Int)) (by omega)]
                         first | rw [if_pos (c := k % 32 < 31 ∧ rd I 186 (k + 1) = (b : Int)) (by omega)] | rw [if_neg (c := k % 32 < 31 ∧ rd I 186 (k + 1) = (b : Int)) (by omega)]
                         first | rw [if_pos (c := 32 ≤ k ∧ rd I 186 (k - 32) = (b : Int)) (by omega)] | rw [if_neg (c := 32 ≤ k ∧ rd I 186 (k - 32) = (b : Int)) (by omega)]
                         first | rw [if_pos (c := k + 32 < 512 ∧ rd I 186 (k + 32) = (b : Int)) (by omega)] | rw [if_neg (c := k + 32 < 512 ∧ rd I 186 (k + 32) = (b : Int)) (by omega)]
                         omega)
                  · refine w_aload_n dX12_sides_112 rfl ?_
                    refine v_getR (j := 186) dX12_sides_113 fX12_53 ⟨by decide, rfl⟩ rfl rfl ?_
                    refine w_iload dX12_sides_116 rfl ?_
                    refine w_bipush (v := iI 32) dX12_sides_118 (by decide) ?_
                    refine v_iadd dX12_sides_120 ?_
                    refine v_iald dX12_sides_121 ⟨by decide, rfl⟩ (by omega) (by omega) (by decide) (fun z121 e121 b121 => ?_)
                    have f121 : z121 = rd I 186 (k + 32) := by rw [e121]; congr 1
                    refine w_iload_n dX12_sides_122 rfl ?_
                    refine v_icmp_ne 129 dX12_sides_123 (by decide) (by omega) (by omega) (fun c123 => ?_) (fun c123 => ?_)
                    · refine v_iinc dX12_sides_129 rfl rfl rfl ?_
                      refine w_goto 5 dX12_sides_132 (by decide) ?_
                      rw [show (k : Int) + 1 = ((k + 1 : Nat) : Int) by omega]
                      refine ih (k + 1) _ (by omega) (by omega) ?_
                      rw [smN, ← hu]
                      unfold sdK
                      (try dsimp only)
                      first
                        | (rw [if_neg (c := rd I 186 k = (a : Int)) (by omega)]; omega)
                        | (rw [if_pos (c := rd I 186 k = (a : Int)) (by omega)]
                           first | rw [if_pos (c := 0 < k % 32 ∧ rd I 186 (k - 1) = (b : Int)) (by omega)] | rw [if_neg (c := 0 < k % 32 ∧ rd I 186 (k - 1) = (b : Int)) (by omega)]
                           first | rw [if_pos (c := k % 32 < 31 ∧ rd I 186 (k + 1) = (b : Int)) (by omega)] | rw [if_neg (c := k % 32 < 31 ∧ rd I 186 (k + 1) = (b : Int)) (by omega)]
                           first | rw [if_pos (c := 32 ≤ k ∧ rd I 186 (k - 32) = (b : Int)) (by omega)] | rw [if_neg (c := 32 ≤ k ∧ rd I 186 (k - 32) = (b : Int)) (by omega)]
                           first | rw [if_pos (c := k + 32 < 512 ∧ rd I 186 (k + 32) = (b : Int)) (by omega)] | rw [if_neg (c := k + 32 < 512 ∧ rd I 186 (k + 32) = (b : Int)) (by omega)]
                           omega)
                    · refine v_iinc dX12_sides_126 rfl rfl rfl ?_
                      refine v_iinc dX12_sides_129 rfl rfl rfl ?_
                      refine w_goto 5 dX12_sides_132 (by decide) ?_
                      rw [show (k : Int) + 1 = ((k + 1 : Nat) : Int) by omega]
                      refine ih (k + 1) _ (by omega) (by omega) ?_
                      rw [smN, ← hu]
                      unfold sdK
                      (try dsimp only)
                      first
                        | (rw [if_neg (c := rd I 186 k = (a : Int)) (by omega)]; omega)
                        | (rw [if_pos (c := rd I 186 k = (a : Int)) (by omega)]
                           first | rw [if_pos (c := 0 < k % 32 ∧ rd I 186 (k - 1) = (b : Int)) (by omega)] | rw [if_neg (c := 0 < k % 32 ∧ rd I 186 (k - 1) = (b : Int)) (by omega)]
                           first | rw [if_pos (c := k % 32 < 31 ∧ rd I 186 (k + 1) = (b : Int)) (by omega)] | rw [if_neg (c := k % 32 < 31 ∧ rd I 186 (k + 1) = (b : Int)) (by omega)]
                           first | rw [if_pos (c := 32 ≤ k ∧ rd I 186 (k - 32) = (b : Int)) (by omega)] | rw [if_neg (c := 32 ≤ k ∧ rd I 186 (k - 32) = (b : Int)) (by omega)]
                           first | rw [if_pos (c := k + 32 < 512 ∧ rd I 186 (k + 32) = (b : Int)) (by omega)] | rw [if_neg (c := k + 32 < 512 ∧ rd I 186 (k + 32) = (b : Int)) (by omega)]
                           omega)
                · refine v_iinc dX12_sides_98 rfl rfl rfl ?_
                  refine w_iload dX12_sides_101 rfl ?_
                  refine w_bipush (v := iI 32) dX12_sides_103 (by decide) ?_
                  refine v_iadd dX12_sides_105 ?_
                  refine w_sipush (v := iI 512) dX12_sides_106 (by decide) ?_
                  refine v_icmp_ge 129 dX12_sides_109 (by decide) (by omega) (by omega) (fun c109 => ?_) (fun c109 => ?_)
                  · refine v_iinc dX12_sides_129 rfl rfl rfl ?_
                    refine w_goto 5 dX12_sides_132 (by decide) ?_
                    rw [show (k : Int) + 1 = ((k + 1 : Nat) : Int) by omega]
                    refine ih (k + 1) _ (by omega) (by omega) ?_
                    rw [smN, ← hu]
                    unfold sdK
                    (try dsimp only)
                    first
                      | (rw [if_neg (c := rd I 186 k = (a : Int)) (by omega)]; omega)
                      | (rw [if_pos (c := rd I 186 k = (a : Int)) (by omega)]
                         first | rw [if_pos (c := 0 < k % 32 ∧ rd I 186 (k - 1) = (b : Int)) (by omega)] | rw [if_neg (c := 0 < k % 32 ∧ rd I 186 (k - 1) = (b : Int)) (by omega)]
                         first | rw [if_pos (c := k % 32 < 31 ∧ rd I 186 (k + 1) = (b : Int)) (by omega)] | rw [if_neg (c := k % 32 < 31 ∧ rd I 186 (k + 1) = (b : Int)) (by omega)]
                         first | rw [if_pos (c := 32 ≤ k ∧ rd I 186 (k - 32) = (b : Int)) (by omega)] | rw [if_neg (c := 32 ≤ k ∧ rd I 186 (k - 32) = (b : Int)) (by omega)]
                         first | rw [if_pos (c := k + 32 < 512 ∧ rd I 186 (k + 32) = (b : Int)) (by omega)] | rw [if_neg (c := k + 32 < 512 ∧ rd I 186 (k + 32) = (b : Int)) (by omega)]
                         omega)
                  · refine w_aload_n dX12_sides_112 rfl ?_
                    refine v_getR (j := 186) dX12_sides_113 fX12_53 ⟨by decide, rfl⟩ rfl rfl ?_
                    refine w_iload dX12_sides_116 rfl ?_
                    refine w_bipush (v := iI 32) dX12_sides_118 (by decide) ?_
                    refine v_iadd dX12_sides_120 ?_
                    refine v_iald dX12_sides_121 ⟨by decide, rfl⟩ (by omega) (by omega) (by decide) (fun z121 e121 b121 => ?_)
                    have f121 : z121 = rd I 186 (k + 32) := by rw [e121]; congr 1
                    refine w_iload_n dX12_sides_122 rfl ?_
                    refine v_icmp_ne 129 dX12_sides_123 (by decide) (by omega) (by omega) (fun c123 => ?_) (fun c123 => ?_)
                    · refine v_iinc dX12_sides_129 rfl rfl rfl ?_
                      refine w_goto 5 dX12_sides_132 (by decide) ?_
                      rw [show (k : Int) + 1 = ((k + 1 : Nat) : Int) by omega]
                      refine ih (k + 1) _ (by omega) (by omega) ?_
                      rw [smN, ← hu]
                      unfold sdK
                      (try dsimp only)
                      first
                        | (rw [if_neg (c := rd I 186 k = (a : Int)) (by omega)]; omega)
                        | (rw [if_pos (c := rd I 186 k = (a : Int)) (by omega)]
                           first | rw [if_pos (c := 0 < k % 32 ∧ rd I 186 (k - 1) = (b : Int)) (by omega)] | rw [if_neg (c := 0 < k % 32 ∧ rd I 186 (k - 1) = (b : Int)) (by omega)]
                           first | rw [if_pos (c := k % 32 < 31 ∧ rd I 186 (k + 1) = (b : Int)) (by omega)] | rw [if_neg (c := k % 32 < 31 ∧ rd I 186 (k + 1) = (b : Int)) (by omega)]
                           first | rw [if_pos (c := 32 ≤ k ∧ rd I 186 (k - 32) = (b : Int)) (by omega)] | rw [if_neg (c := 32 ≤ k ∧ rd I 186 (k - 32) = (b : Int)) (by omega)]
                           first | rw [if_pos (c := k + 32 < 512 ∧ rd I 186 (k + 32) = (b : Int)) (by omega)] | rw [if_neg (c := k + 32 < 512 ∧ rd I 186 (k + 32) = (b : Int)) (by omega)]
                           omega)
                    · refine v_iinc dX12_sides_126 rfl rfl rfl ?_
                      refine v_iinc dX12_sides_129 rfl rfl rfl ?_
                      refine w_goto 5 dX12_sides_132 (by decide) ?_
                      rw [show (k : Int) + 1 = ((k + 1 : Nat) : Int) by omega]
                      refine ih (k + 1) _ (by omega) (by omega) ?_
                      rw [smN, ← hu]
                      unfold sdK
                      (try dsimp only)
                      first
                        | (rw [if_neg (c := rd I 186 k = (a : Int)) (by omega)]; omega)
                        | (rw [if_pos (c := rd I 186 k = (a : Int)) (by omega)]
                           first | rw [if_pos (c := 0 < k % 32 ∧ rd I 186 (k - 1) = (b : Int)) (by omega)] | rw [if_neg (c := 0 < k % 32 ∧ rd I 186 (k - 1) = (b : Int)) (by omega)]
                           first | rw [if_pos (c := k % 32 < 31 ∧ rd I 186 (k + 1) = (b : Int)) (by omega)] | rw [if_neg (c := k % 32 < 31 ∧ rd I 186 (k + 1) = (b : Int)) (by omega)]
                           first | rw [if_pos (c := 32 ≤ k ∧ rd I 186 (k - 32) = (b : Int)) (by omega)] | rw [if_neg (c := 32 ≤ k ∧ rd I 186 (k - 32) = (b : Int)) (by omega)]
                           first | rw [if_pos (c := k + 32 < 512 ∧ rd I 186 (k + 32) = (b : Int)) (by omega)] | rw [if_neg (c := k + 32 < 512 ∧ rd I 186 (k + 32) = (b : Int)) (by omega)]
                           omega)
        · refine w_aload_n dX12_sides_35 rfl ?_
          refine v_getR (j := 186) dX12_sides_36 fX12_53 ⟨by decide, rfl⟩ rfl rfl ?_
          refine w_iload dX12_sides_39 rfl ?_
          refine w_iconst (v := iI 1) dX12_sides_41 rfl ?_
          refine v_isub dX12_sides_42 ?_
          refine v_iald dX12_sides_43 ⟨by decide, rfl⟩ (by omega) (by omega) (by decide) (fun z43 e43 b43 => ?_)
          have f43 : z43 = rd I 186 (k - 1) := by rw [e43]; congr 1; omega
          refine w_iload_n dX12_sides_44 rfl ?_
          refine v_icmp_ne 51 dX12_sides_45 (by decide) (by omega) (by omega) (fun c45 => ?_) (fun c45 => ?_)
          · refine w_iload dX12_sides_51 rfl ?_
            refine w_bipush (v := iI 32) dX12_sides_53 (by decide) ?_
            refine v_irem dX12_sides_55 (by omega) (by omega) ?_
            refine w_bipush (v := iI 31) dX12_sides_56 (by decide) ?_
            refine v_icmp_ge 77 dX12_sides_58 (by decide) (by omega) (by omega) (fun c58 => ?_) (fun c58 => ?_)
            · refine w_iload dX12_sides_77 rfl ?_
              refine w_bipush (v := iI 32) dX12_sides_79 (by decide) ?_
              refine v_icmp_lt 101 dX12_sides_81 (by decide) (by omega) (by omega) (fun c81 => ?_) (fun c81 => ?_)
              · refine w_iload dX12_sides_101 rfl ?_
                refine w_bipush (v := iI 32) dX12_sides_103 (by decide) ?_
                refine v_iadd dX12_sides_105 ?_
                refine w_sipush (v := iI 512) dX12_sides_106 (by decide) ?_
                refine v_icmp_ge 129 dX12_sides_109 (by decide) (by omega) (by omega) (fun c109 => ?_) (fun c109 => ?_)
                · refine v_iinc dX12_sides_129 rfl rfl rfl ?_
                  refine w_goto 5 dX12_sides_132 (by decide) ?_
                  rw [show (k : Int) + 1 = ((k + 1 : Nat) : Int) by omega]
                  refine ih (k + 1) _ (by omega) (by omega) ?_
                  rw [smN, ← hu]
                  unfold sdK
                  (try dsimp only)
                  first
                    | (rw [if_neg (c := rd I 186 k = (a : Int)) (by omega)]; omega)
                    | (rw [if_pos (c := rd I 186 k = (a : Int)) (by omega)]
                       first | rw [if_pos (c := 0 < k % 32 ∧ rd I 186 (k - 1) = (b : Int)) (by omega)] | rw [if_neg (c := 0 < k % 32 ∧ rd I 186 (k - 1) = (b : Int)) (by omega)]
                       first | rw [if_pos (c := k % 32 < 31 ∧ rd I 186 (k + 1) = (b : Int)) (by omega)] | rw [if_neg (c := k % 32 < 31 ∧ rd I 186 (k + 1) = (b : Int)) (by omega)]
                       first | rw [if_pos (c := 32 ≤ k ∧ rd I 186 (k - 32) = (b : Int)) (by omega)] | rw [if_neg (c := 32 ≤ k ∧ rd I 186 (k - 32) = (b : Int)) (by omega)]
                       first | rw [if_pos (c := k + 32 < 512 ∧ rd I 186 (k + 32) = (b : Int)) (by omega)] | rw [if_neg (c := k + 32 < 512 ∧ rd I 186 (k + 32) = (b : Int)) (by omega)]
                       omega)
                · refine w_aload_n dX12_sides_112 rfl ?_
                  refine v_getR (j := 186) dX12_sides_113 fX12_53 ⟨by decide, rfl⟩ rfl rfl ?_
                  refine w_iload dX12_sides_116 rfl ?_
                  refine w_bipush (v := iI 32) dX12_sides_118 (by decide) ?_
                  refine v_iadd dX12_sides_120 ?_
                  refine v_iald dX12_sides_121 ⟨by decide, rfl⟩ (by omega) (by omega) (by decide) (fun z121 e121 b121 => ?_)
                  have f121 : z121 = rd I 186 (k + 32) := by rw [e121]; congr 1
                  refine w_iload_n dX12_sides_122 rfl ?_
                  refine v_icmp_ne 129 dX12_sides_123 (by decide) (by omega) (by omega) (fun c123 => ?_) (fun c123 => ?_)
                  · refine v_iinc dX12_sides_129 rfl rfl rfl ?_
                    refine w_goto 5 dX12_sides_132 (by decide) ?_
                    rw [show (k : Int) + 1 = ((k + 1 : Nat) : Int) by omega]
                    refine ih (k + 1) _ (by omega) (by omega) ?_
                    rw [smN, ← hu]
                    unfold sdK
                    (try dsimp only)
                    first
                      | (rw [if_neg (c := rd I 186 k = (a : Int)) (by omega)]; omega)
                      | (rw [if_pos (c := rd I 186 k = (a : Int)) (by omega)]
                         first | rw [if_pos (c := 0 < k % 32 ∧ rd I 186 (k - 1) = (b : Int)) (by omega)] | rw [if_neg (c := 0 < k % 32 ∧ rd I 186 (k - 1) = (b : Int)) (by omega)]
                         first | rw [if_pos (c := k % 32 < 31 ∧ rd I 186 (k + 1) = (b : Int)) (by omega)] | rw [if_neg (c := k % 32 < 31 ∧ rd I 186 (k + 1) = (b : Int)) (by omega)]
                         first | rw [if_pos (c := 32 ≤ k ∧ rd I 186 (k - 32) = (b : Int)) (by omega)] | rw [if_neg (c := 32 ≤ k ∧ rd I 186 (k - 32) = (b : Int)) (by omega)]
                         first | rw [if_pos (c := k + 32 < 512 ∧ rd I 186 (k + 32) = (b : Int)) (by omega)] | rw [if_neg (c := k + 32 < 512 ∧ rd I 186 (k + 32) = (b : Int)) (by omega)]
                         omega)
                  · refine v_iinc dX12_sides_126 rfl rfl rfl ?_
                    refine v_iinc dX12_sides_129 rfl rfl rfl ?_
                    refine w_goto 5 dX12_sides_132 (by decide) ?_
                    rw [show (k : Int) + 1 = ((k + 1 : Nat) : Int) by omega]
                    refine ih (k + 1) _ (by omega) (by omega) ?_
                    rw [smN, ← hu]
                    unfold sdK
                    (try dsimp only)
                    first
                      | (rw [if_neg (c := rd I 186 k = (a : Int)) (by omega)]; omega)
                      | (rw [if_pos (c := rd I 186 k = (a : Int)) (by omega)]
                         first | rw [if_pos (c := 0 < k % 32 ∧ rd I 186 (k - 1) = (b : Int)) (by omega)] | rw [if_neg (c := 0 < k % 32 ∧ rd I 186 (k - 1) = (b : Int)) (by omega)]
                         first | rw [if_pos (c := k % 32 < 31 ∧ rd I 186 (k + 1) = (b : Int)) (by omega)] | rw [if_neg (c := k % 32 < 31 ∧ rd I 186 (k + 1) = (b : Int)) (by omega)]
                         first | rw [if_pos (c := 32 ≤ k ∧ rd I 186 (k - 32) = (b : Int)) (by omega)] | rw [if_neg (c := 32 ≤ k ∧ rd I 186 (k - 32) = (b : Int)) (by omega)]
                         first | rw [if_pos (c := k + 32 < 512 ∧ rd I 186 (k + 32) = (b : Int)) (by omega)] | rw [if_neg (c := k + 32 < 512 ∧ rd I 186 (k + 32) = (b : Int)) (by omega)]
                         omega)
              · refine w_aload_n dX12_sides_84 rfl ?_
                refine v_getR (j := 186) dX12_sides_85 fX12_53 ⟨by decide, rfl⟩ rfl rfl ?_
                refine w_iload dX12_sides_88 rfl ?_
                refine w_bipush (v := iI 32) dX12_sides_90 (by decide) ?_
                refine v_isub dX12_sides_92 ?_
                refine v_iald dX12_sides_93 ⟨by decide, rfl⟩ (by omega) (by omega) (by decide) (fun z93 e93 b93 => ?_)
                have f93 : z93 = rd I 186 (k - 32) := by rw [e93]; congr 1; omega
                refine w_iload_n dX12_sides_94 rfl ?_
                refine v_icmp_ne 101 dX12_sides_95 (by decide) (by omega) (by omega) (fun c95 => ?_) (fun c95 => ?_)
                · refine w_iload dX12_sides_101 rfl ?_
                  refine w_bipush (v := iI 32) dX12_sides_103 (by decide) ?_
                  refine v_iadd dX12_sides_105 ?_
                  refine w_sipush (v := iI 512) dX12_sides_106 (by decide) ?_
                  refine v_icmp_ge 129 dX12_sides_109 (by decide) (by omega) (by omega) (fun c109 => ?_) (fun c109 => ?_)
                  · refine v_iinc dX12_sides_129 rfl rfl rfl ?_
                    refine w_goto 5 dX12_sides_132 (by decide) ?_
                    rw [show (k : Int) + 1 = ((k + 1 : Nat) : Int) by omega]
                    refine ih (k + 1) _ (by omega) (by omega) ?_
                    rw [smN, ← hu]
                    unfold sdK
                    (try dsimp only)
                    first
                      | (rw [if_neg (c := rd I 186 k = (a : Int)) (by omega)]; omega)
                      | (rw [if_pos (c := rd I 186 k = (a : Int)) (by omega)]
                         first | rw [if_pos (c := 0 < k % 32 ∧ rd I 186 (k - 1) = (b : Int)) (by omega)] | rw [if_neg (c := 0 < k % 32 ∧ rd I 186 (k - 1) = (b : Int)) (by omega)]
                         first | rw [if_pos (c := k % 32 < 31 ∧ rd I 186 (k + 1) = (b : Int)) (by omega)] | rw [if_neg (c := k % 32 < 31 ∧ rd I 186 (k + 1) = (b : Int)) (by omega)]
                         first | rw [if_pos (c := 32 ≤ k ∧ rd I 186 (k - 32) = (b : Int)) (by omega)] | rw [if_neg (c := 32 ≤ k ∧ rd I 186 (k - 32) = (b : Int)) (by omega)]
                         first | rw [if_pos (c := k + 32 < 512 ∧ rd I 186 (k + 32) = (b : Int)) (by omega)] | rw [if_neg (c := k + 32 < 512 ∧ rd I 186 (k + 32) = (b : Int)) (by omega)]
                         omega)
                  · refine w_aload_n dX12_sides_112 rfl ?_
                    refine v_getR (j := 186) dX12_sides_113 fX12_53 ⟨by decide, rfl⟩ rfl rfl ?_
                    refine w_iload dX12_sides_116 rfl ?_
                    refine w_bipush (v := iI 32) dX12_sides_118 (by decide) ?_
                    refine v_iadd dX12_sides_120 ?_
                    refine v_iald dX12_sides_121 ⟨by decide, rfl⟩ (by omega) (by omega) (by decide) (fun z121 e121 b121 => ?_)
                    have f121 : z121 = rd I 186 (k + 32) := by rw [e121]; congr 1
                    refine w_iload_n dX12_sides_122 rfl ?_
                    refine v_icmp_ne 129 dX12_sides_123 (by decide) (by omega) (by omega) (fun c123 => ?_) (fun c123 => ?_)
                    · refine v_iinc dX12_sides_129 rfl rfl rfl ?_
                      refine w_goto 5 dX12_sides_132 (by decide) ?_
                      rw [show (k : Int) + 1 = ((k + 1 : Nat) : Int) by omega]
                      refine ih (k + 1) _ (by omega) (by omega) ?_
                      rw [smN, ← hu]
                      unfold sdK
                      (try dsimp only)
                      first
                        | (rw [if_neg (c := rd I 186 k = (a : Int)) (by omega)]; omega)
                        | (rw [if_pos (c := rd I 186 k = (a : Int)) (by omega)]
                           first | rw [if_pos (c := 0 < k % 32 ∧ rd I 186 (k - 1) = (b : Int)) (by omega)] | rw [if_neg (c := 0 < k % 32 ∧ rd I 186 (k - 1) = (b : Int)) (by omega)]
                           first | rw [if_pos (c := k % 32 < 31 ∧ rd I 186 (k + 1) = (b : Int)) (by omega)] | rw [if_neg (c := k % 32 < 31 ∧ rd I 186 (k + 1) = (b : Int)) (by omega)]
                           first | rw [if_pos (c := 32 ≤ k ∧ rd I 186 (k - 32) = (b : Int)) (by omega)] | rw [if_neg (c := 32 ≤ k ∧ rd I 186 (k - 32) = (b : Int)) (by omega)]
                           first | rw [if_pos (c := k + 32 < 512 ∧ rd I 186 (k + 32) = (b : Int)) (by omega)] | rw [if_neg (c := k + 32 < 512 ∧ rd I 186 (k + 32) = (b : Int)) (by omega)]
                           omega)
                    · refine v_iinc dX12_sides_126 rfl rfl rfl ?_
                      refine v_iinc dX12_sides_129 rfl rfl rfl ?_
                      refine w_goto 5 dX12_sides_132 (by decide) ?_
                      rw [show (k : Int) + 1 = ((k + 1 : Nat) : Int) by omega]
                      refine ih (k + 1) _ (by omega) (by omega) ?_
                      rw [smN, ← hu]
                      unfold sdK
                      (try dsimp only)
                      first
                        | (rw [if_neg (c := rd I 186 k = (a : Int)) (by omega)]; omega)
                        | (rw [if_pos (c := rd I 186 k = (a : Int)) (by omega)]
                           first | rw [if_pos (c := 0 < k % 32 ∧ rd I 186 (k - 1) = (b : Int)) (by omega)] | rw [if_neg (c := 0 < k % 32 ∧ rd I 186 (k - 1) = (b : Int)) (by omega)]
                           first | rw [if_pos (c := k % 32 < 31 ∧ rd I 186 (k + 1) = (b : Int)) (by omega)] | rw [if_neg (c := k % 32 < 31 ∧ rd I 186 (k + 1) = (b : Int)) (by omega)]
                           first | rw [if_pos (c := 32 ≤ k ∧ rd I 186 (k - 32) = (b : Int)) (by omega)] | rw [if_neg (c := 32 ≤ k ∧ rd I 186 (k - 32) = (b : Int)) (by omega)]
                           first | rw [if_pos (c := k + 32 < 512 ∧ rd I 186 (k + 32) = (b : Int)) (by omega)] | rw [if_neg (c := k + 32 < 512 ∧ rd I 186 (k + 32) = (b : Int)) (by omega)]
                           omega)
                · refine v_iinc dX12_sides_98 rfl rfl rfl ?_
                  refine w_iload dX12_sides_101 rfl ?_
                  refine w_bipush (v := iI 32) dX12_sides_103 (by decide) ?_
                  refine v_iadd dX12_sides_105 ?_
                  refine w_sipush (v := iI 512) dX12_sides_106 (by decide) ?_
                  refine v_icmp_ge 129 dX12_sides_109 (by decide) (by omega) (by omega) (fun c109 => ?_) (fun c109 => ?_)
                  · refine v_iinc dX12_sides_129 rfl rfl rfl ?_
                    refine w_goto 5 dX12_sides_132 (by decide) ?_
                    rw [show (k : Int) + 1 = ((k + 1 : Nat) : Int) by omega]
                    refine ih (k + 1) _ (by omega) (by omega) ?_
                    rw [smN, ← hu]
                    unfold sdK
                    (try dsimp only)
                    first
                      | (rw [if_neg (c := rd I 186 k = (a : Int)) (by omega)]; omega)
                      | (rw [if_pos (c := rd I 186 k = (a : Int)) (by omega)]
                         first | rw [if_pos (c := 0 < k % 32 ∧ rd I 186 (k - 1) = (b : Int)) (by omega)] | rw [if_neg (c := 0 < k % 32 ∧ rd I 186 (k - 1) = (b : Int)) (by omega)]
                         first | rw [if_pos (c := k % 32 < 31 ∧ rd I 186 (k + 1) = (b : Int)) (by omega)] | rw [if_neg (c := k % 32 < 31 ∧ rd I 186 (k + 1) = (b : Int)) (by omega)]
                         first | rw [if_pos (c := 32 ≤ k ∧ rd I 186 (k - 32) = (b : Int)) (by omega)] | rw [if_neg (c := 32 ≤ k ∧ rd I 186 (k - 32) = (b : Int)) (by omega)]
                         first | rw [if_pos (c := k + 32 < 512 ∧ rd I 186 (k + 32) = (b : Int)) (by omega)] | rw [if_neg (c := k + 32 < 512 ∧ rd I 186 (k + 32) = (b : Int)) (by omega)]
                         omega)
                  · refine w_aload_n dX12_sides_112 rfl ?_
                    refine v_getR (j := 186) dX12_sides_113 fX12_53 ⟨by decide, rfl⟩ rfl rfl ?_
                    refine w_iload dX12_sides_116 rfl ?_
                    refine w_bipush (v := iI 32) dX12_sides_118 (by decide) ?_
                    refine v_iadd dX12_sides_120 ?_
                    refine v_iald dX12_sides_121 ⟨by decide, rfl⟩ (by omega) (by omega) (by decide) (fun z121 e121 b121 => ?_)
                    have f121 : z121 = rd I 186 (k + 32) := by rw [e121]; congr 1
                    refine w_iload_n dX12_sides_122 rfl ?_
                    refine v_icmp_ne 129 dX12_sides_123 (by decide) (by omega) (by omega) (fun c123 => ?_) (fun c123 => ?_)
                    · refine v_iinc dX12_sides_129 rfl rfl rfl ?_
                      refine w_goto 5 dX12_sides_132 (by decide) ?_
                      rw [show (k : Int) + 1 = ((k + 1 : Nat) : Int) by omega]
                      refine ih (k + 1) _ (by omega) (by omega) ?_
                      rw [smN, ← hu]
                      unfold sdK
                      (try dsimp only)
                      first
                        | (rw [if_neg (c := rd I 186 k = (a : Int)) (by omega)]; omega)
                        | (rw [if_pos (c := rd I 186 k = (a : Int)) (by omega)]
                           first | rw [if_pos (c := 0 < k % 32 ∧ rd I 186 (k - 1) = (b : Int)) (by omega)] | rw [if_neg (c := 0 < k % 32 ∧ rd I 186 (k - 1) = (b : Int)) (by omega)]
                           first | rw [if_pos (c := k % 32 < 31 ∧ rd I 186 (k + 1) = (b : Int)) (by omega)] | rw [if_neg (c := k % 32 < 31 ∧ rd I 186 (k + 1) = (b : Int)) (by omega)]
                           first | rw [if_pos (c := 32 ≤ k ∧ rd I 186 (k - 32) = (b : Int)) (by omega)] | rw [if_neg (c := 32 ≤ k ∧ rd I 186 (k - 32) = (b : Int)) (by omega)]
                           first | rw [if_pos (c := k + 32 < 512 ∧ rd I 186 (k + 32) = (b : Int)) (by omega)] | rw [if_neg (c := k + 32 < 512 ∧ rd I 186 (k + 32) = (b : Int)) (by omega)]
                           omega)
                    · refine v_iinc dX12_sides_126 rfl rfl rfl ?_
                      refine v_iinc dX12_sides_129 rfl rfl rfl ?_
                      refine w_goto 5 dX12_sides_132 (by decide) ?_
                      rw [show (k : Int) + 1 = ((k + 1 : Nat) : Int) by omega]
                      refine ih (k + 1) _ (by omega) (by omega) ?_
                      rw [smN, ← hu]
                      unfold sdK
                      (try dsimp only)
                      first
                        | (rw [if_neg (c := rd I 186 k = (a : Int)) (by omega)]; omega)
                        | (rw [if_pos (c := rd I 186 k = (a : Int)) (by omega)]
                           first | rw [if_pos (c := 0 < k % 32 ∧ rd I 186 (k - 1) = (b : Int)) (by omega)] | rw [if_neg (c := 0 < k % 32 ∧ rd I 186 (k - 1) = (b : Int)) (by omega)]
                           first | rw [if_pos (c := k % 32 < 31 ∧ rd I 186 (k + 1) = (b : Int)) (by omega)] | rw [if_neg (c := k % 32 < 31 ∧ rd I 186 (k + 1) = (b : Int)) (by omega)]
                           first | rw [if_pos (c := 32 ≤ k ∧ rd I 186 (k - 32) = (b : Int)) (by omega)] | rw [if_neg (c := 32 ≤ k ∧ rd I 186 (k - 32) = (b : Int)) (by omega)]
                           first | rw [if_pos (c := k + 32 < 512 ∧ rd I 186 (k + 32) = (b : Int)) (by omega)] | rw [if_neg (c := k + 32 < 512 ∧ rd I 186 (k + 32) = (b : Int)) (by omega)]
                           omega)
            · refine w_aload_n dX12_sides_61 rfl ?_
              refine v_getR (j := 186) dX12_sides_62 fX12_53 ⟨by decide, rfl⟩ rfl rfl ?_
              refine w_iload dX12_sides_65 rfl ?_
              refine w_iconst (v := iI 1) dX12_sides_67 rfl ?_
              refine v_iadd dX12_sides_68 ?_
              refine v_iald dX12_sides_69 ⟨by decide, rfl⟩ (by omega) (by omega) (by decide) (fun z69 e69 b69 => ?_)
              have f69 : z69 = rd I 186 (k + 1) := by rw [e69]; congr 1
              refine w_iload_n dX12_sides_70 rfl ?_
              refine v_icmp_ne 77 dX12_sides_71 (by decide) (by omega) (by omega) (fun c71 => ?_) (fun c71 => ?_)
              · refine w_iload dX12_sides_77 rfl ?_
                refine w_bipush (v := iI 32) dX12_sides_79 (by decide) ?_
                refine v_icmp_lt 101 dX12_sides_81 (by decide) (by omega) (by omega) (fun c81 => ?_) (fun c81 => ?_)
                · refine w_iload dX12_sides_101 rfl ?_
                  refine w_bipush (v := iI 32) dX12_sides_103 (by decide) ?_
                  refine v_iadd dX12_sides_105 ?_
                  refine w_sipush (v := iI 512) dX12_sides_106 (by decide) ?_
                  refine v_icmp_ge 129 dX12_sides_109 (by decide) (by omega) (by omega) (fun c109 => ?_) (fun c109 => ?_)
                  · refine v_iinc dX12_sides_129 rfl rfl rfl ?_
                    refine w_goto 5 dX12_sides_132 (by decide) ?_
                    rw [show (k : Int) + 1 = ((k + 1 : Nat) : Int) by omega]
                    refine ih (k + 1) _ (by omega) (by omega) ?_
                    rw [smN, ← hu]
                    unfold sdK
                    (try dsimp only)
                    first
                      | (rw [if_neg (c := rd I 186 k = (a : Int)) (by omega)]; omega)
                      | (rw [if_pos (c := rd I 186 k = (a : Int)) (by omega)]
                         first | rw [if_pos (c := 0 < k % 32 ∧ rd I 186 (k - 1) = (b : Int)) (by omega)] | rw [if_neg (c := 0 < k % 32 ∧ rd I 186 (k - 1) = (b : Int)) (by omega)]
                         first | rw [if_pos (c := k % 32 < 31 ∧ rd I 186 (k + 1) = (b : Int)) (by omega)] | rw [if_neg (c := k % 32 < 31 ∧ rd I 186 (k + 1) = (b : Int)) (by omega)]
                         first | rw [if_pos (c := 32 ≤ k ∧ rd I 186 (k - 32) = (b : Int)) (by omega)] | rw [if_neg (c := 32 ≤ k ∧ rd I 186 (k - 32) = (b : Int)) (by omega)]
                         first | rw [if_pos (c := k + 32 < 512 ∧ rd I 186 (k + 32) = (b : Int)) (by omega)] | rw [if_neg (c := k + 32 < 512 ∧ rd I 186 (k + 32) = (b : Int)) (by omega)]
                         omega)
                  · refine w_aload_n dX12_sides_112 rfl ?_
                    refine v_getR (j := 186) dX12_sides_113 fX12_53 ⟨by decide, rfl⟩ rfl rfl ?_
                    refine w_iload dX12_sides_116 rfl ?_
                    refine w_bipush (v := iI 32) dX12_sides_118 (by decide) ?_
                    refine v_iadd dX12_sides_120 ?_
                    refine v_iald dX12_sides_121 ⟨by decide, rfl⟩ (by omega) (by omega) (by decide) (fun z121 e121 b121 => ?_)
                    have f121 : z121 = rd I 186 (k + 32) := by rw [e121]; congr 1
                    refine w_iload_n dX12_sides_122 rfl ?_
                    refine v_icmp_ne 129 dX12_sides_123 (by decide) (by omega) (by omega) (fun c123 => ?_) (fun c123 => ?_)
                    · refine v_iinc dX12_sides_129 rfl rfl rfl ?_
                      refine w_goto 5 dX12_sides_132 (by decide) ?_
                      rw [show (k : Int) + 1 = ((k + 1 : Nat) : Int) by omega]
                      refine ih (k + 1) _ (by omega) (by omega) ?_
                      rw [smN, ← hu]
                      unfold sdK
                      (try dsimp only)
                      first
                        | (rw [if_neg (c := rd I 186 k = (a : Int)) (by omega)]; omega)
                        | (rw [if_pos (c := rd I 186 k = (a : Int)) (by omega)]
                           first | rw [if_pos (c := 0 < k % 32 ∧ rd I 186 (k - 1) = (b : Int)) (by omega)] | rw [if_neg (c := 0 < k % 32 ∧ rd I 186 (k - 1) = (b : Int)) (by omega)]
                           first | rw [if_pos (c := k % 32 < 31 ∧ rd I 186 (k + 1) = (b : Int)) (by omega)] | rw [if_neg (c := k % 32 < 31 ∧ rd I 186 (k + 1) = (b : Int)) (by omega)]
                           first | rw [if_pos (c := 32 ≤ k ∧ rd I 186 (k - 32) = (b : Int)) (by omega)] | rw [if_neg (c := 32 ≤ k ∧ rd I 186 (k - 32) = (b : Int)) (by omega)]
                           first | rw [if_pos (c := k + 32 < 512 ∧ rd I 186 (k + 32) = (b : Int)) (by omega)] | rw [if_neg (c := k + 32 < 512 ∧ rd I 186 (k + 32) = (b : Int)) (by omega)]
                           omega)
                    · refine v_iinc dX12_sides_126 rfl rfl rfl ?_
                      refine v_iinc dX12_sides_129 rfl rfl rfl ?_
                      refine w_goto 5 dX12_sides_132 (by decide) ?_
                      rw [show (k : Int) + 1 = ((k + 1 : Nat) : Int) by omega]
                      refine ih (k + 1) _ (by omega) (by omega) ?_
                      rw [smN, ← hu]
                      unfold sdK
                      (try dsimp only)
                      first
                        | (rw [if_neg (c := rd I 186 k = (a : Int)) (by omega)]; omega)
                        | (rw [if_pos (c := rd I 186 k = (a : Int)) (by omega)]
                           first | rw [if_pos (c := 0 < k % 32 ∧ rd I 186 (k - 1) = (b : Int)) (by omega)] | rw [if_neg (c := 0 < k % 32 ∧ rd I 186 (k - 1) = (b : Int)) (by omega)]
                           first | rw [if_pos (c := k % 32 < 31 ∧ rd I 186 (k + 1) = (b : Int)) (by omega)] | rw [if_neg (c := k % 32 < 31 ∧ rd I 186 (k + 1) = (b : Int)) (by omega)]
                           first | rw [if_pos (c := 32 ≤ k ∧ rd I 186 (k - 32) = (b : Int)) (by omega)] | rw [if_neg (c := 32 ≤ k ∧ rd I 186 (k - 32) = (b : Int)) (by omega)]
                           first | rw [if_pos (c := k + 32 < 512 ∧ rd I 186 (k + 32) = (b : Int)) (by omega)] | rw [if_neg (c := k + 32 < 512 ∧ rd I 186 (k + 32) = (b : Int)) (by omega)]
                           omega)
                · refine w_aload_n dX12_sides_84 rfl ?_
                  refine v_getR (j := 186) dX12_sides_85 fX12_53 ⟨by decide, rfl⟩ rfl rfl ?_
                  refine w_iload dX12_sides_88 rfl ?_
                  refine w_bipush (v := iI 32) dX12_sides_90 (by decide) ?_
                  refine v_isub dX12_sides_92 ?_
                  refine v_iald dX12_sides_93 ⟨by decide, rfl⟩ (by omega) (by omega) (by decide) (fun z93 e93 b93 => ?_)
                  have f93 : z93 = rd I 186 (k - 32) := by rw [e93]; congr 1; omega
                  refine w_iload_n dX12_sides_94 rfl ?_
                  refine v_icmp_ne 101 dX12_sides_95 (by decide) (by omega) (by omega) (fun c95 => ?_) (fun c95 => ?_)
                  · refine w_iload dX12_sides_101 rfl ?_
                    refine w_bipush (v := iI 32) dX12_sides_103 (by decide) ?_
                    refine v_iadd dX12_sides_105 ?_
                    refine w_sipush (v := iI 512) dX12_sides_106 (by decide) ?_
                    refine v_icmp_ge 129 dX12_sides_109 (by decide) (by omega) (by omega) (fun c109 => ?_) (fun c109 => ?_)
                    · refine v_iinc dX12_sides_129 rfl rfl rfl ?_
                      refine w_goto 5 dX12_sides_132 (by decide) ?_
                      rw [show (k : Int) + 1 = ((k + 1 : Nat) : Int) by omega]
                      refine ih (k + 1) _ (by omega) (by omega) ?_
                      rw [smN, ← hu]
                      unfold sdK
                      (try dsimp only)
                      first
                        | (rw [if_neg (c := rd I 186 k = (a : Int)) (by omega)]; omega)
                        | (rw [if_pos (c := rd I 186 k = (a : Int)) (by omega)]
                           first | rw [if_pos (c := 0 < k % 32 ∧ rd I 186 (k - 1) = (b : Int)) (by omega)] | rw [if_neg (c := 0 < k % 32 ∧ rd I 186 (k - 1) = (b : Int)) (by omega)]
                           first | rw [if_pos (c := k % 32 < 31 ∧ rd I 186 (k + 1) = (b : Int)) (by omega)] | rw [if_neg (c := k % 32 < 31 ∧ rd I 186 (k + 1) = (b : Int)) (by omega)]
                           first | rw [if_pos (c := 32 ≤ k ∧ rd I 186 (k - 32) = (b : Int)) (by omega)] | rw [if_neg (c := 32 ≤ k ∧ rd I 186 (k - 32) = (b : Int)) (by omega)]
                           first | rw [if_pos (c := k + 32 < 512 ∧ rd I 186 (k + 32) = (b : Int)) (by omega)] | rw [if_neg (c := k + 32 < 512 ∧ rd I 186 (k + 32) = (b : Int)) (by omega)]
                           omega)
                    · refine w_aload_n dX12_sides_112 rfl ?_
                      refine v_getR (j := 186) dX12_sides_113 fX12_53 ⟨by decide, rfl⟩ rfl rfl ?_
                      refine w_iload dX12_sides_116 rfl ?_
                      refine w_bipush (v := iI 32) dX12_sides_118 (by decide) ?_
                      refine v_iadd dX12_sides_120 ?_
                      refine v_iald dX12_sides_121 ⟨by decide, rfl⟩ (by omega) (by omega) (by decide) (fun z121 e121 b121 => ?_)
                      have f121 : z121 = rd I 186 (k + 32) := by rw [e121]; congr 1
                      refine w_iload_n dX12_sides_122 rfl ?_
                      refine v_icmp_ne 129 dX12_sides_123 (by decide) (by omega) (by omega) (fun c123 => ?_) (fun c123 => ?_)
                      · refine v_iinc dX12_sides_129 rfl rfl rfl ?_
                        refine w_goto 5 dX12_sides_132 (by decide) ?_
                        rw [show (k : Int) + 1 = ((k + 1 : Nat) : Int) by omega]
                        refine ih (k + 1) _ (by omega) (by omega) ?_
                        rw [smN, ← hu]
                        unfold sdK
                        (try dsimp only)
                        first
                          | (rw [if_neg (c := rd I 186 k = (a : Int)) (by omega)]; omega)
                          | (rw [if_pos (c := rd I 186 k = (a : Int)) (by omega)]
                             first | rw [if_pos (c := 0 < k % 32 ∧ rd I 186 (k - 1) = (b : Int)) (by omega)] | rw [if_neg (c := 0 < k % 32 ∧ rd I 186 (k - 1) = (b : Int)) (by omega)]
                             first | rw [if_pos (c := k % 32 < 31 ∧ rd I 186 (k + 1) = (b : Int)) (by omega)] | rw [if_neg (c := k % 32 < 31 ∧ rd I 186 (k + 1) = (b : Int)) (by omega)]
                             first | rw [if_pos (c := 32 ≤ k ∧ rd I 186 (k - 32) = (b : Int)) (by omega)] | rw [if_neg (c := 32 ≤ k ∧ rd I 186 (k - 32) = (b : Int)) (by omega)]
                             first | rw [if_pos (c := k + 32 < 512 ∧ rd I 186 (k + 32) = (b : Int)) (by omega)] | rw [if_neg (c := k + 32 < 512 ∧ rd I 186 (k + 32) = (b : Int)) (by omega)]
                             omega)
                      · refine v_iinc dX12_sides_126 rfl rfl rfl ?_
                        refine v_iinc dX12_sides_129 rfl rfl rfl ?_
                        refine w_goto 5 dX12_sides_132 (by decide) ?_
                        rw [show (k : Int) + 1 = ((k + 1 : Nat) : Int) by omega]
                        refine ih (k + 1) _ (by omega) (by omega) ?_
                        rw [smN, ← hu]
                        unfold sdK
                        (try dsimp only)
                        first
                          | (rw [if_neg (c := rd I 186 k = (a : Int)) (by omega)]; omega)
                          | (rw [if_pos (c := rd I 186 k = (a : Int)) (by omega)]
                             first | rw [if_pos (c := 0 < k % 32 ∧ rd I 186 (k - 1) = (b : Int)) (by omega)] | rw [if_neg (c := 0 < k % 32 ∧ rd I 186 (k - 1) = (b : Int)) (by omega)]
                             first | rw [if_pos (c := k % 32 < 31 ∧ rd I 186 (k + 1) = (b : Int)) (by omega)] | rw [if_neg (c := k % 32 < 31 ∧ rd I 186 (k + 1) = (b : Int)) (by omega)]
                             first | rw [if_pos (c := 32 ≤ k ∧ rd I 186 (k - 32) = (b : Int)) (by omega)] | rw [if_neg (c := 32 ≤ k ∧ rd I 186 (k - 32) = (b : Int)) (by omega)]
                             first | rw [if_pos (c := k + 32 < 512 ∧ rd I 186 (k + 32) = (b : Int)) (by omega)] | rw [if_neg (c := k + 32 < 512 ∧ rd I 186 (k + 32) = (b : Int)) (by omega)]
                             omega)
                  · refine v_iinc dX12_sides_98 rfl rfl rfl ?_
                    refine w_iload dX12_sides_101 rfl ?_
                    refine w_bipush (v := iI 32) dX12_sides_103 (by decide) ?_
                    refine v_iadd dX12_sides_105 ?_
                    refine w_sipush (v := iI 512) dX12_sides_106 (by decide) ?_
                    refine v_icmp_ge 129 dX12_sides_109 (by decide) (by omega) (by omega) (fun c109 => ?_) (fun c109 => ?_)
                    · refine v_iinc dX12_sides_129 rfl rfl rfl ?_
                      refine w_goto 5 dX12_sides_132 (by decide) ?_
                      rw [show (k : Int) + 1 = ((k + 1 : Nat) : Int) by omega]
                      refine ih (k + 1) _ (by omega) (by omega) ?_
                      rw [smN, ← hu]
                      unfold sdK
                      (try dsimp only)
                      first
                        | (rw [if_neg (c := rd I 186 k = (a : Int)) (by omega)]; omega)
                        | (rw [if_pos (c := rd I 186 k = (a : Int)) (by omega)]
                           first | rw [if_pos (c := 0 < k % 32 ∧ rd I 186 (k - 1) = (b : Int)) (by omega)] | rw [if_neg (c := 0 < k % 32 ∧ rd I 186 (k - 1) = (b : Int)) (by omega)]
                           first | rw [if_pos (c := k % 32 < 31 ∧ rd I 186 (k + 1) = (b : Int)) (by omega)] | rw [if_neg (c := k % 32 < 31 ∧ rd I 186 (k + 1) = (b : Int)) (by omega)]
                           first | rw [if_pos (c := 32 ≤ k ∧ rd I 186 (k - 32) = (b : Int)) (by omega)] | rw [if_neg (c := 32 ≤ k ∧ rd I 186 (k - 32) = (b : Int)) (by omega)]
                           first | rw [if_pos (c := k + 32 < 512 ∧ rd I 186 (k + 32) = (b : Int)) (by omega)] | rw [if_neg (c := k + 32 < 512 ∧ rd I 186 (k + 32) = (b : Int)) (by omega)]
                           omega)
                    · refine w_aload_n dX12_sides_112 rfl ?_
                      refine v_getR (j := 186) dX12_sides_113 fX12_53 ⟨by decide, rfl⟩ rfl rfl ?_
                      refine w_iload dX12_sides_116 rfl ?_
                      refine w_bipush (v := iI 32) dX12_sides_118 (by decide) ?_
                      refine v_iadd dX12_sides_120 ?_
                      refine v_iald dX12_sides_121 ⟨by decide, rfl⟩ (by omega) (by omega) (by decide) (fun z121 e121 b121 => ?_)
                      have f121 : z121 = rd I 186 (k + 32) := by rw [e121]; congr 1
                      refine w_iload_n dX12_sides_122 rfl ?_
                      refine v_icmp_ne 129 dX12_sides_123 (by decide) (by omega) (by omega) (fun c123 => ?_) (fun c123 => ?_)
                      · refine v_iinc dX12_sides_129 rfl rfl rfl ?_
                        refine w_goto 5 dX12_sides_132 (by decide) ?_
                        rw [show (k : Int) + 1 = ((k + 1 : Nat) : Int) by omega]
                        refine ih (k + 1) _ (by omega) (by omega) ?_
                        rw [smN, ← hu]
                        unfold sdK
                        (try dsimp only)
                        first
                          | (rw [if_neg (c := rd I 186 k = (a : Int)) (by omega)]; omega)
                          | (rw [if_pos (c := rd I 186 k = (a : Int)) (by omega)]
                             first | rw [if_pos (c := 0 < k % 32 ∧ rd I 186 (k - 1) = (b : Int)) (by omega)] | rw [if_neg (c := 0 < k % 32 ∧ rd I 186 (k - 1) = (b : Int)) (by omega)]
                             first | rw [if_pos (c := k % 32 < 31 ∧ rd I 186 (k + 1) = (b : Int)) (by omega)] | rw [if_neg (c := k % 32 < 31 ∧ rd I 186 (k + 1) = (b : Int)) (by omega)]
                             first | rw [if_pos (c := 32 ≤ k ∧ rd I 186 (k - 32) = (b : Int)) (by omega)] | rw [if_neg (c := 32 ≤ k ∧ rd I 186 (k - 32) = (b : Int)) (by omega)]
                             first | rw [if_pos (c := k + 32 < 512 ∧ rd I 186 (k + 32) = (b : Int)) (by omega)] | rw [if_neg (c := k + 32 < 512 ∧ rd I 186 (k + 32) = (b : Int)) (by omega)]
                             omega)
                      · refine v_iinc dX12_sides_126 rfl rfl rfl ?_
                        refine v_iinc dX12_sides_129 rfl rfl rfl ?_
                        refine w_goto 5 dX12_sides_132 (by decide) ?_
                        rw [show (k : Int) + 1 = ((k + 1 : Nat) : Int) by omega]
                        refine ih (k + 1) _ (by omega) (by omega) ?_
                        rw [smN, ← hu]
                        unfold sdK
                        (try dsimp only)
                        first
                          | (rw [if_neg (c := rd I 186 k = (a : Int)) (by omega)]; omega)
                          | (rw [if_pos (c := rd I 186 k = (a : Int)) (by omega)]
                             first | rw [if_pos (c := 0 < k % 32 ∧ rd I 186 (k - 1) = (b : Int)) (by omega)] | rw [if_neg (c := 0 < k % 32 ∧ rd I 186 (k - 1) = (b : Int)) (by omega)]
                             first | rw [if_pos (c := k % 32 < 31 ∧ rd I 186 (k + 1) = (b : Int)) (by omega)] | rw [if_neg (c := k % 32 < 31 ∧ rd I 186 (k + 1) = (b : Int)) (by omega)]
                             first | rw [if_pos (c := 32 ≤ k ∧ rd I 186 (k - 32) = (b : Int)) (by omega)] | rw [if_neg (c := 32 ≤ k ∧ rd I 186 (k - 32) = (b : Int)) (by omega)]
                             first | rw [if_pos (c := k + 32 < 512 ∧ rd I 186 (k + 32) = (b : Int)) (by omega)] | rw [if_neg (c := k + 32 < 512 ∧ rd I 186 (k + 32) = (b : Int)) (by omega)]
                             omega)
              · refine v_iinc dX12_sides_74 rfl rfl rfl ?_
                refine w_iload dX12_sides_77 rfl ?_
                refine w_bipush (v := iI 32) dX12_sides_79 (by decide) ?_
                refine v_icmp_lt 101 dX12_sides_81 (by decide) (by omega) (by omega) (fun c81 => ?_) (fun c81 => ?_)
                · refine w_iload dX12_sides_101 rfl ?_
                  refine w_bipush (v := iI 32) dX12_sides_103 (by decide) ?_
                  refine v_iadd dX12_sides_105 ?_
                  refine w_sipush (v := iI 512) dX12_sides_106 (by decide) ?_
                  refine v_icmp_ge 129 dX12_sides_109 (by decide) (by omega) (by omega) (fun c109 => ?_) (fun c109 => ?_)
                  · refine v_iinc dX12_sides_129 rfl rfl rfl ?_
                    refine w_goto 5 dX12_sides_132 (by decide) ?_
                    rw [show (k : Int) + 1 = ((k + 1 : Nat) : Int) by omega]
                    refine ih (k + 1) _ (by omega) (by omega) ?_
                    rw [smN, ← hu]
                    unfold sdK
                    (try dsimp only)
                    first
                      | (rw [if_neg (c := rd I 186 k = (a : Int)) (by omega)]; omega)
                      | (rw [if_pos (c := rd I 186 k = (a : Int)) (by omega)]
                         first | rw [if_pos (c := 0 < k % 32 ∧ rd I 186 (k - 1) = (b : Int)) (by omega)] | rw [if_neg (c := 0 < k % 32 ∧ rd I 186 (k - 1) = (b : Int)) (by omega)]
                         first | rw [if_pos (c := k % 32 < 31 ∧ rd I 186 (k + 1) = (b : Int)) (by omega)] | rw [if_neg (c := k % 32 < 31 ∧ rd I 186 (k + 1) = (b : Int)) (by omega)]
                         first | rw [if_pos (c := 32 ≤ k ∧ rd I 186 (k - 32) = (b : Int)) (by omega)] | rw [if_neg (c := 32 ≤ k ∧ rd I 186 (k - 32) = (b : Int)) (by omega)]
                         first | rw [if_pos (c := k + 32 < 512 ∧ rd I 186 (k + 32) = (b : Int)) (by omega)] | rw [if_neg (c := k + 32 < 512 ∧ rd I 186 (k + 32) = (b : Int)) (by omega)]
                         omega)
                  · refine w_aload_n dX12_sides_112 rfl ?_
                    refine v_getR (j := 186) dX12_sides_113 fX12_53 ⟨by decide, rfl⟩ rfl rfl ?_
                    refine w_iload dX12_sides_116 rfl ?_
                    refine w_bipush (v := iI 32) dX12_sides_118 (by decide) ?_
                    refine v_iadd dX12_sides_120 ?_
                    refine v_iald dX12_sides_121 ⟨by decide, rfl⟩ (by omega) (by omega) (by decide) (fun z121 e121 b121 => ?_)
                    have f121 : z121 = rd I 186 (k + 32) := by rw [e121]; congr 1
                    refine w_iload_n dX12_sides_122 rfl ?_
                    refine v_icmp_ne 129 dX12_sides_123 (by decide) (by omega) (by omega) (fun c123 => ?_) (fun c123 => ?_)
                    · refine v_iinc dX12_sides_129 rfl rfl rfl ?_
                      refine w_goto 5 dX12_sides_132 (by decide) ?_
                      rw [show (k : Int) + 1 = ((k + 1 : Nat) : Int) by omega]
                      refine ih (k + 1) _ (by omega) (by omega) ?_
                      rw [smN, ← hu]
                      unfold sdK
                      (try dsimp only)
                      first
                        | (rw [if_neg (c := rd I 186 k = (a : Int)) (by omega)]; omega)
                        | (rw [if_pos (c := rd I 186 k = (a : Int)) (by omega)]
                           first | rw [if_pos (c := 0 < k % 32 ∧ rd I 186 (k - 1) = (b : Int)) (by omega)] | rw [if_neg (c := 0 < k % 32 ∧ rd I 186 (k - 1) = (b : Int)) (by omega)]
                           first | rw [if_pos (c := k % 32 < 31 ∧ rd I 186 (k + 1) = (b : Int)) (by omega)] | rw [if_neg (c := k % 32 < 31 ∧ rd I 186 (k + 1) = (b : Int)) (by omega)]
                           first | rw [if_pos (c := 32 ≤ k ∧ rd I 186 (k - 32) = (b : Int)) (by omega)] | rw [if_neg (c := 32 ≤ k ∧ rd I 186 (k - 32) = (b : Int)) (by omega)]
                           first | rw [if_pos (c := k + 32 < 512 ∧ rd I 186 (k + 32) = (b : Int)) (by omega)] | rw [if_neg (c := k + 32 < 512 ∧ rd I 186 (k + 32) = (b : Int)) (by omega)]
                           omega)
                    · refine v_iinc dX12_sides_126 rfl rfl rfl ?_
                      refine v_iinc dX12_sides_129 rfl rfl rfl ?_
                      refine w_goto 5 dX12_sides_132 (by decide) ?_
                      rw [show (k : Int) + 1 = ((k + 1 : Nat) : Int) by omega]
                      refine ih (k + 1) _ (by omega) (by omega) ?_
                      rw [smN, ← hu]
                      unfold sdK
                      (try dsimp only)
                      first
                        | (rw [if_neg (c := rd I 186 k = (a : Int)) (by omega)]; omega)
                        | (rw [if_pos (c := rd I 186 k = (a : Int)) (by omega)]
                           first | rw [if_pos (c := 0 < k % 32 ∧ rd I 186 (k - 1) = (b : Int)) (by omega)] | rw [if_neg (c := 0 < k % 32 ∧ rd I 186 (k - 1) = (b : Int)) (by omega)]
                           first | rw [if_pos (c := k % 32 < 31 ∧ rd I 186 (k + 1) = (b : Int)) (by omega)] | rw [if_neg (c := k % 32 < 31 ∧ rd I 186 (k + 1) = (b : Int)) (by omega)]
                           first | rw [if_pos (c := 32 ≤ k ∧ rd I 186 (k - 32) = (b : Int)) (by omega)] | rw [if_neg (c := 32 ≤ k ∧ rd I 186 (k - 32) = (b : Int)) (by omega)]
                           first | rw [if_pos (c := k + 32 < 512 ∧ rd I 186 (k + 32) = (b : Int)) (by omega)] | rw [if_neg (c := k + 32 < 512 ∧ rd I 186 (k + 32) = (b : Int)) (by omega)]
                           omega)
                · refine w_aload_n dX12_sides_84 rfl ?_
                  refine v_getR (j := 186) dX12_sides_85 fX12_53 ⟨by decide, rfl⟩ rfl rfl ?_
                  refine w_iload dX12_sides_88 rfl ?_
                  refine w_bipush (v := iI 32) dX12_sides_90 (by decide) ?_
                  refine v_isub dX12_sides_92 ?_
                  refine v_iald dX12_sides_93 ⟨by decide, rfl⟩ (by omega) (by omega) (by decide) (fun z93 e93 b93 => ?_)
                  have f93 : z93 = rd I 186 (k - 32) := by rw [e93]; congr 1; omega
                  refine w_iload_n dX12_sides_94 rfl ?_
                  refine v_icmp_ne 101 dX12_sides_95 (by decide) (by omega) (by omega) (fun c95 => ?_) (fun c95 => ?_)
                  · refine w_iload dX12_sides_101 rfl ?_
                    refine w_bipush (v := iI 32) dX12_sides_103 (by decide) ?_
                    refine v_iadd dX12_sides_105 ?_
                    refine w_sipush (v := iI 512) dX12_sides_106 (by decide) ?_
                    refine v_icmp_ge 129 dX12_sides_109 (by decide) (by omega) (by omega) (fun c109 => ?_) (fun c109 => ?_)
                    · refine v_iinc dX12_sides_129 rfl rfl rfl ?_
                      refine w_goto 5 dX12_sides_132 (by decide) ?_
                      rw [show (k : Int) + 1 = ((k + 1 : Nat) : Int) by omega]
                      refine ih (k + 1) _ (by omega) (by omega) ?_
                      rw [smN, ← hu]
                      unfold sdK
                      (try dsimp only)
                      first
                        | (rw [if_neg (c := rd I 186 k = (a : Int)) (by omega)]; omega)
                        | (rw [if_pos (c := rd I 186 k = (a : Int)) (by omega)]
                           first | rw [if_pos (c := 0 < k % 32 ∧ rd I 186 (k - 1) = (b : Int)) (by omega)] | rw [if_neg (c := 0 < k % 32 ∧ rd I 186 (k - 1) = (b : Int)) (by omega)]
                           first | rw [if_pos (c := k % 32 < 31 ∧ rd I 186 (k + 1) = (b : Int)) (by omega)] | rw [if_neg (c := k % 32 < 31 ∧ rd I 186 (k + 1) = (b : Int)) (by omega)]
                           first | rw [if_pos (c := 32 ≤ k ∧ rd I 186 (k - 32) = (b : Int)) (by omega)] | rw [if_neg (c := 32 ≤ k ∧ rd I 186 (k - 32) = (b : Int)) (by omega)]
                           first | rw [if_pos (c := k + 32 < 512 ∧ rd I 186 (k + 32) = (b : Int)) (by omega)] | rw [if_neg (c := k + 32 < 512 ∧ rd I 186 (k + 32) = (b : Int)) (by omega)]
                           omega)
                    · refine w_aload_n dX12_sides_112 rfl ?_
                      refine v_getR (j := 186) dX12_sides_113 fX12_53 ⟨by decide, rfl⟩ rfl rfl ?_
                      refine w_iload dX12_sides_116 rfl ?_
                      refine w_bipush (v := iI 32) dX12_sides_118 (by decide) ?_
                      refine v_iadd dX12_sides_120 ?_
                      refine v_iald dX12_sides_121 ⟨by decide, rfl⟩ (by omega) (by omega) (by decide) (fun z121 e121 b121 => ?_)
                      have f121 : z121 = rd I 186 (k + 32) := by rw [e121]; congr 1
                      refine w_iload_n dX12_sides_122 rfl ?_
                      refine v_icmp_ne 129 dX12_sides_123 (by decide) (by omega) (by omega) (fun c123 => ?_) (fun c123 => ?_)
                      · refine v_iinc dX12_sides_129 rfl rfl rfl ?_
                        refine w_goto 5 dX12_sides_132 (by decide) ?_
                        rw [show (k : Int) + 1 = ((k + 1 : Nat) : Int) by omega]
                        refine ih (k + 1) _ (by omega) (by omega) ?_
                        rw [smN, ← hu]
                        unfold sdK
                        (try dsimp only)
                        first
                          | (rw [if_neg (c := rd I 186 k = (a : Int)) (by omega)]; omega)
                          | (rw [if_pos (c := rd I 186 k = (a : Int)) (by omega)]
                             first | rw [if_pos (c := 0 < k % 32 ∧ rd I 186 (k - 1) = (b : Int)) (by omega)] | rw [if_neg (c := 0 < k % 32 ∧ rd I 186 (k - 1) = (b : Int)) (by omega)]
                             first | rw [if_pos (c := k % 32 < 31 ∧ rd I 186 (k + 1) = (b : Int)) (by omega)] | rw [if_neg (c := k % 32 < 31 ∧ rd I 186 (k + 1) = (b : Int)) (by omega)]
                             first | rw [if_pos (c := 32 ≤ k ∧ rd I 186 (k - 32) = (b : Int)) (by omega)] | rw [if_neg (c := 32 ≤ k ∧ rd I 186 (k - 32) = (b : Int)) (by omega)]
                             first | rw [if_pos (c := k + 32 < 512 ∧ rd I 186 (k + 32) = (b : Int)) (by omega)] | rw [if_neg (c := k + 32 < 512 ∧ rd I 186 (k + 32) = (b : Int)) (by omega)]
                             omega)
                      · refine v_iinc dX12_sides_126 rfl rfl rfl ?_
                        refine v_iinc dX12_sides_129 rfl rfl rfl ?_
                        refine w_goto 5 dX12_sides_132 (by decide) ?_
                        rw [show (k : Int) + 1 = ((k + 1 : Nat) : Int) by omega]
                        refine ih (k + 1) _ (by omega) (by omega) ?_
                        rw [smN, ← hu]
                        unfold sdK
                        (try dsimp only)
                        first
                          | (rw [if_neg (c := rd I 186 k = (a : Int)) (by omega)]; omega)
                          | (rw [if_pos (c := rd I 186 k = (a : Int)) (by omega)]
                             first | rw [if_pos (c := 0 < k % 32 ∧ rd I 186 (k - 1) = (b : Int)) (by omega)] | rw [if_neg (c := 0 < k % 32 ∧ rd I 186 (k - 1) = (b : Int)) (by omega)]
                             first | rw [if_pos (c := k % 32 < 31 ∧ rd I 186 (k + 1) = (b : Int)) (by omega)] | rw [if_neg (c := k % 32 < 31 ∧ rd I 186 (k + 1) = (b : Int)) (by omega)]
                             first | rw [if_pos (c := 32 ≤ k ∧ rd I 186 (k - 32) = (b : Int)) (by omega)] | rw [if_neg (c := 32 ≤ k ∧ rd I 186 (k - 32) = (b : Int)) (by omega)]
                             first | rw [if_pos (c := k + 32 < 512 ∧ rd I 186 (k + 32) = (b : Int)) (by omega)] | rw [if_neg (c := k + 32 < 512 ∧ rd I 186 (k + 32) = (b : Int)) (by omega)]
                             omega)
                  · refine v_iinc dX12_sides_98 rfl rfl rfl ?_
                    refine w_iload dX12_sides_101 rfl ?_
                    refine w_bipush (v := iI 32) dX12_sides_103 (by decide) ?_
                    refine v_iadd dX12_sides_105 ?_
                    refine w_sipush (v := iI 512) dX12_sides_106 (by decide) ?_
                    refine v_icmp_ge 129 dX12_sides_109 (by decide) (by omega) (by omega) (fun c109 => ?_) (fun c109 => ?_)
                    · refine v_iinc dX12_sides_129 rfl rfl rfl ?_
                      refine w_goto 5 dX12_sides_132 (by decide) ?_
                      rw [show (k : Int) + 1 = ((k + 1 : Nat) : Int) by omega]
                      refine ih (k + 1) _ (by omega) (by omega) ?_
                      rw [smN, ← hu]
                      unfold sdK
                      (try dsimp only)
                      first
                        | (rw [if_neg (c := rd I 186 k = (a : Int)) (by omega)]; omega)
                        | (rw [if_pos (c := rd I 186 k = (a : Int)) (by omega)]
                           first | rw [if_pos (c := 0 < k % 32 ∧ rd I 186 (k - 1) = (b : Int)) (by omega)] | rw [if_neg (c := 0 < k % 32 ∧ rd I 186 (k - 1) = (b : Int)) (by omega)]
                           first | rw [if_pos (c := k % 32 < 31 ∧ rd I 186 (k + 1) = (b : Int)) (by omega)] | rw [if_neg (c := k % 32 < 31 ∧ rd I 186 (k + 1) = (b : Int)) (by omega)]
                           first | rw [if_pos (c := 32 ≤ k ∧ rd I 186 (k - 32) = (b : Int)) (by omega)] | rw [if_neg (c := 32 ≤ k ∧ rd I 186 (k - 32) = (b : Int)) (by omega)]
                           first | rw [if_pos (c := k + 32 < 512 ∧ rd I 186 (k + 32) = (b : Int)) (by omega)] | rw [if_neg (c := k + 32 < 512 ∧ rd I 186 (k + 32) = (b : Int)) (by omega)]
                           omega)
                    · refine w_aload_n dX12_sides_112 rfl ?_
                      refine v_getR (j := 186) dX12_sides_113 fX12_53 ⟨by decide, rfl⟩ rfl rfl ?_
                      refine w_iload dX12_sides_116 rfl ?_
                      refine w_bipush (v := iI 32) dX12_sides_118 (by decide) ?_
                      refine v_iadd dX12_sides_120 ?_
                      refine v_iald dX12_sides_121 ⟨by decide, rfl⟩ (by omega) (by omega) (by decide) (fun z121 e121 b121 => ?_)
                      have f121 : z121 = rd I 186 (k + 32) := by rw [e121]; congr 1
                      refine w_iload_n dX12_sides_122 rfl ?_
                      refine v_icmp_ne 129 dX12_sides_123 (by decide) (by omega) (by omega) (fun c123 => ?_) (fun c123 => ?_)
                      · refine v_iinc dX12_sides_129 rfl rfl rfl ?_
                        refine w_goto 5 dX12_sides_132 (by decide) ?_
                        rw [show (k : Int) + 1 = ((k + 1 : Nat) : Int) by omega]
                        refine ih (k + 1) _ (by omega) (by omega) ?_
                        rw [smN, ← hu]
                        unfold sdK
                        (try dsimp only)
                        first
                          | (rw [if_neg (c := rd I 186 k = (a : Int)) (by omega)]; omega)
                          | (rw [if_pos (c := rd I 186 k = (a : Int)) (by omega)]
                             first | rw [if_pos (c := 0 < k % 32 ∧ rd I 186 (k - 1) = (b : Int)) (by omega)] | rw [if_neg (c := 0 < k % 32 ∧ rd I 186 (k - 1) = (b : Int)) (by omega)]
                             first | rw [if_pos (c := k % 32 < 31 ∧ rd I 186 (k + 1) = (b : Int)) (by omega)] | rw [if_neg (c := k % 32 < 31 ∧ rd I 186 (k + 1) = (b : Int)) (by omega)]
                             first | rw [if_pos (c := 32 ≤ k ∧ rd I 186 (k - 32) = (b : Int)) (by omega)] | rw [if_neg (c := 32 ≤ k ∧ rd I 186 (k - 32) = (b : Int)) (by omega)]
                             first | rw [if_pos (c := k + 32 < 512 ∧ rd I 186 (k + 32) = (b : Int)) (by omega)] | rw [if_neg (c := k + 32 < 512 ∧ rd I 186 (k + 32) = (b : Int)) (by omega)]
                             omega)
                      · refine v_iinc dX12_sides_126 rfl rfl rfl ?_
                        refine v_iinc dX12_sides_129 rfl rfl rfl ?_
                        refine w_goto 5 dX12_sides_132 (by decide) ?_
                        rw [show (k : Int) + 1 = ((k + 1 : Nat) : Int) by omega]
                        refine ih (k + 1) _ (by omega) (by omega) ?_
                        rw [smN, ← hu]
                        unfold sdK
                        (try dsimp only)
                        first
                          | (rw [if_neg (c := rd I 186 k = (a : Int)) (by omega)]; omega)
                          | (rw [if_pos (c := rd I 186 k = (a : Int)) (by omega)]
                             first | rw [if_pos (c := 0 < k % 32 ∧ rd I 186 (k - 1) = (b : Int)) (by omega)] | rw [if_neg (c := 0 < k % 32 ∧ rd I 186 (k - 1) = (b : Int)) (by omega)]
                             first | rw [if_pos (c := k % 32 < 31 ∧ rd I 186 (k + 1) = (b : Int)) (by omega)] | rw [if_neg (c := k % 32 < 31 ∧ rd I 186 (k + 1) = (b : Int)) (by omega)]
                             first | rw [if_pos (c := 32 ≤ k ∧ rd I 186 (k - 32) = (b : Int)) (by omega)] | rw [if_neg (c := 32 ≤ k ∧ rd I 186 (k - 32) = (b : Int)) (by omega)]
                             first | rw [if_pos (c := k + 32 < 512 ∧ rd I 186 (k + 32) = (b : Int)) (by omega)] | rw [if_neg (c := k + 32 < 512 ∧ rd I 186 (k + 32) = (b : Int)) (by omega)]
                             omega)
          · refine v_iinc dX12_sides_48 rfl rfl rfl ?_
            refine w_iload dX12_sides_51 rfl ?_
            refine w_bipush (v := iI 32) dX12_sides_53 (by decide) ?_
            refine v_irem dX12_sides_55 (by omega) (by omega) ?_
            refine w_bipush (v := iI 31) dX12_sides_56 (by decide) ?_
            refine v_icmp_ge 77 dX12_sides_58 (by decide) (by omega) (by omega) (fun c58 => ?_) (fun c58 => ?_)
            · refine w_iload dX12_sides_77 rfl ?_
              refine w_bipush (v := iI 32) dX12_sides_79 (by decide) ?_
              refine v_icmp_lt 101 dX12_sides_81 (by decide) (by omega) (by omega) (fun c81 => ?_) (fun c81 => ?_)
              · refine w_iload dX12_sides_101 rfl ?_
                refine w_bipush (v := iI 32) dX12_sides_103 (by decide) ?_
                refine v_iadd dX12_sides_105 ?_
                refine w_sipush (v := iI 512) dX12_sides_106 (by decide) ?_
                refine v_icmp_ge 129 dX12_sides_109 (by decide) (by omega) (by omega) (fun c109 => ?_) (fun c109 => ?_)
                · refine v_iinc dX12_sides_129 rfl rfl rfl ?_
                  refine w_goto 5 dX12_sides_132 (by decide) ?_
                  rw [show (k : Int) + 1 = ((k + 1 : Nat) : Int) by omega]
                  refine ih (k + 1) _ (by omega) (by omega) ?_
                  rw [smN, ← hu]
                  unfold sdK
                  (try dsimp only)
                  first
                    | (rw [if_neg (c := rd I 186 k = (a : Int)) (by omega)]; omega)
                    | (rw [if_pos (c := rd I 186 k = (a : Int)) (by omega)]
                       first | rw [if_pos (c := 0 < k % 32 ∧ rd I 186 (k - 1) = (b : Int)) (by omega)] | rw [if_neg (c := 0 < k % 32 ∧ rd I 186 (k - 1) = (b : Int)) (by omega)]
                       first | rw [if_pos (c := k % 32 < 31 ∧ rd I 186 (k + 1) = (b : Int)) (by omega)] | rw [if_neg (c := k % 32 < 31 ∧ rd I 186 (k + 1) = (b : Int)) (by omega)]
                       first | rw [if_pos (c := 32 ≤ k ∧ rd I 186 (k - 32) = (b : Int)) (by omega)] | rw [if_neg (c := 32 ≤ k ∧ rd I 186 (k - 32) = (b : Int)) (by omega)]
                       first | rw [if_pos (c := k + 32 < 512 ∧ rd I 186 (k + 32) = (b : Int)) (by omega)] | rw [if_neg (c := k + 32 < 512 ∧ rd I 186 (k + 32) = (b : Int)) (by omega)]
                       omega)
                · refine w_aload_n dX12_sides_112 rfl ?_
                  refine v_getR (j := 186) dX12_sides_113 fX12_53 ⟨by decide, rfl⟩ rfl rfl ?_
                  refine w_iload dX12_sides_116 rfl ?_
                  refine w_bipush (v := iI 32) dX12_sides_118 (by decide) ?_
                  refine v_iadd dX12_sides_120 ?_
                  refine v_iald dX12_sides_121 ⟨by decide, rfl⟩ (by omega) (by omega) (by decide) (fun z121 e121 b121 => ?_)
                  have f121 : z121 = rd I 186 (k + 32) := by rw [e121]; congr 1
                  refine w_iload_n dX12_sides_122 rfl ?_
                  refine v_icmp_ne 129 dX12_sides_123 (by decide) (by omega) (by omega) (fun c123 => ?_) (fun c123 => ?_)
                  · refine v_iinc dX12_sides_129 rfl rfl rfl ?_
                    refine w_goto 5 dX12_sides_132 (by decide) ?_
                    rw [show (k : Int) + 1 = ((k + 1 : Nat) : Int) by omega]
                    refine ih (k + 1) _ (by omega) (by omega) ?_
                    rw [smN, ← hu]
                    unfold sdK
                    (try dsimp only)
                    first
                      | (rw [if_neg (c := rd I 186 k = (a : Int)) (by omega)]; omega)
                      | (rw [if_pos (c := rd I 186 k = (a : Int)) (by omega)]
                         first | rw [if_pos (c := 0 < k % 32 ∧ rd I 186 (k - 1) = (b : Int)) (by omega)] | rw [if_neg (c := 0 < k % 32 ∧ rd I 186 (k - 1) = (b : Int)) (by omega)]
                         first | rw [if_pos (c := k % 32 < 31 ∧ rd I 186 (k + 1) = (b : Int)) (by omega)] | rw [if_neg (c := k % 32 < 31 ∧ rd I 186 (k + 1) = (b : Int)) (by omega)]
                         first | rw [if_pos (c := 32 ≤ k ∧ rd I 186 (k - 32) = (b : Int)) (by omega)] | rw [if_neg (c := 32 ≤ k ∧ rd I 186 (k - 32) = (b : Int)) (by omega)]
                         first | rw [if_pos (c := k + 32 < 512 ∧ rd I 186 (k + 32) = (b : Int)) (by omega)] | rw [if_neg (c := k + 32 < 512 ∧ rd I 186 (k + 32) = (b : Int)) (by omega)]
                         omega)
                  · refine v_iinc dX12_sides_126 rfl rfl rfl ?_
                    refine v_iinc dX12_sides_129 rfl rfl rfl ?_
                    refine w_goto 5 dX12_sides_132 (by decide) ?_
                    rw [show (k : Int) + 1 = ((k + 1 : Nat) : Int) by omega]
                    refine ih (k + 1) _ (by omega) (by omega) ?_
                    rw [smN, ← hu]
                    unfold sdK
                    (try dsimp only)
                    first
                      | (rw [if_neg (c := rd I 186 k = (a : Int)) (by omega)]; omega)
                      | (rw [if_pos (c := rd I 186 k = (a : Int)) (by omega)]
                         first | rw [if_pos (c := 0 < k % 32 ∧ rd I 186 (k - 1) = (b : Int)) (by omega)] | rw [if_neg (c := 0 < k % 32 ∧ rd I 186 (k - 1) = (b : Int)) (by omega)]
                         first | rw [if_pos (c := k % 32 < 31 ∧ rd I 186 (k + 1) = (b : Int)) (by omega)] | rw [if_neg (c := k % 32 < 31 ∧ rd I 186 (k + 1) = (b : Int)) (by omega)]
                         first | rw [if_pos (c := 32 ≤ k ∧ rd I 186 (k - 32) = (b : Int)) (by omega)] | rw [if_neg (c := 32 ≤ k ∧ rd I 186 (k - 32) = (b : Int)) (by omega)]
                         first | rw [if_pos (c := k + 32 < 512 ∧ rd I 186 (k + 32) = (b : Int)) (by omega)] | rw [if_neg (c := k + 32 < 512 ∧ rd I 186 (k + 32) = (b : Int)) (by omega)]
                         omega)
              · refine w_aload_n dX12_sides_84 rfl ?_
                refine v_getR (j := 186) dX12_sides_85 fX12_53 ⟨by decide, rfl⟩ rfl rfl ?_
                refine w_iload dX12_sides_88 rfl ?_
                refine w_bipush (v := iI 32) dX12_sides_90 (by decide) ?_
                refine v_isub dX12_sides_92 ?_
                refine v_iald dX12_sides_93 ⟨by decide, rfl⟩ (by omega) (by omega) (by decide) (fun z93 e93 b93 => ?_)
                have f93 : z93 = rd I 186 (k - 32) := by rw [e93]; congr 1; omega
                refine w_iload_n dX12_sides_94 rfl ?_
                refine v_icmp_ne 101 dX12_sides_95 (by decide) (by omega) (by omega) (fun c95 => ?_) (fun c95 => ?_)
                · refine w_iload dX12_sides_101 rfl ?_
                  refine w_bipush (v := iI 32) dX12_sides_103 (by decide) ?_
                  refine v_iadd dX12_sides_105 ?_
                  refine w_sipush (v := iI 512) dX12_sides_106 (by decide) ?_
                  refine v_icmp_ge 129 dX12_sides_109 (by decide) (by omega) (by omega) (fun c109 => ?_) (fun c109 => ?_)
                  · refine v_iinc dX12_sides_129 rfl rfl rfl ?_
                    refine w_goto 5 dX12_sides_132 (by decide) ?_
                    rw [show (k : Int) + 1 = ((k + 1 : Nat) : Int) by omega]
                    refine ih (k + 1) _ (by omega) (by omega) ?_
                    rw [smN, ← hu]
                    unfold sdK
                    (try dsimp only)
                    first
                      | (rw [if_neg (c := rd I 186 k = (a : Int)) (by omega)]; omega)
                      | (rw [if_pos (c := rd I 186 k = (a : Int)) (by omega)]
                         first | rw [if_pos (c := 0 < k % 32 ∧ rd I 186 (k - 1) = (b : Int)) (by omega)] | rw [if_neg (c := 0 < k % 32 ∧ rd I 186 (k - 1) = (b : Int)) (by omega)]
                         first | rw [if_pos (c := k % 32 < 31 ∧ rd I 186 (k + 1) = (b : Int)) (by omega)] | rw [if_neg (c := k % 32 < 31 ∧ rd I 186 (k + 1) = (b : Int)) (by omega)]
                         first | rw [if_pos (c := 32 ≤ k ∧ rd I 186 (k - 32) = (b : Int)) (by omega)] | rw [if_neg (c := 32 ≤ k ∧ rd I 186 (k - 32) = (b : Int)) (by omega)]
                         first | rw [if_pos (c := k + 32 < 512 ∧ rd I 186 (k + 32) = (b : Int)) (by omega)] | rw [if_neg (c := k + 32 < 512 ∧ rd I 186 (k + 32) = (b : Int)) (by omega)]
                         omega)
                  · refine w_aload_n dX12_sides_112 rfl ?_
                    refine v_getR (j := 186) dX12_sides_113 fX12_53 ⟨by decide, rfl⟩ rfl rfl ?_
                    refine w_iload dX12_sides_116 rfl ?_
                    refine w_bipush (v := iI 32) dX12_sides_118 (by decide) ?_
                    refine v_iadd dX12_sides_120 ?_
                    refine v_iald dX12_sides_121 ⟨by decide, rfl⟩ (by omega) (by omega) (by decide) (fun z121 e121 b121 => ?_)
                    have f121 : z121 = rd I 186 (k + 32) := by rw [e121]; congr 1
                    refine w_iload_n dX12_sides_122 rfl ?_
                    refine v_icmp_ne 129 dX12_sides_123 (by decide) (by omega) (by omega) (fun c123 => ?_) (fun c123 => ?_)
                    · refine v_iinc dX12_sides_129 rfl rfl rfl ?_
                      refine w_goto 5 dX12_sides_132 (by decide) ?_
                      rw [show (k : Int) + 1 = ((k + 1 : Nat) : Int) by omega]
                      refine ih (k + 1) _ (by omega) (by omega) ?_
                      rw [smN, ← hu]
                      unfold sdK
                      (try dsimp only)
                      first
                        | (rw [if_neg (c := rd I 186 k = (a : Int)) (by omega)]; omega)
                        | (rw [if_pos (c := rd I 186 k = (a : Int)) (by omega)]
                           first | rw [if_pos (c := 0 < k % 32 ∧ rd I 186 (k - 1) = (b : Int)) (by omega)] | rw [if_neg (c := 0 < k % 32 ∧ rd I 186 (k - 1) = (b : Int)) (by omega)]
                           first | rw [if_pos (c := k % 32 < 31 ∧ rd I 186 (k + 1) = (b : Int)) (by omega)] | rw [if_neg (c := k % 32 < 31 ∧ rd I 186 (k + 1) = (b : Int)) (by omega)]
                           first | rw [if_pos (c := 32 ≤ k ∧ rd I 186 (k - 32) = (b : Int)) (by omega)] | rw [if_neg (c := 32 ≤ k ∧ rd I 186 (k - 32) = (b : Int)) (by omega)]
                           first | rw [if_pos (c := k + 32 < 512 ∧ rd I 186 (k + 32) = (b : Int)) (by omega)] | rw [if_neg (c := k + 32 < 512 ∧ rd I 186 (k + 32) = (b : Int)) (by omega)]
                           omega)
                    · refine v_iinc dX12_sides_126 rfl rfl rfl ?_
                      refine v_iinc dX12_sides_129 rfl rfl rfl ?_
                      refine w_goto 5 dX12_sides_132 (by decide) ?_
                      rw [show (k : Int) + 1 = ((k + 1 : Nat) : Int) by omega]
                      refine ih (k + 1) _ (by omega) (by omega) ?_
                      rw [smN, ← hu]
                      unfold sdK
                      (try dsimp only)
                      first
                        | (rw [if_neg (c := rd I 186 k = (a : Int)) (by omega)]; omega)
                        | (rw [if_pos (c := rd I 186 k = (a : Int)) (by omega)]
                           first | rw [if_pos (c := 0 < k % 32 ∧ rd I 186 (k - 1) = (b : Int)) (by omega)] | rw [if_neg (c := 0 < k % 32 ∧ rd I 186 (k - 1) = (b : Int)) (by omega)]
                           first | rw [if_pos (c := k % 32 < 31 ∧ rd I 186 (k + 1) = (b : Int)) (by omega)] | rw [if_neg (c := k % 32 < 31 ∧ rd I 186 (k + 1) = (b : Int)) (by omega)]
                           first | rw [if_pos (c := 32 ≤ k ∧ rd I 186 (k - 32) = (b : Int)) (by omega)] | rw [if_neg (c := 32 ≤ k ∧ rd I 186 (k - 32) = (b : Int)) (by omega)]
                           first | rw [if_pos (c := k + 32 < 512 ∧ rd I 186 (k + 32) = (b : Int)) (by omega)] | rw [if_neg (c := k + 32 < 512 ∧ rd I 186 (k + 32) = (b : Int)) (by omega)]
                           omega)
                · refine v_iinc dX12_sides_98 rfl rfl rfl ?_
                  refine w_iload dX12_sides_101 rfl ?_
                  refine w_bipush (v := iI 32) dX12_sides_103 (by decide) ?_
                  refine v_iadd dX12_sides_105 ?_
                  refine w_sipush (v := iI 512) dX12_sides_106 (by decide) ?_
                  refine v_icmp_ge 129 dX12_sides_109 (by decide) (by omega) (by omega) (fun c109 => ?_) (fun c109 => ?_)
                  · refine v_iinc dX12_sides_129 rfl rfl rfl ?_
                    refine w_goto 5 dX12_sides_132 (by decide) ?_
                    rw [show (k : Int) + 1 = ((k + 1 : Nat) : Int) by omega]
                    refine ih (k + 1) _ (by omega) (by omega) ?_
                    rw [smN, ← hu]
                    unfold sdK
                    (try dsimp only)
                    first
                      | (rw [if_neg (c := rd I 186 k = (a : Int)) (by omega)]; omega)
                      | (rw [if_pos (c := rd I 186 k = (a : Int)) (by omega)]
                         first | rw [if_pos (c := 0 < k % 32 ∧ rd I 186 (k - 1) = (b : Int)) (by omega)] | rw [if_neg (c := 0 < k % 32 ∧ rd I 186 (k - 1) = (b : Int)) (by omega)]
                         first | rw [if_pos (c := k % 32 < 31 ∧ rd I 186 (k + 1) = (b : Int)) (by omega)] | rw [if_neg (c := k % 32 < 31 ∧ rd I 186 (k + 1) = (b : Int)) (by omega)]
                         first | rw [if_pos (c := 32 ≤ k ∧ rd I 186 (k - 32) = (b : Int)) (by omega)] | rw [if_neg (c := 32 ≤ k ∧ rd I 186 (k - 32) = (b : Int)) (by omega)]
                         first | rw [if_pos (c := k + 32 < 512 ∧ rd I 186 (k + 32) = (b : Int)) (by omega)] | rw [if_neg (c := k + 32 < 512 ∧ rd I 186 (k + 32) = (b : Int)) (by omega)]
                         omega)
                  · refine w_aload_n dX12_sides_112 rfl ?_
                    refine v_getR (j := 186) dX12_sides_113 fX12_53 ⟨by decide, rfl⟩ rfl rfl ?_
                    refine w_iload dX12_sides_116 rfl ?_
                    refine w_bipush (v := iI 32) dX12_sides_118 (by decide) ?_
                    refine v_iadd dX12_sides_120 ?_
                    refine v_iald dX12_sides_121 ⟨by decide, rfl⟩ (by omega) (by omega) (by decide) (fun z121 e121 b121 => ?_)
                    have f121 : z121 = rd I 186 (k + 32) := by rw [e121]; congr 1
                    refine w_iload_n dX12_sides_122 rfl ?_
                    refine v_icmp_ne 129 dX12_sides_123 (by decide) (by omega) (by omega) (fun c123 => ?_) (fun c123 => ?_)
                    · refine v_iinc dX12_sides_129 rfl rfl rfl ?_
                      refine w_goto 5 dX12_sides_132 (by decide) ?_
                      rw [show (k : Int) + 1 = ((k + 1 : Nat) : Int) by omega]
                      refine ih (k + 1) _ (by omega) (by omega) ?_
                      rw [smN, ← hu]
                      unfold sdK
                      (try dsimp only)
                      first
                        | (rw [if_neg (c := rd I 186 k = (a : Int)) (by omega)]; omega)
                        | (rw [if_pos (c := rd I 186 k = (a : Int)) (by omega)]
                           first | rw [if_pos (c := 0 < k % 32 ∧ rd I 186 (k - 1) = (b : Int)) (by omega)] | rw [if_neg (c := 0 < k % 32 ∧ rd I 186 (k - 1) = (b : Int)) (by omega)]
                           first | rw [if_pos (c := k % 32 < 31 ∧ rd I 186 (k + 1) = (b : Int)) (by omega)] | rw [if_neg (c := k % 32 < 31 ∧ rd I 186 (k + 1) = (b : Int)) (by omega)]
                           first | rw [if_pos (c := 32 ≤ k ∧ rd I 186 (k - 32) = (b : Int)) (by omega)] | rw [if_neg (c := 32 ≤ k ∧ rd I 186 (k - 32) = (b : Int)) (by omega)]
                           first | rw [if_pos (c := k + 32 < 512 ∧ rd I 186 (k + 32) = (b : Int)) (by omega)] | rw [if_neg (c := k + 32 < 512 ∧ rd I 186 (k + 32) = (b : Int)) (by omega)]
                           omega)
                    · refine v_iinc dX12_sides_126 rfl rfl rfl ?_
                      refine v_iinc dX12_sides_129 rfl rfl rfl ?_
                      refine w_goto 5 dX12_sides_132 (by decide) ?_
                      rw [show (k : Int) + 1 = ((k + 1 : Nat) : Int) by omega]
                      refine ih (k + 1) _ (by omega) (by omega) ?_
                      rw [smN, ← hu]
                      unfold sdK
                      (try dsimp only)
                      first
                        | (rw [if_neg (c := rd I 186 k = (a : Int)) (by omega)]; omega)
                        | (rw [if_pos (c := rd I 186 k = (a : Int)) (by omega)]
                           first | rw [if_pos (c := 0 < k % 32 ∧ rd I 186 (k - 1) = (b : Int)) (by omega)] | rw [if_neg (c := 0 < k % 32 ∧ rd I 186 (k - 1) = (b : Int)) (by omega)]
                           first | rw [if_pos (c := k % 32 < 31 ∧ rd I 186 (k + 1) = (b : Int)) (by omega)] | rw [if_neg (c := k % 32 < 31 ∧ rd I 186 (k + 1) = (b : Int)) (by omega)]
                           first | rw [if_pos (c := 32 ≤ k ∧ rd I 186 (k - 32) = (b : Int)) (by omega)] | rw [if_neg (c := 32 ≤ k ∧ rd I 186 (k - 32) = (b : Int)) (by omega)]
                           first | rw [if_pos (c := k + 32 < 512 ∧ rd I 186 (k + 32) = (b : Int)) (by omega)] | rw [if_neg (c := k + 32 < 512 ∧ rd I 186 (k + 32) = (b : Int)) (by omega)]
                           omega)
            · refine w_aload_n dX12_sides_61 rfl ?_
              refine v_getR (j := 186) dX12_sides_62 fX12_53 ⟨by decide, rfl⟩ rfl rfl ?_
              refine w_iload dX12_sides_65 rfl ?_
              refine w_iconst (v := iI 1) dX12_sides_67 rfl ?_
              refine v_iadd dX12_sides_68 ?_
              refine v_iald dX12_sides_69 ⟨by decide, rfl⟩ (by omega) (by omega) (by decide) (fun z69 e69 b69 => ?_)
              have f69 : z69 = rd I 186 (k + 1) := by rw [e69]; congr 1
              refine w_iload_n dX12_sides_70 rfl ?_
              refine v_icmp_ne 77 dX12_sides_71 (by decide) (by omega) (by omega) (fun c71 => ?_) (fun c71 => ?_)
              · refine w_iload dX12_sides_77 rfl ?_
                refine w_bipush (v := iI 32) dX12_sides_79 (by decide) ?_
                refine v_icmp_lt 101 dX12_sides_81 (by decide) (by omega) (by omega) (fun c81 => ?_) (fun c81 => ?_)
                · refine w_iload dX12_sides_101 rfl ?_
                  refine w_bipush (v := iI 32) dX12_sides_103 (by decide) ?_
                  refine v_iadd dX12_sides_105 ?_
                  refine w_sipush (v := iI 512) dX12_sides_106 (by decide) ?_
                  refine v_icmp_ge 129 dX12_sides_109 (by decide) (by omega) (by omega) (fun c109 => ?_) (fun c109 => ?_)
                  · refine v_iinc dX12_sides_129 rfl rfl rfl ?_
                    refine w_goto 5 dX12_sides_132 (by decide) ?_
                    rw [show (k : Int) + 1 = ((k + 1 : Nat) : Int) by omega]
                    refine ih (k + 1) _ (by omega) (by omega) ?_
                    rw [smN, ← hu]
                    unfold sdK
                    (try dsimp only)
                    first
                      | (rw [if_neg (c := rd I 186 k = (a : Int)) (by omega)]; omega)
                      | (rw [if_pos (c := rd I 186 k = (a : Int)) (by omega)]
                         first | rw [if_pos (c := 0 < k % 32 ∧ rd I 186 (k - 1) = (b : Int)) (by omega)] | rw [if_neg (c := 0 < k % 32 ∧ rd I 186 (k - 1) = (b : Int)) (by omega)]
                         first | rw [if_pos (c := k % 32 < 31 ∧ rd I 186 (k + 1) = (b : Int)) (by omega)] | rw [if_neg (c := k % 32 < 31 ∧ rd I 186 (k + 1) = (b : Int)) (by omega)]
                         first | rw [if_pos (c := 32 ≤ k ∧ rd I 186 (k - 32) = (b : Int)) (by omega)] | rw [if_neg (c := 32 ≤ k ∧ rd I 186 (k - 32) = (b : Int)) (by omega)]
                         first | rw [if_pos (c := k + 32 < 512 ∧ rd I 186 (k + 32) = (b : Int)) (by omega)] | rw [if_neg (c := k + 32 < 512 ∧ rd I 186 (k + 32) = (b : Int)) (by omega)]
                         omega)
                  · refine w_aload_n dX12_sides_112 rfl ?_
                    refine v_getR (j := 186) dX12_sides_113 fX12_53 ⟨by decide, rfl⟩ rfl rfl ?_
                    refine w_iload dX12_sides_116 rfl ?_
                    refine w_bipush (v := iI 32) dX12_sides_118 (by decide) ?_
                    refine v_iadd dX12_sides_120 ?_
                    refine v_iald dX12_sides_121 ⟨by decide, rfl⟩ (by omega) (by omega) (by decide) (fun z121 e121 b121 => ?_)
                    have f121 : z121 = rd I 186 (k + 32) := by rw [e121]; congr 1
                    refine w_iload_n dX12_sides_122 rfl ?_
                    refine v_icmp_ne 129 dX12_sides_123 (by decide) (by omega) (by omega) (fun c123 => ?_) (fun c123 => ?_)
                    · refine v_iinc dX12_sides_129 rfl rfl rfl ?_
                      refine w_goto 5 dX12_sides_132 (by decide) ?_
                      rw [show (k : Int) + 1 = ((k + 1 : Nat) : Int) by omega]
                      refine ih (k + 1) _ (by omega) (by omega) ?_
                      rw [smN, ← hu]
                      unfold sdK
                      (try dsimp only)
                      first
                        | (rw [if_neg (c := rd I 186 k = (a : Int)) (by omega)]; omega)
                        | (rw [if_pos (c := rd I 186 k = (a : Int)) (by omega)]
                           first | rw [if_pos (c := 0 < k % 32 ∧ rd I 186 (k - 1) = (b : Int)) (by omega)] | rw [if_neg (c := 0 < k % 32 ∧ rd I 186 (k - 1) = (b : Int)) (by omega)]
                           first | rw [if_pos (c := k % 32 < 31 ∧ rd I 186 (k + 1) = (b : Int)) (by omega)] | rw [if_neg (c := k % 32 < 31 ∧ rd I 186 (k + 1) = (b : Int)) (by omega)]
                           first | rw [if_pos (c := 32 ≤ k ∧ rd I 186 (k - 32) = (b : Int)) (by omega)] | rw [if_neg (c := 32 ≤ k ∧ rd I 186 (k - 32) = (b : Int)) (by omega)]
                           first | rw [if_pos (c := k + 32 < 512 ∧ rd I 186 (k + 32) = (b : Int)) (by omega)] | rw [if_neg (c := k + 32 < 512 ∧ rd I 186 (k + 32) = (b : Int)) (by omega)]
                           omega)
                    · refine v_iinc dX12_sides_126 rfl rfl rfl ?_
                      refine v_iinc dX12_sides_129 rfl rfl rfl ?_
                      refine w_goto 5 dX12_sides_132 (by decide) ?_
                      rw [show (k : Int) + 1 = ((k + 1 : Nat) : Int) by omega]
                      refine ih (k + 1) _ (by omega) (by omega) ?_
                      rw [smN, ← hu]
                      unfold sdK
                      (try dsimp only)
                      first
                        | (rw [if_neg (c := rd I 186 k = (a : Int)) (by omega)]; omega)
                        | (rw [if_pos (c := rd I 186 k = (a : Int)) (by omega)]
                           first | rw [if_pos (c := 0 < k % 32 ∧ rd I 186 (k - 1) = (b : Int)) (by omega)] | rw [if_neg (c := 0 < k % 32 ∧ rd I 186 (k - 1) = (b : Int)) (by omega)]
                           first | rw [if_pos (c := k % 32 < 31 ∧ rd I 186 (k + 1) = (b : Int)) (by omega)] | rw [if_neg (c := k % 32 < 31 ∧ rd I 186 (k + 1) = (b : Int)) (by omega)]
                           first | rw [if_pos (c := 32 ≤ k ∧ rd I 186 (k - 32) = (b : Int)) (by omega)] | rw [if_neg (c := 32 ≤ k ∧ rd I 186 (k - 32) = (b : Int)) (by omega)]
                           first | rw [if_pos (c := k + 32 < 512 ∧ rd I 186 (k + 32) = (b : Int)) (by omega)] | rw [if_neg (c := k + 32 < 512 ∧ rd I 186 (k + 32) = (b : Int)) (by omega)]
                           omega)
                · refine w_aload_n dX12_sides_84 rfl ?_
                  refine v_getR (j := 186) dX12_sides_85 fX12_53 ⟨by decide, rfl⟩ rfl rfl ?_
                  refine w_iload dX12_sides_88 rfl ?_
                  refine w_bipush (v := iI 32) dX12_sides_90 (by decide) ?_
                  refine v_isub dX12_sides_92 ?_
                  refine v_iald dX12_sides_93 ⟨by decide, rfl⟩ (by omega) (by omega) (by decide) (fun z93 e93 b93 => ?_)
                  have f93 : z93 = rd I 186 (k - 32) := by rw [e93]; congr 1; omega
                  refine w_iload_n dX12_sides_94 rfl ?_
                  refine v_icmp_ne 101 dX12_sides_95 (by decide) (by omega) (by omega) (fun c95 => ?_) (fun c95 => ?_)
                  · refine w_iload dX12_sides_101 rfl ?_
                    refine w_bipush (v := iI 32) dX12_sides_103 (by decide) ?_
                    refine v_iadd dX12_sides_105 ?_
                    refine w_sipush (v := iI 512) dX12_sides_106 (by decide) ?_
                    refine v_icmp_ge 129 dX12_sides_109 (by decide) (by omega) (by omega) (fun c109 => ?_) (fun c109 => ?_)
                    · refine v_iinc dX12_sides_129 rfl rfl rfl ?_
                      refine w_goto 5 dX12_sides_132 (by decide) ?_
                      rw [show (k : Int) + 1 = ((k + 1 : Nat) : Int) by omega]
                      refine ih (k + 1) _ (by omega) (by omega) ?_
                      rw [smN, ← hu]
                      unfold sdK
                      (try dsimp only)
                      first
                        | (rw [if_neg (c := rd I 186 k = (a : Int)) (by omega)]; omega)
                        | (rw [if_pos (c := rd I 186 k = (a : Int)) (by omega)]
                           first | rw [if_pos (c := 0 < k % 32 ∧ rd I 186 (k - 1) = (b : Int)) (by omega)] | rw [if_neg (c := 0 < k % 32 ∧ rd I 186 (k - 1) = (b : Int)) (by omega)]
                           first | rw [if_pos (c := k % 32 < 31 ∧ rd I 186 (k + 1) = (b : Int)) (by omega)] | rw [if_neg (c := k % 32 < 31 ∧ rd I 186 (k + 1) = (b : Int)) (by omega)]
                           first | rw [if_pos (c := 32 ≤ k ∧ rd I 186 (k - 32) = (b : Int)) (by omega)] | rw [if_neg (c := 32 ≤ k ∧ rd I 186 (k - 32) = (b : Int)) (by omega)]
                           first | rw [if_pos (c := k + 32 < 512 ∧ rd I 186 (k + 32) = (b : Int)) (by omega)] | rw [if_neg (c := k + 32 < 512 ∧ rd I 186 (k + 32) = (b : Int)) (by omega)]
                           omega)
                    · refine w_aload_n dX12_sides_112 rfl ?_
                      refine v_getR (j := 186) dX12_sides_113 fX12_53 ⟨by decide, rfl⟩ rfl rfl ?_
                      refine w_iload dX12_sides_116 rfl ?_
                      refine w_bipush (v := iI 32) dX12_sides_118 (by decide) ?_
                      refine v_iadd dX12_sides_120 ?_
                      refine v_iald dX12_sides_121 ⟨by decide, rfl⟩ (by omega) (by omega) (by decide) (fun z121 e121 b121 => ?_)
                      have f121 : z121 = rd I 186 (k + 32) := by rw [e121]; congr 1
                      refine w_iload_n dX12_sides_122 rfl ?_
                      refine v_icmp_ne 129 dX12_sides_123 (by decide) (by omega) (by omega) (fun c123 => ?_) (fun c123 => ?_)
                      · refine v_iinc dX12_sides_129 rfl rfl rfl ?_
                        refine w_goto 5 dX12_sides_132 (by decide) ?_
                        rw [show (k : Int) + 1 = ((k + 1 : Nat) : Int) by omega]
                        refine ih (k + 1) _ (by omega) (by omega) ?_
                        rw [smN, ← hu]
                        unfold sdK
                        (try dsimp only)
                        first
                          | (rw [if_neg (c := rd I 186 k = (a : Int)) (by omega)]; omega)
                          | (rw [if_pos (c := rd I 186 k = (a : Int)) (by omega)]
                             first | rw [if_pos (c := 0 < k % 32 ∧ rd I 186 (k - 1) = (b : Int)) (by omega)] | rw [if_neg (c := 0 < k % 32 ∧ rd I 186 (k - 1) = (b : Int)) (by omega)]
                             first | rw [if_pos (c := k % 32 < 31 ∧ rd I 186 (k + 1) = (b : Int)) (by omega)] | rw [if_neg (c := k % 32 < 31 ∧ rd I 186 (k + 1) = (b : Int)) (by omega)]
                             first | rw [if_pos (c := 32 ≤ k ∧ rd I 186 (k - 32) = (b : Int)) (by omega)] | rw [if_neg (c := 32 ≤ k ∧ rd I 186 (k - 32) = (b : Int)) (by omega)]
                             first | rw [if_pos (c := k + 32 < 512 ∧ rd I 186 (k + 32) = (b : Int)) (by omega)] | rw [if_neg (c := k + 32 < 512 ∧ rd I 186 (k + 32) = (b : Int)) (by omega)]
                             omega)
                      · refine v_iinc dX12_sides_126 rfl rfl rfl ?_
                        refine v_iinc dX12_sides_129 rfl rfl rfl ?_
                        refine w_goto 5 dX12_sides_132 (by decide) ?_
                        rw [show (k : Int) + 1 = ((k + 1 : Nat) : Int) by omega]
                        refine ih (k + 1) _ (by omega) (by omega) ?_
                        rw [smN, ← hu]
                        unfold sdK
                        (try dsimp only)
                        first
                          | (rw [if_neg (c := rd I 186 k = (a : Int)) (by omega)]; omega)
                          | (rw [if_pos (c := rd I 186 k = (a : Int)) (by omega)]
                             first | rw [if_pos (c := 0 < k % 32 ∧ rd I 186 (k - 1) = (b : Int)) (by omega)] | rw [if_neg (c := 0 < k % 32 ∧ rd I 186 (k - 1) = (b : Int)) (by omega)]
                             first | rw [if_pos (c := k % 32 < 31 ∧ rd I 186 (k + 1) = (b : Int)) (by omega)] | rw [if_neg (c := k % 32 < 31 ∧ rd I 186 (k + 1) = (b : Int)) (by omega)]
                             first | rw [if_pos (c := 32 ≤ k ∧ rd I 186 (k - 32) = (b : Int)) (by omega)] | rw [if_neg (c := 32 ≤ k ∧ rd I 186 (k - 32) = (b : Int)) (by omega)]
                             first | rw [if_pos (c := k + 32 < 512 ∧ rd I 186 (k + 32) = (b : Int)) (by omega)] | rw [if_neg (c := k + 32 < 512 ∧ rd I 186 (k + 32) = (b : Int)) (by omega)]
                             omega)
                  · refine v_iinc dX12_sides_98 rfl rfl rfl ?_
                    refine w_iload dX12_sides_101 rfl ?_
                    refine w_bipush (v := iI 32) dX12_sides_103 (by decide) ?_
                    refine v_iadd dX12_sides_105 ?_
                    refine w_sipush (v := iI 512) dX12_sides_106 (by decide) ?_
                    refine v_icmp_ge 129 dX12_sides_109 (by decide) (by omega) (by omega) (fun c109 => ?_) (fun c109 => ?_)
                    · refine v_iinc dX12_sides_129 rfl rfl rfl ?_
                      refine w_goto 5 dX12_sides_132 (by decide) ?_
                      rw [show (k : Int) + 1 = ((k + 1 : Nat) : Int) by omega]
                      refine ih (k + 1) _ (by omega) (by omega) ?_
                      rw [smN, ← hu]
                      unfold sdK
                      (try dsimp only)
                      first
                        | (rw [if_neg (c := rd I 186 k = (a : Int)) (by omega)]; omega)
                        | (rw [if_pos (c := rd I 186 k = (a : Int)) (by omega)]
                           first | rw [if_pos (c := 0 < k % 32 ∧ rd I 186 (k - 1) = (b : Int)) (by omega)] | rw [if_neg (c := 0 < k % 32 ∧ rd I 186 (k - 1) = (b : Int)) (by omega)]
                           first | rw [if_pos (c := k % 32 < 31 ∧ rd I 186 (k + 1) = (b : Int)) (by omega)] | rw [if_neg (c := k % 32 < 31 ∧ rd I 186 (k + 1) = (b : Int)) (by omega)]
                           first | rw [if_pos (c := 32 ≤ k ∧ rd I 186 (k - 32) = (b : Int)) (by omega)] | rw [if_neg (c := 32 ≤ k ∧ rd I 186 (k - 32) = (b : Int)) (by omega)]
                           first | rw [if_pos (c := k + 32 < 512 ∧ rd I 186 (k + 32) = (b : Int)) (by omega)] | rw [if_neg (c := k + 32 < 512 ∧ rd I 186 (k + 32) = (b : Int)) (by omega)]
                           omega)
                    · refine w_aload_n dX12_sides_112 rfl ?_
                      refine v_getR (j := 186) dX12_sides_113 fX12_53 ⟨by decide, rfl⟩ rfl rfl ?_
                      refine w_iload dX12_sides_116 rfl ?_
                      refine w_bipush (v := iI 32) dX12_sides_118 (by decide) ?_
                      refine v_iadd dX12_sides_120 ?_
                      refine v_iald dX12_sides_121 ⟨by decide, rfl⟩ (by omega) (by omega) (by decide) (fun z121 e121 b121 => ?_)
                      have f121 : z121 = rd I 186 (k + 32) := by rw [e121]; congr 1
                      refine w_iload_n dX12_sides_122 rfl ?_
                      refine v_icmp_ne 129 dX12_sides_123 (by decide) (by omega) (by omega) (fun c123 => ?_) (fun c123 => ?_)
                      · refine v_iinc dX12_sides_129 rfl rfl rfl ?_
                        refine w_goto 5 dX12_sides_132 (by decide) ?_
                        rw [show (k : Int) + 1 = ((k + 1 : Nat) : Int) by omega]
                        refine ih (k + 1) _ (by omega) (by omega) ?_
                        rw [smN, ← hu]
                        unfold sdK
                        (try dsimp only)
                        first
                          | (rw [if_neg (c := rd I 186 k = (a : Int)) (by omega)]; omega)
                          | (rw [if_pos (c := rd I 186 k = (a : Int)) (by omega)]
                             first | rw [if_pos (c := 0 < k % 32 ∧ rd I 186 (k - 1) = (b : Int)) (by omega)] | rw [if_neg (c := 0 < k % 32 ∧ rd I 186 (k - 1) = (b : Int)) (by omega)]
                             first | rw [if_pos (c := k % 32 < 31 ∧ rd I 186 (k + 1) = (b : Int)) (by omega)] | rw [if_neg (c := k % 32 < 31 ∧ rd I 186 (k + 1) = (b : Int)) (by omega)]
                             first | rw [if_pos (c := 32 ≤ k ∧ rd I 186 (k - 32) = (b : Int)) (by omega)] | rw [if_neg (c := 32 ≤ k ∧ rd I 186 (k - 32) = (b : Int)) (by omega)]
                             first | rw [if_pos (c := k + 32 < 512 ∧ rd I 186 (k + 32) = (b : Int)) (by omega)] | rw [if_neg (c := k + 32 < 512 ∧ rd I 186 (k + 32) = (b : Int)) (by omega)]
                             omega)
                      · refine v_iinc dX12_sides_126 rfl rfl rfl ?_
                        refine v_iinc dX12_sides_129 rfl rfl rfl ?_
                        refine w_goto 5 dX12_sides_132 (by decide) ?_
                        rw [show (k : Int) + 1 = ((k + 1 : Nat) : Int) by omega]
                        refine ih (k + 1) _ (by omega) (by omega) ?_
                        rw [smN, ← hu]
                        unfold sdK
                        (try dsimp only)
                        first
                          | (rw [if_neg (c := rd I 186 k = (a : Int)) (by omega)]; omega)
                          | (rw [if_pos (c := rd I 186 k = (a : Int)) (by omega)]
                             first | rw [if_pos (c := 0 < k % 32 ∧ rd I 186 (k - 1) = (b : Int)) (by omega)] | rw [if_neg (c := 0 < k % 32 ∧ rd I 186 (k - 1) = (b : Int)) (by omega)]
                             first | rw [if_pos (c := k % 32 < 31 ∧ rd I 186 (k + 1) = (b : Int)) (by omega)] | rw [if_neg (c := k % 32 < 31 ∧ rd I 186 (k + 1) = (b : Int)) (by omega)]
                             first | rw [if_pos (c := 32 ≤ k ∧ rd I 186 (k - 32) = (b : Int)) (by omega)] | rw [if_neg (c := 32 ≤ k ∧ rd I 186 (k - 32) = (b : Int)) (by omega)]
                             first | rw [if_pos (c := k + 32 < 512 ∧ rd I 186 (k + 32) = (b : Int)) (by omega)] | rw [if_neg (c := k + 32 < 512 ∧ rd I 186 (k + 32) = (b : Int)) (by omega)]
                             omega)
              · refine v_iinc dX12_sides_74 rfl rfl rfl ?_
                refine w_iload dX12_sides_77 rfl ?_
                refine w_bipush (v := iI 32) dX12_sides_79 (by decide) ?_
                refine v_icmp_lt 101 dX12_sides_81 (by decide) (by omega) (by omega) (fun c81 => ?_) (fun c81 => ?_)
                · refine w_iload dX12_sides_101 rfl ?_
                  refine w_bipush (v := iI 32) dX12_sides_103 (by decide) ?_
                  refine v_iadd dX12_sides_105 ?_
                  refine w_sipush (v := iI 512) dX12_sides_106 (by decide) ?_
                  refine v_icmp_ge 129 dX12_sides_109 (by decide) (by omega) (by omega) (fun c109 => ?_) (fun c109 => ?_)
                  · refine v_iinc dX12_sides_129 rfl rfl rfl ?_
                    refine w_goto 5 dX12_sides_132 (by decide) ?_
                    rw [show (k : Int) + 1 = ((k + 1 : Nat) : Int) by omega]
                    refine ih (k + 1) _ (by omega) (by omega) ?_
                    rw [smN, ← hu]
                    unfold sdK
                    (try dsimp only)
                    first
                      | (rw [if_neg (c := rd I 186 k = (a : Int)) (by omega)]; omega)
                      | (rw [if_pos (c := rd I 186 k = (a : Int)) (by omega)]
                         first | rw [if_pos (c := 0 < k % 32 ∧ rd I 186 (k - 1) = (b : Int)) (by omega)] | rw [if_neg (c := 0 < k % 32 ∧ rd I 186 (k - 1) = (b : Int)) (by omega)]
                         first | rw [if_pos (c := k % 32 < 31 ∧ rd I 186 (k + 1) = (b : Int)) (by omega)] | rw [if_neg (c := k % 32 < 31 ∧ rd I 186 (k + 1) = (b : Int)) (by omega)]
                         first | rw [if_pos (c := 32 ≤ k ∧ rd I 186 (k - 32) = (b : Int)) (by omega)] | rw [if_neg (c := 32 ≤ k ∧ rd I 186 (k - 32) = (b : Int)) (by omega)]
                         first | rw [if_pos (c := k + 32 < 512 ∧ rd I 186 (k + 32) = (b : Int)) (by omega)] | rw [if_neg (c := k + 32 < 512 ∧ rd I 186 (k + 32) = (b : Int)) (by omega)]
                         omega)
                  · refine w_aload_n dX12_sides_112 rfl ?_
                    refine v_getR (j := 186) dX12_sides_113 fX12_53 ⟨by decide, rfl⟩ rfl rfl ?_
                    refine w_iload dX12_sides_116 rfl ?_
                    refine w_bipush (v := iI 32) dX12_sides_118 (by decide) ?_
                    refine v_iadd dX12_sides_120 ?_
                    refine v_iald dX12_sides_121 ⟨by decide, rfl⟩ (by omega) (by omega) (by decide) (fun z121 e121 b121 => ?_)
                    have f121 : z121 = rd I 186 (k + 32) := by rw [e121]; congr 1
                    refine w_iload_n dX12_sides_122 rfl ?_
                    refine v_icmp_ne 129 dX12_sides_123 (by decide) (by omega) (by omega) (fun c123 => ?_) (fun c123 => ?_)
                    · refine v_iinc dX12_sides_129 rfl rfl rfl ?_
                      refine w_goto 5 dX12_sides_132 (by decide) ?_
                      rw [show (k : Int) + 1 = ((k + 1 : Nat) : Int) by omega]
                      refine ih (k + 1) _ (by omega) (by omega) ?_
                      rw [smN, ← hu]
                      unfold sdK
                      (try dsimp only)
                      first
                        | (rw [if_neg (c := rd I 186 k = (a : Int)) (by omega)]; omega)
                        | (rw [if_pos (c := rd I 186 k = (a : Int)) (by omega)]
                           first | rw [if_pos (c := 0 < k % 32 ∧ rd I 186 (k - 1) = (b : Int)) (by omega)] | rw [if_neg (c := 0 < k % 32 ∧ rd I 186 (k - 1) = (b : Int)) (by omega)]
                           first | rw [if_pos (c := k % 32 < 31 ∧ rd I 186 (k + 1) = (b : Int)) (by omega)] | rw [if_neg (c := k % 32 < 31 ∧ rd I 186 (k + 1) = (b : Int)) (by omega)]
                           first | rw [if_pos (c := 32 ≤ k ∧ rd I 186 (k - 32) = (b : Int)) (by omega)] | rw [if_neg (c := 32 ≤ k ∧ rd I 186 (k - 32) = (b : Int)) (by omega)]
                           first | rw [if_pos (c := k + 32 < 512 ∧ rd I 186 (k + 32) = (b : Int)) (by omega)] | rw [if_neg (c := k + 32 < 512 ∧ rd I 186 (k + 32) = (b : Int)) (by omega)]
                           omega)
                    · refine v_iinc dX12_sides_126 rfl rfl rfl ?_
                      refine v_iinc dX12_sides_129 rfl rfl rfl ?_
                      refine w_goto 5 dX12_sides_132 (by decide) ?_
                      rw [show (k : Int) + 1 = ((k + 1 : Nat) : Int) by omega]
                      refine ih (k + 1) _ (by omega) (by omega) ?_
                      rw [smN, ← hu]
                      unfold sdK
                      (try dsimp only)
                      first
                        | (rw [if_neg (c := rd I 186 k = (a : Int)) (by omega)]; omega)
                        | (rw [if_pos (c := rd I 186 k = (a : Int)) (by omega)]
                           first | rw [if_pos (c := 0 < k % 32 ∧ rd I 186 (k - 1) = (b : Int)) (by omega)] | rw [if_neg (c := 0 < k % 32 ∧ rd I 186 (k - 1) = (b : Int)) (by omega)]
                           first | rw [if_pos (c := k % 32 < 31 ∧ rd I 186 (k + 1) = (b : Int)) (by omega)] | rw [if_neg (c := k % 32 < 31 ∧ rd I 186 (k + 1) = (b : Int)) (by omega)]
                           first | rw [if_pos (c := 32 ≤ k ∧ rd I 186 (k - 32) = (b : Int)) (by omega)] | rw [if_neg (c := 32 ≤ k ∧ rd I 186 (k - 32) = (b : Int)) (by omega)]
                           first | rw [if_pos (c := k + 32 < 512 ∧ rd I 186 (k + 32) = (b : Int)) (by omega)] | rw [if_neg (c := k + 32 < 512 ∧ rd I 186 (k + 32) = (b : Int)) (by omega)]
                           omega)
                · refine w_aload_n dX12_sides_84 rfl ?_
                  refine v_getR (j := 186) dX12_sides_85 fX12_53 ⟨by decide, rfl⟩ rfl rfl ?_
                  refine w_iload dX12_sides_88 rfl ?_
                  refine w_bipush (v := iI 32) dX12_sides_90 (by decide) ?_
                  refine v_isub dX12_sides_92 ?_
                  refine v_iald dX12_sides_93 ⟨by decide, rfl⟩ (by omega) (by omega) (by decide) (fun z93 e93 b93 => ?_)
                  have f93 : z93 = rd I 186 (k - 32) := by rw [e93]; congr 1; omega
                  refine w_iload_n dX12_sides_94 rfl ?_
                  refine v_icmp_ne 101 dX12_sides_95 (by decide) (by omega) (by omega) (fun c95 => ?_) (fun c95 => ?_)
                  · refine w_iload dX12_sides_101 rfl ?_
                    refine w_bipush (v := iI 32) dX12_sides_103 (by decide) ?_
                    refine v_iadd dX12_sides_105 ?_
                    refine w_sipush (v := iI 512) dX12_sides_106 (by decide) ?_
                    refine v_icmp_ge 129 dX12_sides_109 (by decide) (by omega) (by omega) (fun c109 => ?_) (fun c109 => ?_)
                    · refine v_iinc dX12_sides_129 rfl rfl rfl ?_
                      refine w_goto 5 dX12_sides_132 (by decide) ?_
                      rw [show (k : Int) + 1 = ((k + 1 : Nat) : Int) by omega]
                      refine ih (k + 1) _ (by omega) (by omega) ?_
                      rw [smN, ← hu]
                      unfold sdK
                      (try dsimp only)
                      first
                        | (rw [if_neg (c := rd I 186 k = (a : Int)) (by omega)]; omega)
                        | (rw [if_pos (c := rd I 186 k = (a : Int)) (by omega)]
                           first | rw [if_pos (c := 0 < k % 32 ∧ rd I 186 (k - 1) = (b : Int)) (by omega)] | rw [if_neg (c := 0 < k % 32 ∧ rd I 186 (k - 1) = (b : Int)) (by omega)]
                           first | rw [if_pos (c := k % 32 < 31 ∧ rd I 186 (k + 1) = (b : Int)) (by omega)] | rw [if_neg (c := k % 32 < 31 ∧ rd I 186 (k + 1) = (b : Int)) (by omega)]
                           first | rw [if_pos (c := 32 ≤ k ∧ rd I 186 (k - 32) = (b : Int)) (by omega)] | rw [if_neg (c := 32 ≤ k ∧ rd I 186 (k - 32) = (b : Int)) (by omega)]
                           first | rw [if_pos (c := k + 32 < 512 ∧ rd I 186 (k + 32) = (b : Int)) (by omega)] | rw [if_neg (c := k + 32 < 512 ∧ rd I 186 (k + 32) = (b : Int)) (by omega)]
                           omega)
                    · refine w_aload_n dX12_sides_112 rfl ?_
                      refine v_getR (j := 186) dX12_sides_113 fX12_53 ⟨by decide, rfl⟩ rfl rfl ?_
                      refine w_iload dX12_sides_116 rfl ?_
                      refine w_bipush (v := iI 32) dX12_sides_118 (by decide) ?_
                      refine v_iadd dX12_sides_120 ?_
                      refine v_iald dX12_sides_121 ⟨by decide, rfl⟩ (by omega) (by omega) (by decide) (fun z121 e121 b121 => ?_)
                      have f121 : z121 = rd I 186 (k + 32) := by rw [e121]; congr 1
                      refine w_iload_n dX12_sides_122 rfl ?_
                      refine v_icmp_ne 129 dX12_sides_123 (by decide) (by omega) (by omega) (fun c123 => ?_) (fun c123 => ?_)
                      · refine v_iinc dX12_sides_129 rfl rfl rfl ?_
                        refine w_goto 5 dX12_sides_132 (by decide) ?_
                        rw [show (k : Int) + 1 = ((k + 1 : Nat) : Int) by omega]
                        refine ih (k + 1) _ (by omega) (by omega) ?_
                        rw [smN, ← hu]
                        unfold sdK
                        (try dsimp only)
                        first
                          | (rw [if_neg (c := rd I 186 k = (a : Int)) (by omega)]; omega)
                          | (rw [if_pos (c := rd I 186 k = (a : Int)) (by omega)]
                             first | rw [if_pos (c := 0 < k % 32 ∧ rd I 186 (k - 1) = (b : Int)) (by omega)] | rw [if_neg (c := 0 < k % 32 ∧ rd I 186 (k - 1) = (b : Int)) (by omega)]
                             first | rw [if_pos (c := k % 32 < 31 ∧ rd I 186 (k + 1) = (b : Int)) (by omega)] | rw [if_neg (c := k % 32 < 31 ∧ rd I 186 (k + 1) = (b : Int)) (by omega)]
                             first | rw [if_pos (c := 32 ≤ k ∧ rd I 186 (k - 32) = (b : Int)) (by omega)] | rw [if_neg (c := 32 ≤ k ∧ rd I 186 (k - 32) = (b : Int)) (by omega)]
                             first | rw [if_pos (c := k + 32 < 512 ∧ rd I 186 (k + 32) = (b : Int)) (by omega)] | rw [if_neg (c := k + 32 < 512 ∧ rd I 186 (k + 32) = (b : Int)) (by omega)]
                             omega)
                      · refine v_iinc dX12_sides_126 rfl rfl rfl ?_
                        refine v_iinc dX12_sides_129 rfl rfl rfl ?_
                        refine w_goto 5 dX12_sides_132 (by decide) ?_
                        rw [show (k : Int) + 1 = ((k + 1 : Nat) : Int) by omega]
                        refine ih (k + 1) _ (by omega) (by omega) ?_
                        rw [smN, ← hu]
                        unfold sdK
                        (try dsimp only)
                        first
                          | (rw [if_neg (c := rd I 186 k = (a : Int)) (by omega)]; omega)
                          | (rw [if_pos (c := rd I 186 k = (a : Int)) (by omega)]
                             first | rw [if_pos (c := 0 < k % 32 ∧ rd I 186 (k - 1) = (b : Int)) (by omega)] | rw [if_neg (c := 0 < k % 32 ∧ rd I 186 (k - 1) = (b : Int)) (by omega)]
                             first | rw [if_pos (c := k % 32 < 31 ∧ rd I 186 (k + 1) = (b : Int)) (by omega)] | rw [if_neg (c := k % 32 < 31 ∧ rd I 186 (k + 1) = (b : Int)) (by omega)]
                             first | rw [if_pos (c := 32 ≤ k ∧ rd I 186 (k - 32) = (b : Int)) (by omega)] | rw [if_neg (c := 32 ≤ k ∧ rd I 186 (k - 32) = (b : Int)) (by omega)]
                             first | rw [if_pos (c := k + 32 < 512 ∧ rd I 186 (k + 32) = (b : Int)) (by omega)] | rw [if_neg (c := k + 32 < 512 ∧ rd I 186 (k + 32) = (b : Int)) (by omega)]
                             omega)
                  · refine v_iinc dX12_sides_98 rfl rfl rfl ?_
                    refine w_iload dX12_sides_101 rfl ?_
                    refine w_bipush (v := iI 32) dX12_sides_103 (by decide) ?_
                    refine v_iadd dX12_sides_105 ?_
                    refine w_sipush (v := iI 512) dX12_sides_106 (by decide) ?_
                    refine v_icmp_ge 129 dX12_sides_109 (by decide) (by omega) (by omega) (fun c109 => ?_) (fun c109 => ?_)
                    · refine v_iinc dX12_sides_129 rfl rfl rfl ?_
                      refine w_goto 5 dX12_sides_132 (by decide) ?_
                      rw [show (k : Int) + 1 = ((k + 1 : Nat) : Int) by omega]
                      refine ih (k + 1) _ (by omega) (by omega) ?_
                      rw [smN, ← hu]
                      unfold sdK
                      (try dsimp only)
                      first
                        | (rw [if_neg (c := rd I 186 k = (a : Int)) (by omega)]; omega)
                        | (rw [if_pos (c := rd I 186 k = (a : Int)) (by omega)]
                           first | rw [if_pos (c := 0 < k % 32 ∧ rd I 186 (k - 1) = (b : Int)) (by omega)] | rw [if_neg (c := 0 < k % 32 ∧ rd I 186 (k - 1) = (b : Int)) (by omega)]
                           first | rw [if_pos (c := k % 32 < 31 ∧ rd I 186 (k + 1) = (b : Int)) (by omega)] | rw [if_neg (c := k % 32 < 31 ∧ rd I 186 (k + 1) = (b : Int)) (by omega)]
                           first | rw [if_pos (c := 32 ≤ k ∧ rd I 186 (k - 32) = (b : Int)) (by omega)] | rw [if_neg (c := 32 ≤ k ∧ rd I 186 (k - 32) = (b : Int)) (by omega)]
                           first | rw [if_pos (c := k + 32 < 512 ∧ rd I 186 (k + 32) = (b : Int)) (by omega)] | rw [if_neg (c := k + 32 < 512 ∧ rd I 186 (k + 32) = (b : Int)) (by omega)]
                           omega)
                    · refine w_aload_n dX12_sides_112 rfl ?_
                      refine v_getR (j := 186) dX12_sides_113 fX12_53 ⟨by decide, rfl⟩ rfl rfl ?_
                      refine w_iload dX12_sides_116 rfl ?_
                      refine w_bipush (v := iI 32) dX12_sides_118 (by decide) ?_
                      refine v_iadd dX12_sides_120 ?_
                      refine v_iald dX12_sides_121 ⟨by decide, rfl⟩ (by omega) (by omega) (by decide) (fun z121 e121 b121 => ?_)
                      have f121 : z121 = rd I 186 (k + 32) := by rw [e121]; congr 1
                      refine w_iload_n dX12_sides_122 rfl ?_
                      refine v_icmp_ne 129 dX12_sides_123 (by decide) (by omega) (by omega) (fun c123 => ?_) (fun c123 => ?_)
                      · refine v_iinc dX12_sides_129 rfl rfl rfl ?_
                        refine w_goto 5 dX12_sides_132 (by decide) ?_
                        rw [show (k : Int) + 1 = ((k + 1 : Nat) : Int) by omega]
                        refine ih (k + 1) _ (by omega) (by omega) ?_
                        rw [smN, ← hu]
                        unfold sdK
                        (try dsimp only)
                        first
                          | (rw [if_neg (c := rd I 186 k = (a : Int)) (by omega)]; omega)
                          | (rw [if_pos (c := rd I 186 k = (a : Int)) (by omega)]
                             first | rw [if_pos (c := 0 < k % 32 ∧ rd I 186 (k - 1) = (b : Int)) (by omega)] | rw [if_neg (c := 0 < k % 32 ∧ rd I 186 (k - 1) = (b : Int)) (by omega)]
                             first | rw [if_pos (c := k % 32 < 31 ∧ rd I 186 (k + 1) = (b : Int)) (by omega)] | rw [if_neg (c := k % 32 < 31 ∧ rd I 186 (k + 1) = (b : Int)) (by omega)]
                             first | rw [if_pos (c := 32 ≤ k ∧ rd I 186 (k - 32) = (b : Int)) (by omega)] | rw [if_neg (c := 32 ≤ k ∧ rd I 186 (k - 32) = (b : Int)) (by omega)]
                             first | rw [if_pos (c := k + 32 < 512 ∧ rd I 186 (k + 32) = (b : Int)) (by omega)] | rw [if_neg (c := k + 32 < 512 ∧ rd I 186 (k + 32) = (b : Int)) (by omega)]
                             omega)
                      · refine v_iinc dX12_sides_126 rfl rfl rfl ?_
                        refine v_iinc dX12_sides_129 rfl rfl rfl ?_
                        refine w_goto 5 dX12_sides_132 (by decide) ?_
                        rw [show (k : Int) + 1 = ((k + 1 : Nat) : Int) by omega]
                        refine ih (k + 1) _ (by omega) (by omega) ?_
                        rw [smN, ← hu]
                        unfold sdK
                        (try dsimp only)
                        first
                          | (rw [if_neg (c := rd I 186 k = (a : Int)) (by omega)]; omega)
                          | (rw [if_pos (c := rd I 186 k = (a : Int)) (by omega)]
                             first | rw [if_pos (c := 0 < k % 32 ∧ rd I 186 (k - 1) = (b : Int)) (by omega)] | rw [if_neg (c := 0 < k % 32 ∧ rd I 186 (k - 1) = (b : Int)) (by omega)]
                             first | rw [if_pos (c := k % 32 < 31 ∧ rd I 186 (k + 1) = (b : Int)) (by omega)] | rw [if_neg (c := k % 32 < 31 ∧ rd I 186 (k + 1) = (b : Int)) (by omega)]
                             first | rw [if_pos (c := 32 ≤ k ∧ rd I 186 (k - 32) = (b : Int)) (by omega)] | rw [if_neg (c := 32 ≤ k ∧ rd I 186 (k - 32) = (b : Int)) (by omega)]
                             first | rw [if_pos (c := k + 32 < 512 ∧ rd I 186 (k + 32) = (b : Int)) (by omega)] | rw [if_neg (c := k + 32 < 512 ∧ rd I 186 (k + 32) = (b : Int)) (by omega)]
                             omega)
      · refine w_goto 129 dX12_sides_24 (by decide) ?_
        refine v_iinc dX12_sides_129 rfl rfl rfl ?_
        refine w_goto 5 dX12_sides_132 (by decide) ?_
        rw [show (k : Int) + 1 = ((k + 1 : Nat) : Int) by omega]
        refine ih (k + 1) _ (by omega) (by omega) ?_
        rw [smN, ← hu]
        unfold sdK
        (try dsimp only)
        first
          | (rw [if_neg (c := rd I 186 k = (a : Int)) (by omega)]; omega)
          | (rw [if_pos (c := rd I 186 k = (a : Int)) (by omega)]
             first | rw [if_pos (c := 0 < k % 32 ∧ rd I 186 (k - 1) = (b : Int)) (by omega)] | rw [if_neg (c := 0 < k % 32 ∧ rd I 186 (k - 1) = (b : Int)) (by omega)]
             first | rw [if_pos (c := k % 32 < 31 ∧ rd I 186 (k + 1) = (b : Int)) (by omega)] | rw [if_neg (c := k % 32 < 31 ∧ rd I 186 (k + 1) = (b : Int)) (by omega)]
             first | rw [if_pos (c := 32 ≤ k ∧ rd I 186 (k - 32) = (b : Int)) (by omega)] | rw [if_neg (c := 32 ≤ k ∧ rd I 186 (k - 32) = (b : Int)) (by omega)]
             first | rw [if_pos (c := k + 32 < 512 ∧ rd I 186 (k + 32) = (b : Int)) (by omega)] | rw [if_neg (c := k + 32 < 512 ∧ rd I 186 (k + 32) = (b : Int)) (by omega)]
             omega)
theorem x12_sides {I : Nat → Nat → Int32} {J : Nat → Nat → Int64} {F : Option Value → zM → Prop} {a b : Nat} (ha : a < 10) (hb : b < 10) (h : F (some (.int (iI (smN (sdK (fun k => rd I 186 k) a b) 512)))) (gM I J)) : Cl yX12_sides kX12_sides [.ref 171, .int (iI (a : Int)), .int (iI (b : Int))] (gM I J) F := by
  refine cl_s (by decide) (by decide) (Nat.le_of_ble_eq_true rfl) rt_i ?_
  show Wp _ F 0 [(0, .ref 171), (1, .int (iI (a : Int))), (2, .int (iI (b : Int)))] [] _
  refine w_iconst (v := iI 0) dX12_sides_0 rfl ?_
  refine w_istore_n dX12_sides_1 rfl rfl ?_
  refine w_iconst (v := iI 0) dX12_sides_2 rfl ?_
  refine w_istore dX12_sides_3 rfl rfl ?_
  exact x12_sides_l ha hb h 513 0 0 (by omega) (by omega) rfl
