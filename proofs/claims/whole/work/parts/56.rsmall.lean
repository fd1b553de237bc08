/-! small calls of the join: the reference -/
theorem x12_rowOf {I : Nat → Nat → Int32} {J : Nat → Nat → Int64} {F : Option Value → zM → Prop} {p : Int} (hp : 0 ≤ p ∧ p < 100000) (h : F (some (.int (iI (p / 64 - 5)))) (gM I J)) : Cl yX12_rowOf kX12_rowOf [.int (iI p)] (gM I J) F := by
  refine cl_s (by decide) (by decide) (Nat.le_of_ble_eq_true rfl) rt_i ?_
  show Wp _ F 0 [(0, .int (iI p))] [] _
  refine w_iload_n dX12_rowOf_0 rfl ?_
  refine w_bipush (v := iI 64) dX12_rowOf_1 (by decide) ?_
  refine v_idiv dX12_rowOf_3 (by omega) (by omega) ?_
  refine w_iconst (v := iI 5) dX12_rowOf_4 rfl ?_
  refine v_isub dX12_rowOf_5 ?_
  refine v_iret dX12_rowOf_6 rfl ⟨rfl, rfl⟩ ?_
  exact h
theorem x12_columnOf {I : Nat → Nat → Int32} {J : Nat → Nat → Int64} {F : Option Value → zM → Prop} {p : Int} (hp : 0 ≤ p ∧ p < 100000) (h : F (some (.int (iI (p % 64 - 10)))) (gM I J)) : Cl yX12_columnOf kX12_columnOf [.int (iI p)] (gM I J) F := by
  refine cl_s (by decide) (by decide) (Nat.le_of_ble_eq_true rfl) rt_i ?_
  show Wp _ F 0 [(0, .int (iI p))] [] _
  refine w_iload_n dX12_columnOf_0 rfl ?_
  refine w_bipush (v := iI 64) dX12_columnOf_1 (by decide) ?_
  refine v_irem dX12_columnOf_3 (by omega) (by omega) ?_
  refine w_bipush (v := iI 10) dX12_columnOf_4 (by decide) ?_
  refine v_isub dX12_columnOf_6 ?_
  refine v_iret dX12_columnOf_7 rfl ⟨rfl, rfl⟩ ?_
  exact h
theorem x12_isNext {I : Nat → Nat → Int32} {J : Nat → Nat → Int64} {F : Option Value → zM → Prop} {p : Int} (hp : 0 ≤ p ∧ p < 100000) (ht : (-4 ≤ p / 64 - 5 ∧ p / 64 - 5 ≤ 15 ∧ -9 ≤ p % 64 - 10 ∧ p % 64 - 10 ≤ 31) → F (some (.int (iI 1))) (gM I J)) (hf : ¬ (-4 ≤ p / 64 - 5 ∧ p / 64 - 5 ≤ 15 ∧ -9 ≤ p % 64 - 10 ∧ p % 64 - 10 ≤ 31) → F (some (.int (iI 0))) (gM I J)) : Cl yX12_isNext kX12_isNext [.int (iI p)] (gM I J) F := by
  refine cl_s (by decide) (by decide) (Nat.le_of_ble_eq_true rfl) rt_z ?_
  show Wp _ F 0 [(0, .int (iI p))] [] _
  refine w_iload_n dX12_isNext_0 rfl ?_
  refine v_callS1 dX12_isNext_1 lX12_169 vX12_rowOf (by decide) rfl rfl (Nat.le_of_ble_eq_true rfl) ?_
  refine x12_rowOf hp ?_
  refine w_bipush (v := iI (-4)) dX12_isNext_4 (by decide) ?_
  refine w_bipush (v := iI 15) dX12_isNext_6 (by decide) ?_
  refine v_callS3 dX12_isNext_8 lX12_69 vX12_isIn (by decide) rfl rfl (Nat.le_of_ble_eq_true rfl) ?_
  refine x12_isIn (by omega) (by omega) (by omega) (fun q8 => ?_) (fun q8 => ?_)
  · refine v_if_eq 32 dX12_isNext_11 (by decide) (by decide) (fun q => absurd q (by decide)) (fun _ => ?_)
    refine w_iload_n dX12_isNext_14 rfl ?_
    refine v_callS1 dX12_isNext_15 lX12_172 vX12_columnOf (by decide) rfl rfl (Nat.le_of_ble_eq_true rfl) ?_
    refine x12_columnOf hp ?_
    refine w_bipush (v := iI (-9)) dX12_isNext_18 (by decide) ?_
    refine w_bipush (v := iI 31) dX12_isNext_20 (by decide) ?_
    refine v_callS3 dX12_isNext_22 lX12_69 vX12_isIn (by decide) rfl rfl (Nat.le_of_ble_eq_true rfl) ?_
    refine x12_isIn (by omega) (by omega) (by omega) (fun q22 => ?_) (fun q22 => ?_)
    · refine v_if_eq 32 dX12_isNext_25 (by decide) (by decide) (fun q => absurd q (by decide)) (fun _ => ?_)
      refine w_iconst (v := iI 1) dX12_isNext_28 rfl ?_
      refine w_goto 33 dX12_isNext_29 (by decide) ?_
      refine v_zret dX12_isNext_33 rfl ⟨rfl, rfl⟩ (by decide) ?_
      first | exact ht (by omega) | exact hf (by omega)
    · refine v_if_eq 32 dX12_isNext_25 (by decide) (by decide) (fun _ => ?_) (fun q => absurd q (by decide))
      refine w_iconst (v := iI 0) dX12_isNext_32 rfl ?_
      refine v_zret dX12_isNext_33 rfl ⟨rfl, rfl⟩ (by decide) ?_
      first | exact ht (by omega) | exact hf (by omega)
  · refine v_if_eq 32 dX12_isNext_11 (by decide) (by decide) (fun _ => ?_) (fun q => absurd q (by decide))
    refine w_iconst (v := iI 0) dX12_isNext_32 rfl ?_
    refine v_zret dX12_isNext_33 rfl ⟨rfl, rfl⟩ (by decide) ?_
    first | exact ht (by omega) | exact hf (by omega)
theorem x12_mayJoin {I : Nat → Nat → Int32} {J : Nat → Nat → Int64} {F : Option Value → zM → Prop} {b : Int} (bb : -2147483648 ≤ b ∧ b < 2147483648) (hn : (∀ q : Nat, b = q → q < 10 → rd I 173 q ≠ 0 → rd I 177 q ≠ 0) → F (some (.int (iI 0))) (gM I J)) (hy : ∀ q : Nat, b = q → q < 10 → rd I 173 q ≠ 0 → rd I 177 q = 0 → F (some (.int (iI 1))) (gM I J)) : Cl yX12_mayJoin kX12_mayJoin [.ref 171, .int (iI b)] (gM I J) F := by
  refine cl_s (by decide) (by decide) (Nat.le_of_ble_eq_true rfl) rt_z ?_
  show Wp _ F 0 [(0, .ref 171), (1, .int (iI b))] [] _
  refine w_aload_n dX12_mayJoin_0 rfl ?_
  refine w_iload_n dX12_mayJoin_1 rfl ?_
  refine v_callV1 dX12_mayJoin_2 lX12_81 vX12_isBit (by decide) rfl rfl ⟨by decide, rfl⟩ (by decide) rfl (Nat.le_of_ble_eq_true rfl) ?_
  refine x12_isBit (by omega) (fun q2 => ?_) (fun q hqe hq hqc => ?_)
  rotate_left
  · refine v_if_eq 21 dX12_mayJoin_5 (by decide) (by decide) (fun q => absurd q (by decide)) (fun _ => ?_)
    refine w_aload_n dX12_mayJoin_8 rfl ?_
    refine v_getR (j := 177) dX12_mayJoin_9 fX12_26 ⟨by decide, rfl⟩ rfl rfl ?_
    refine w_iload_n dX12_mayJoin_12 rfl ?_
    refine v_zald dX12_mayJoin_13 ⟨by decide, rfl⟩ (by omega) (by omega) (by decide) (fun z13 e13 b13 => ?_)
    have f13 : z13 = rd I 177 q := by rw [e13]; congr 1; omega
    refine v_if_ne 21 dX12_mayJoin_14 (by decide) (by omega) (fun c14 => ?_) (fun c14 => ?_)
    · refine w_iconst (v := iI 0) dX12_mayJoin_21 rfl ?_
      refine v_zret dX12_mayJoin_22 rfl ⟨rfl, rfl⟩ (by decide) ?_
      first
        | exact hy q hqe hq hqc (by omega)
        | (refine hn (fun q' g1 g2 g3 => ?_)
           first | exact absurd (q2 q' g1 g2) g3 | (have g6 : q' = q := (by omega); subst g6; omega))
    · refine w_iconst (v := iI 1) dX12_mayJoin_17 rfl ?_
      refine w_goto 22 dX12_mayJoin_18 (by decide) ?_
      refine v_zret dX12_mayJoin_22 rfl ⟨rfl, rfl⟩ (by decide) ?_
      first
        | exact hy q hqe hq hqc (by omega)
        | (refine hn (fun q' g1 g2 g3 => ?_)
           first | exact absurd (q2 q' g1 g2) g3 | (have g6 : q' = q := (by omega); subst g6; omega))
  · refine v_if_eq 21 dX12_mayJoin_5 (by decide) (by decide) (fun _ => ?_) (fun q => absurd q (by decide))
    refine w_iconst (v := iI 0) dX12_mayJoin_21 rfl ?_
    refine v_zret dX12_mayJoin_22 rfl ⟨rfl, rfl⟩ (by decide) ?_
    first
      | exact hy q hqe hq hqc (by omega)
      | (refine hn (fun q' g1 g2 g3 => ?_)
         first | exact absurd (q2 q' g1 g2) g3 | (have g6 : q' = q := (by omega); subst g6; omega))
theorem x12_worth {I : Nat → Nat → Int32} {J : Nat → Nat → Int64} {F : Option Value → zM → Prop} (hR : ∀ b, b < 10 → -1000 ≤ rd I 178 b ∧ rd I 178 b ≤ 1000) (hC : ∀ b, b < 10 → -1000 ≤ rd I 179 b ∧ rd I 179 b ≤ 1000) (hok : okL I 10) (h : ∀ I', shL I I' 10 → fq S3 I I' → F (some (.int (iI (wNow I')))) (gM I' J)) : Cl yX12_worth kX12_worth [.ref 171] (gM I J) F := by
  refine cl_s (by decide) (by decide) (Nat.le_of_ble_eq_true rfl) rt_i ?_
  show Wp _ F 0 [(0, .ref 171)] [] _
  refine w_aload_n dX12_worth_0 rfl ?_
  refine v_callV0 dX12_worth_1 lX12_136 vX12_laysAll (by decide) rfl rfl ⟨by decide, rfl⟩ (by decide) rfl (Nat.le_of_ble_eq_true rfl) ?_
  refine x12_laysAll hR hC (fun q1 I1 s1 m1 => ?_) (fun q1 I1 m1 => absurd hok q1)
  refine w_pop dX12_worth_4 rfl ?_
  refine w_aload_n dX12_worth_5 rfl ?_
  refine v_callV0 dX12_worth_6 lX12_165 vX12_worthNow (by decide) rfl rfl ⟨by decide, rfl⟩ (by decide) rfl (Nat.le_of_ble_eq_true rfl) ?_
  refine x12_worthNow (fun c g => by rw [fq_2 m1 _ _ (by unfold S3; omega)]; exact hR c g) (fun c g => by rw [fq_2 m1 _ _ (by unfold S3; omega)]; exact hC c g) ?_
  refine v_iret dX12_worth_9 rfl ⟨rfl, rfl⟩ ?_
  exact h I1 s1 (fq_2 m1)
