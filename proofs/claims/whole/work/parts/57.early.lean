/-! anyLies, notesEarly, fits: the reference -/
def anyL (I : Nat → Nat → Int32) : Prop := ∃ b, b < 10 ∧ lyB I b
theorem x12_anyLies_l {I : Nat → Nat → Int32} {J : Nat → Nat → Int64} {F : Option Value → zM → Prop} (ht : anyL I → F (some (.int (iI 1))) (gM I J)) (hf : ¬ anyL I → F (some (.int (iI 0))) (gM I J)) : ∀ (nz : Nat) (k : Nat) (u : Int), 10 - k < nz → k ≤ 10 → (u = 0 ∨ u = 1) → (u = 0 → ∀ j, j < k → rd I 177 j = 0) → (u ≠ 0 → anyL I) → Wp (sE kX12_anyLies RX12) F 4 [(0, .ref 171), (1, .int (iI u)), (2, .int (iI (k : Int)))] [] (gM I J) := by
  intro nz
  induction nz with
  | zero =>
    intro k u hmz hk hu1 hu2 hu3
    exact absurd hmz (Nat.not_lt_zero _)
  | succ nz ih =>
    intro k u hmz hk hu1 hu2 hu3
    refine w_iload_n dX12_anyLies_4 rfl ?_
    refine w_bipush (v := iI 10) dX12_anyLies_5 (by decide) ?_
    refine v_icmp_ge 35 dX12_anyLies_7 (by decide) (by omega) (by omega) (fun c7 => ?_) (fun c7 => ?_)
    · refine w_iload_n dX12_anyLies_35 rfl ?_
      refine v_zret dX12_anyLies_36 rfl ⟨rfl, rfl⟩ (by omega) ?_
      rcases hu1 with g | g
      · rw [g]
        exact hf (fun ⟨b, g1, g2⟩ => g2 (hu2 g b (by omega)))
      · rw [g]
        exact ht (hu3 (by omega))
    · refine w_iload_n dX12_anyLies_10 rfl ?_
      refine v_if_ne 23 dX12_anyLies_11 (by decide) (by omega) (fun c11 => ?_) (fun c11 => ?_)
      · refine w_iconst (v := iI 1) dX12_anyLies_23 rfl ?_
        refine w_goto 28 dX12_anyLies_24 (by decide) ?_
        refine w_istore_n dX12_anyLies_28 rfl rfl ?_
        refine v_iinc dX12_anyLies_29 rfl rfl rfl ?_
        refine w_goto 4 dX12_anyLies_32 (by decide) ?_
        rw [show (k : Int) + 1 = ((k + 1 : Nat) : Int) by omega]
        first
          | (refine ih (k + 1) 1 (by omega) (by omega) (by omega) (fun g => by omega) (fun _ => ?_)
             first | exact hu3 (by omega) | exact ⟨k, by omega, by show rd I 177 k ≠ 0; omega⟩)
          | (refine ih (k + 1) 0 (by omega) (by omega) (by omega) (fun _ j hj => ?_) (fun g => by omega)
             rcases Nat.lt_succ_iff_lt_or_eq.mp hj with g | g
             · exact hu2 (by omega) j g
             · subst g; omega)
      · refine w_aload_n dX12_anyLies_14 rfl ?_
        refine v_getR (j := 177) dX12_anyLies_15 fX12_26 ⟨by decide, rfl⟩ rfl rfl ?_
        refine w_iload_n dX12_anyLies_18 rfl ?_
        refine v_zald dX12_anyLies_19 ⟨by decide, rfl⟩ (by omega) (by omega) (by decide) (fun z19 e19 b19 => ?_)
        have f19 : z19 = rd I 177 k := by rw [e19]; rfl
        refine v_if_eq 27 dX12_anyLies_20 (by decide) (by omega) (fun c20 => ?_) (fun c20 => ?_)
        · refine w_iconst (v := iI 0) dX12_anyLies_27 rfl ?_
          refine w_istore_n dX12_anyLies_28 rfl rfl ?_
          refine v_iinc dX12_anyLies_29 rfl rfl rfl ?_
          refine w_goto 4 dX12_anyLies_32 (by decide) ?_
          rw [show (k : Int) + 1 = ((k + 1 : Nat) : Int) by omega]
          first
            | (refine ih (k + 1) 1 (by omega) (by omega) (by omega) (fun g => by omega) (fun _ => ?_)
               first | exact hu3 (by omega) | exact ⟨k, by omega, by show rd I 177 k ≠ 0; omega⟩)
            | (refine ih (k + 1) 0 (by omega) (by omega) (by omega) (fun _ j hj => ?_) (fun g => by omega)
               rcases Nat.lt_succ_iff_lt_or_eq.mp hj with g | g
               · exact hu2 (by omega) j g
               · subst g; omega)
        · refine w_iconst (v := iI 1) dX12_anyLies_23 rfl ?_
          refine w_goto 28 dX12_anyLies_24 (by decide) ?_
          refine w_istore_n dX12_anyLies_28 rfl rfl ?_
          refine v_iinc dX12_anyLies_29 rfl rfl rfl ?_
          refine w_goto 4 dX12_anyLies_32 (by decide) ?_
          rw [show (k : Int) + 1 = ((k + 1 : Nat) : Int) by omega]
          first
            | (refine ih (k + 1) 1 (by omega) (by omega) (by omega) (fun g => by omega) (fun _ => ?_)
               first | exact hu3 (by omega) | exact ⟨k, by omega, by show rd I 177 k ≠ 0; omega⟩)
            | (refine ih (k + 1) 0 (by omega) (by omega) (by omega) (fun _ j hj => ?_) (fun g => by omega)
               rcases Nat.lt_succ_iff_lt_or_eq.mp hj with g | g
               · exact hu2 (by omega) j g
               · subst g; omega)
theorem x12_anyLies {I : Nat → Nat → Int32} {J : Nat → Nat → Int64} {F : Option Value → zM → Prop} (ht : anyL I → F (some (.int (iI 1))) (gM I J)) (hf : ¬ anyL I → F (some (.int (iI 0))) (gM I J)) : Cl yX12_anyLies kX12_anyLies [.ref 171] (gM I J) F := by
  refine cl_s (by decide) (by decide) (Nat.le_of_ble_eq_true rfl) rt_z ?_
  show Wp _ F 0 [(0, .ref 171)] [] _
  refine w_iconst (v := iI 0) dX12_anyLies_0 rfl ?_
  refine w_istore_n dX12_anyLies_1 rfl rfl ?_
  refine w_iconst (v := iI 0) dX12_anyLies_2 rfl ?_
  refine w_istore_n dX12_anyLies_3 rfl rfl ?_
  exact x12_anyLies_l ht hf 11 0 0 (by omega) (by omega) (by omega) (fun _ j hj => by omega) (fun g => absurd rfl g)
theorem x12_notesEarly_l {I : Nat → Nat → Int32} {J : Nat → Nat → Int64} {F : Option Value → zM → Prop} (hR : ∀ b, b < 10 → -1000 ≤ rd I 178 b ∧ rd I 178 b ≤ 1000) (hC : ∀ b, b < 10 → -1000 ≤ rd I 179 b ∧ rd I 179 b ≤ 1000) (hok : okL I 10) (h : ∀ I', (∀ k, k < 512 → rd I' 187 k = lO I ((k / 32 : Nat) : Int) ((k % 32 : Nat) : Int)) → fq (fun id k => S3 id k ∨ id = 187) I I' → F none (gM I' J)) {I1 : Nat → Nat → Int32} (hs : shL I I1 10) : ∀ (nz : Nat) (k : Nat) (I' : Nat → Nat → Int32), 512 - k < nz → k ≤ 512 → (∀ k', rd I' 186 k' = rd I1 186 k') → (∀ j, j < k → rd I' 187 j = lO I ((j / 32 : Nat) : Int) ((j % 32 : Nat) : Int)) → fq (fun id k => S3 id k ∨ id = 187) I I' → Wp (sE kX12_notesEarly RX12) F 7 [(0, .ref 171), (1, .int (iI (k : Int)))] [] (gM I' J) := by
  intro nz
  induction nz with
  | zero =>
    intro k I' hmz hk ho hd hx
    exact absurd hmz (Nat.not_lt_zero _)
  | succ nz ih =>
    intro k I' hmz hk ho hd hx
    refine w_iload_n dX12_notesEarly_7 rfl ?_
    refine w_sipush (v := iI 512) dX12_notesEarly_8 (by decide) ?_
    refine v_icmp_ge 32 dX12_notesEarly_11 (by decide) (by omega) (by omega) (fun c11 => ?_) (fun c11 => ?_)
    · refine v_vret dX12_notesEarly_32 rfl ⟨rfl, rfl⟩ ?_
      exact h I' (fun j hj => hd j (by omega)) hx
    · refine w_aload_n dX12_notesEarly_14 rfl ?_
      refine v_getR (j := 187) dX12_notesEarly_15 fX12_56 ⟨by decide, rfl⟩ rfl rfl ?_
      refine w_iload_n dX12_notesEarly_18 rfl ?_
      refine w_aload_n dX12_notesEarly_19 rfl ?_
      refine v_getR (j := 186) dX12_notesEarly_20 fX12_53 ⟨by decide, rfl⟩ rfl rfl ?_
      refine w_iload_n dX12_notesEarly_23 rfl ?_
      refine v_iald dX12_notesEarly_24 ⟨by decide, rfl⟩ (by omega) (by omega) (by decide) (fun z24 e24 b24 => ?_)
      have f24 : z24 = lO I ((k / 32 : Nat) : Int) ((k % 32 : Nat) : Int) := by
        exact e24.trans ((ho k).trans (shL_ls hs (k := k) (by omega)).2)
      refine v_iast dX12_notesEarly_25 ⟨by decide, rfl⟩ (by omega) (by omega) (by decide) ?_
      refine v_iinc dX12_notesEarly_26 rfl rfl rfl ?_
      refine w_goto 7 dX12_notesEarly_29 (by decide) ?_
      rw [show (k : Int) + 1 = ((k + 1 : Nat) : Int) by omega]
      refine ih (k + 1) _ (by omega) (by omega) (fun k' => by rw [rd_wr_row (by decide)]; exact ho k') (fun j hj => ?_) (fun id j g => ?_)
      · rw [rd_wr (by omega) (by omega)]
        by_cases g : j = k
        · rw [if_pos ⟨rfl, by omega⟩, f24, g]
        · rw [if_neg (by omega)]; exact hd j (by omega)
      · rw [rd_wr_ne (fun q => g (Or.inr q.1))]; exact hx id j g
theorem x12_notesEarly {I : Nat → Nat → Int32} {J : Nat → Nat → Int64} {F : Option Value → zM → Prop} (hR : ∀ b, b < 10 → -1000 ≤ rd I 178 b ∧ rd I 178 b ≤ 1000) (hC : ∀ b, b < 10 → -1000 ≤ rd I 179 b ∧ rd I 179 b ≤ 1000) (hok : okL I 10) (h : ∀ I', (∀ k, k < 512 → rd I' 187 k = lO I ((k / 32 : Nat) : Int) ((k % 32 : Nat) : Int)) → fq (fun id k => S3 id k ∨ id = 187) I I' → F none (gM I' J)) : Cl yX12_notesEarly kX12_notesEarly [.ref 171] (gM I J) F := by
  refine cl_s (by decide) (by decide) (Nat.le_of_ble_eq_true rfl) rt_v ?_
  show Wp _ F 0 [(0, .ref 171)] [] _
  refine w_aload_n dX12_notesEarly_0 rfl ?_
  refine v_callV0 dX12_notesEarly_1 lX12_136 vX12_laysAll (by decide) rfl rfl ⟨by decide, rfl⟩ (by decide) rfl (Nat.le_of_ble_eq_true rfl) ?_
  refine x12_laysAll hR hC (fun q1 I1 s1 m1 => ?_) (fun q1 I1 m1 => absurd hok q1)
  refine w_pop dX12_notesEarly_4 rfl ?_
  refine w_iconst (v := iI 0) dX12_notesEarly_5 rfl ?_
  refine w_istore_n dX12_notesEarly_6 rfl rfl ?_
  exact x12_notesEarly_l hR hC hok h s1 513 0 I1 (by omega) (by omega) (fun _ => rfl) (fun j hj => by omega) (fun id k g => fq_2 m1 id k (fun q => g (Or.inl q)))
