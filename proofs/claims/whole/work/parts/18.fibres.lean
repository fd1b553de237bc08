/-- the locals below a number -/
def z_keep (n : Nat) : List (Nat × Value) → List (Nat × Value)
  | [] => []
  | q :: t => cond (Nat.blt q.1 n) (q :: z_keep n t) (z_keep n t)
theorem z_keep_mem {n : Nat} : ∀ {lv : List (Nat × Value)} {x : Nat × Value}, x ∈ z_keep n lv → x ∈ lv
  | [], _, h => h
  | q :: t, x, h => by
    unfold z_keep at h
    cases e : Nat.blt q.1 n with
    | true =>
      rw [e] at h
      exact (List.mem_cons.mp h).elim (fun g => g ▸ List.mem_cons_self) (fun g => List.mem_cons_of_mem _ (z_keep_mem g))
    | false =>
      rw [e] at h
      exact List.mem_cons_of_mem _ (z_keep_mem h)
theorem w_keep {E : zE} {Q : Option Value → zM → Prop} {pc : Nat} {lv : List (Nat × Value)} {st : List Value} {m : zM} (n : Nat) (k : Wp E Q pc (z_keep n lv) st m) : Wp E Q pc lv st m := by
  intro p l e R s mi args below meth c D ca A b Z hA ad H locs ls h1 h2 h3 h4 h5 h6 h7
  refine k p l e R s mi args below meth c D ca A b Z hA ad H locs ls h1 h2 h3 (fun q hq => h4 q (z_keep_mem hq)) h5 h6 ⟨h7.1, h7.2.1, fun q hq => ?_⟩
  obtain ⟨x, hx, rfl⟩ := List.mem_map.mp hq
  exact h7.2.2 _ (List.mem_map.mpr ⟨x, z_keep_mem hx, rfl⟩)
/-! Fibres, Lanes -/
/-- I' is I but in the cells of which S speaks -/
def fr (S : Nat → Prop) (I I' : Nat → Nat → Int32) : Prop := ∀ id k, ¬ S id → rd I' id k = rd I id k
/-- a FIBRE that counts: numbers in cell u, reached in cell v, n of them -/
def tF (I : Nat → Nat → Int32) (u v : Nat) (n i : Int) : Int := if 0 ≤ i ∧ i < n ∧ rd I v i.toNat ≠ 0 then rd I u i.toNat else 0
theorem tF_bd (I : Nat → Nat → Int32) (u v : Nat) (n i : Int) : -2147483648 ≤ tF I u v n i ∧ tF I u v n i < 2147483648 := by
  unfold tF
  split
  · exact rd_bd I u i.toNat
  · decide
def wbC (f g : Nat → Int) : Nat → Int
  | 0 => 0
  | n + 1 => wbC f g n + (if f n ≠ 0 ∧ g n ≠ 0 then 2 else 0)
theorem x1_told_a {I : Nat → Nat → Int32} {J : Nat → Nat → Int64} {F : Option Value → zM → Prop} {b : Nat} (hb : b < 10) {i : Int} (bi : -2147483648 ≤ i ∧ i < 2147483648) (h : ∀ z : Int, z = tF I (bI b 7) (bI b 8) 5 i → -2147483648 ≤ z ∧ z < 2147483648 → F (some (.int (iI z))) (gM I J)) : Cl yX1_told kX1_told [.ref (bI b 6), .int (iI i)] (gM I J) F := by
  refine cl_s (by decide) (by decide) (Nat.le_of_ble_eq_true rfl) rt_i ?_
  show Wp _ F 0 [(0, .ref (bI b 6)), (1, .int (iI i))] [] _
  refine w_iload_n dX1_told_0 rfl ?_
  refine v_if_lt 13 dX1_told_1 (by decide) (by omega) (fun c1 => ?_) (fun c1 => ?_)
  · refine w_iconst (v := iI 0) dX1_told_13 rfl ?_
    refine v_iret dX1_told_14 rfl ⟨rfl, rfl⟩ ?_
    exact h 0 (by unfold tF; rw [if_neg (by omega)]) (by decide)
  · refine w_iload_n dX1_told_4 rfl ?_
    refine w_aload_n dX1_told_5 rfl ?_
    refine v_getR (j := bI b 7) dX1_told_6 fX1_9 (sO_b hb (by decide) rfl) rfl (r0_b hb (by decide)) ?_
    refine v_alen0 dX1_told_9 (sA_b hb (by decide) rfl) ?_
    refine v_icmp_lt 15 dX1_told_10 (by decide) (by omega) (by omega) (fun c10 => ?_) (fun c10 => ?_)
    · refine w_aload_n dX1_told_15 rfl ?_
      refine v_getR (j := bI b 8) dX1_told_16 fX1_15 (sO_b hb (by decide) rfl) rfl (r0_b hb (by decide)) ?_
      refine w_iload_n dX1_told_19 rfl ?_
      refine v_zald dX1_told_20 (sA_b hb (by decide) rfl) (by omega) (by omega) (by decide) (fun z20 e20 b20 => ?_)
      refine v_if_eq 33 dX1_told_21 (by decide) (by omega) (fun c21 => ?_) (fun c21 => ?_)
      · refine w_iconst (v := iI 0) dX1_told_33 rfl ?_
        refine v_iret dX1_told_34 rfl ⟨rfl, rfl⟩ ?_
        first | exact h _ (by unfold tF; rw [if_pos (by rw [← e20]; omega)]; exact e29) b29 | exact h 0 (by unfold tF; rw [if_neg (by rw [← e20]; omega)]) (by decide)
      · refine w_aload_n dX1_told_24 rfl ?_
        refine v_getR (j := bI b 7) dX1_told_25 fX1_9 (sO_b hb (by decide) rfl) rfl (r0_b hb (by decide)) ?_
        refine w_iload_n dX1_told_28 rfl ?_
        refine v_iald dX1_told_29 (sA_b hb (by decide) rfl) (by omega) (by omega) (by decide) (fun z29 e29 b29 => ?_)
        refine w_goto 34 dX1_told_30 (by decide) ?_
        refine v_iret dX1_told_34 rfl ⟨rfl, rfl⟩ ?_
        first | exact h _ (by unfold tF; rw [if_pos (by rw [← e20]; omega)]; exact e29) b29 | exact h 0 (by unfold tF; rw [if_neg (by rw [← e20]; omega)]) (by decide)
    · refine w_iconst (v := iI 0) dX1_told_13 rfl ?_
      refine v_iret dX1_told_14 rfl ⟨rfl, rfl⟩ ?_
      exact h 0 (by unfold tF; rw [if_neg (by omega)]) (by decide)
theorem x1_clear_a_l {I : Nat → Nat → Int32} {J : Nat → Nat → Int64} {F : Option Value → zM → Prop} {b : Nat} (hb : b < 10) (h : ∀ I', (∀ id k, rd I' id k = if (id = (bI b 7) ∨ id = (bI b 8)) ∧ k < 5 then 0 else rd I id k) → F none (gM I' J)) : ∀ (n k : Nat) (I' : Nat → Nat → Int32), 5 - k < n → k ≤ 5 → (∀ id j, rd I' id j = if (id = (bI b 7) ∨ id = (bI b 8)) ∧ j < k then 0 else rd I id j) → Wp (sE kX1_clear RX1) F 2 [(0, .ref (bI b 6)), (1, .int (iI (k : Int)))] [] (gM I' J) := by
  intro n
  induction n with
  | zero => intro k I' hn hk hI; omega
  | succ n ih =>
    intro k I' hn hk hI
    refine w_iload_n dX1_clear_2 rfl ?_
    refine w_aload_n dX1_clear_3 rfl ?_
    refine v_getR (j := bI b 7) dX1_clear_4 fX1_9 (sO_b hb (by decide) rfl) rfl (r0_b hb (by decide)) ?_
    refine v_alen0 dX1_clear_7 (sA_b hb (by decide) rfl) ?_
    refine v_icmp_ge 31 dX1_clear_8 (by decide) (by omega) (by omega) (fun c8 => ?_) (fun c8 => ?_)
    · refine v_vret dX1_clear_31 rfl ⟨rfl, rfl⟩ ?_
      exact h I' (fun id j => by have hk2 : k = 5 := (by omega); rw [hI id j, hk2])
    · refine w_aload_n dX1_clear_11 rfl ?_
      refine v_getR (j := bI b 7) dX1_clear_12 fX1_9 (sO_b hb (by decide) rfl) rfl (r0_b hb (by decide)) ?_
      refine w_iload_n dX1_clear_15 rfl ?_
      refine w_iconst (v := iI 0) dX1_clear_16 rfl ?_
      refine v_iast dX1_clear_17 (sA_b hb (by decide) rfl) (by omega) (by omega) (by decide) ?_
      refine w_aload_n dX1_clear_18 rfl ?_
      refine v_getR (j := bI b 8) dX1_clear_19 fX1_15 (sO_b hb (by decide) rfl) rfl (r0_b hb (by decide)) ?_
      refine w_iload_n dX1_clear_22 rfl ?_
      refine w_iconst (v := iI 0) dX1_clear_23 rfl ?_
      refine v_zast dX1_clear_24 (sA_b hb (by decide) rfl) (by omega) (by omega) (by decide) (by decide) ?_
      refine v_iinc dX1_clear_25 rfl rfl rfl ?_
      refine w_goto 2 dX1_clear_28 (by decide) ?_
      refine ih (k + 1) _ (by omega) (by omega) (fun id j => ?_)
      rw [rd_wr (by omega) (by omega), rd_wr (by omega) (by omega), hI id j]
      simp only [Int.toNat_natCast]
      have hne : (bI b 7) ≠ (bI b 8) := by unfold bI; omega
      by_cases h1 : id = (bI b 7)
      · subst h1
        by_cases h3 : j = k
        · simp [h3, hne]
        · by_cases h4 : j < k
          · simp [h3, h4, hne, Nat.lt_succ_of_lt h4]
          · simp [h3, h4, hne, show ¬ j < k + 1 by omega]
      · by_cases h2 : id = (bI b 8)
        · subst h2
          by_cases h3 : j = k
          · simp [h3]
          · by_cases h4 : j < k
            · simp [h3, h4, Nat.lt_succ_of_lt h4]
            · simp [h3, h4, show ¬ j < k + 1 by omega]
        · simp [h1, h2]
theorem x1_clear_a {I : Nat → Nat → Int32} {J : Nat → Nat → Int64} {F : Option Value → zM → Prop} {b : Nat} (hb : b < 10) (h : ∀ I', (∀ id k, rd I' id k = if (id = (bI b 7) ∨ id = (bI b 8)) ∧ k < 5 then 0 else rd I id k) → F none (gM I' J)) : Cl yX1_clear kX1_clear [.ref (bI b 6)] (gM I J) F := by
  refine cl_s (by decide) (by decide) (Nat.le_of_ble_eq_true rfl) rt_v ?_
  show Wp _ F 0 [(0, .ref (bI b 6))] [] _
  refine w_iconst (v := iI 0) dX1_clear_0 rfl ?_
  refine w_istore_n dX1_clear_1 rfl rfl ?_
  exact x1_clear_a_l hb h 6 0 I (by omega) (by omega) (fun id j => by simp)
theorem x1_worthBeside_a_l {I : Nat → Nat → Int32} {J : Nat → Nat → Int64} {F : Option Value → zM → Prop} {b : Nat} (hb : b < 10) {g : Nat} (hg : g < 10) {sh : Int} (hsh : -1000 ≤ sh ∧ sh ≤ 1000) (hq : (∃ j : Nat, j < 5 ∧ (tF I (bI b 7) (bI b 8) 5 (j : Int) ≠ 0 ∧ tF I (bI g 7) (bI g 8) 5 ((j : Int) - sh) ≠ 0 ∧ tF I (bI b 7) (bI b 8) 5 (j : Int) ≠ tF I (bI g 7) (bI g 8) 5 ((j : Int) - sh))) → F (some (.int (iI (-1)))) (gM I J)) (hs : (∀ j : Nat, j < 5 → ¬ (tF I (bI b 7) (bI b 8) 5 (j : Int) ≠ 0 ∧ tF I (bI g 7) (bI g 8) 5 ((j : Int) - sh) ≠ 0 ∧ tF I (bI b 7) (bI b 8) 5 (j : Int) ≠ tF I (bI g 7) (bI g 8) 5 ((j : Int) - sh))) → F (some (.int (iI (wbC (fun j : Nat => tF I (bI b 7) (bI b 8) 5 (j : Int)) (fun j : Nat => tF I (bI g 7) (bI g 8) 5 ((j : Int) - sh)) 5)))) (gM I J)) : ∀ (n k : Nat) (acc : Int), 5 - k < n → k ≤ 5 → acc = wbC (fun j : Nat => tF I (bI b 7) (bI b 8) 5 (j : Int)) (fun j : Nat => tF I (bI g 7) (bI g 8) 5 ((j : Int) - sh)) k → (∀ j : Nat, j < k → ¬ (tF I (bI b 7) (bI b 8) 5 (j : Int) ≠ 0 ∧ tF I (bI g 7) (bI g 8) 5 ((j : Int) - sh) ≠ 0 ∧ tF I (bI b 7) (bI b 8) 5 (j : Int) ≠ tF I (bI g 7) (bI g 8) 5 ((j : Int) - sh))) → Wp (sE kX1_worthBeside RX1) F 5 [(0, .ref (bI b 6)), (1, .ref (bI g 6)), (2, .int (iI sh)), (3, .int (iI acc)), (4, .int (iI (k : Int)))] [] (gM I J) := by
  intro n
  induction n with
  | zero => intro k acc hn hk ha hno; omega
  | succ n ih =>
    intro k acc hn hk ha hno
    refine w_iload dX1_worthBeside_5 rfl ?_
    refine w_aload_n dX1_worthBeside_7 rfl ?_
    refine v_getR (j := bI b 7) dX1_worthBeside_8 fX1_9 (sO_b hb (by decide) rfl) rfl (r0_b hb (by decide)) ?_
    refine v_alen0 dX1_worthBeside_11 (sA_b hb (by decide) rfl) ?_
    refine v_icmp_ge 61 dX1_worthBeside_12 (by decide) (by omega) (by omega) (fun c12 => ?_) (fun c12 => ?_)
    · refine w_iload_n dX1_worthBeside_61 rfl ?_
      refine v_iret dX1_worthBeside_62 rfl ⟨rfl, rfl⟩ ?_
      have hk2 : k = 5 := by omega
      subst hk2
      rw [ha]
      exact hs hno
    · refine w_aload_n dX1_worthBeside_15 rfl ?_
      refine w_iload dX1_worthBeside_16 rfl ?_
      refine v_callV1 dX1_worthBeside_18 lX1_19 vX1_told (by decide) rfl rfl (sO_b hb (by decide) rfl) (by decide) rfl (by decide) ?_
      refine x1_told_a hb (by omega) (fun z18 e18 b18 => ?_)
      refine w_istore dX1_worthBeside_21 rfl rfl ?_
      refine w_aload_n dX1_worthBeside_23 rfl ?_
      refine w_iload dX1_worthBeside_24 rfl ?_
      refine w_iload_n dX1_worthBeside_26 rfl ?_
      refine v_isub dX1_worthBeside_27 ?_
      refine v_callV1 dX1_worthBeside_28 lX1_19 vX1_told (by decide) rfl rfl (sO_b hg (by decide) rfl) (by decide) rfl (by decide) ?_
      refine x1_told_a hg (by omega) (fun z28 e28 b28 => ?_)
      refine w_istore dX1_worthBeside_31 rfl rfl ?_
      refine w_iload dX1_worthBeside_33 rfl ?_
      refine v_if_eq 55 dX1_worthBeside_35 (by decide) (by omega) (fun c35 => ?_) (fun c35 => ?_)
      · refine v_iinc dX1_worthBeside_55 rfl rfl rfl ?_
        refine w_goto 5 dX1_worthBeside_58 (by decide) ?_
        refine w_keep 5 ?_
        refine ih (k + 1) _ (by omega) (by omega) ?_ ?_
        · rw [wbC, ← ha]
          simp only [← e18, ← e28]
          split <;> omega
        · intro j hj
          rcases Nat.lt_succ_iff_lt_or_eq.mp hj with q | q
          · exact hno j q
          · subst q
            rw [← e18, ← e28]
            omega
      · refine w_iload dX1_worthBeside_38 rfl ?_
        refine v_if_eq 55 dX1_worthBeside_40 (by decide) (by omega) (fun c40 => ?_) (fun c40 => ?_)
        · refine v_iinc dX1_worthBeside_55 rfl rfl rfl ?_
          refine w_goto 5 dX1_worthBeside_58 (by decide) ?_
          refine w_keep 5 ?_
          refine ih (k + 1) _ (by omega) (by omega) ?_ ?_
          · rw [wbC, ← ha]
            simp only [← e18, ← e28]
            split <;> omega
          · intro j hj
            rcases Nat.lt_succ_iff_lt_or_eq.mp hj with q | q
            · exact hno j q
            · subst q
              rw [← e18, ← e28]
              omega
        · refine w_iload dX1_worthBeside_43 rfl ?_
          refine w_iload dX1_worthBeside_45 rfl ?_
          refine v_icmp_eq 52 dX1_worthBeside_47 (by decide) (by omega) (by omega) (fun c47 => ?_) (fun c47 => ?_)
          · refine v_iinc dX1_worthBeside_52 rfl rfl rfl ?_
            refine v_iinc dX1_worthBeside_55 rfl rfl rfl ?_
            refine w_goto 5 dX1_worthBeside_58 (by decide) ?_
            refine w_keep 5 ?_
            refine ih (k + 1) _ (by omega) (by omega) ?_ ?_
            · rw [wbC, ← ha]
              simp only [← e18, ← e28]
              split <;> omega
            · intro j hj
              rcases Nat.lt_succ_iff_lt_or_eq.mp hj with q | q
              · exact hno j q
              · subst q
                rw [← e18, ← e28]
                omega
          · refine w_iconst (v := iI (-1)) dX1_worthBeside_50 rfl ?_
            refine v_iret dX1_worthBeside_51 rfl ⟨rfl, rfl⟩ ?_
            exact hq ⟨k, by omega, by rw [← e18, ← e28]; omega⟩
theorem x1_worthBeside_a {I : Nat → Nat → Int32} {J : Nat → Nat → Int64} {F : Option Value → zM → Prop} {b : Nat} (hb : b < 10) {g : Nat} (hg : g < 10) {sh : Int} (hsh : -1000 ≤ sh ∧ sh ≤ 1000) (hq : (∃ j : Nat, j < 5 ∧ (tF I (bI b 7) (bI b 8) 5 (j : Int) ≠ 0 ∧ tF I (bI g 7) (bI g 8) 5 ((j : Int) - sh) ≠ 0 ∧ tF I (bI b 7) (bI b 8) 5 (j : Int) ≠ tF I (bI g 7) (bI g 8) 5 ((j : Int) - sh))) → F (some (.int (iI (-1)))) (gM I J)) (hs : (∀ j : Nat, j < 5 → ¬ (tF I (bI b 7) (bI b 8) 5 (j : Int) ≠ 0 ∧ tF I (bI g 7) (bI g 8) 5 ((j : Int) - sh) ≠ 0 ∧ tF I (bI b 7) (bI b 8) 5 (j : Int) ≠ tF I (bI g 7) (bI g 8) 5 ((j : Int) - sh))) → F (some (.int (iI (wbC (fun j : Nat => tF I (bI b 7) (bI b 8) 5 (j : Int)) (fun j : Nat => tF I (bI g 7) (bI g 8) 5 ((j : Int) - sh)) 5)))) (gM I J)) : Cl yX1_worthBeside kX1_worthBeside [.ref (bI b 6), .ref (bI g 6), .int (iI sh)] (gM I J) F := by
  refine cl_s (by decide) (by decide) (Nat.le_of_ble_eq_true rfl) rt_i ?_
  show Wp _ F 0 [(0, .ref (bI b 6)), (1, .ref (bI g 6)), (2, .int (iI sh))] [] _
  refine w_iconst (v := iI 0) dX1_worthBeside_0 rfl ?_
  refine w_istore_n dX1_worthBeside_1 rfl rfl ?_
  refine w_iconst (v := iI 0) dX1_worthBeside_2 rfl ?_
  refine w_istore dX1_worthBeside_3 rfl rfl ?_
  exact x1_worthBeside_a_l hb hg hsh hq hs 6 0 0 (by omega) (by omega) rfl (fun j hj => by omega)
theorem x1_told_d {I : Nat → Nat → Int32} {J : Nat → Nat → Int64} {F : Option Value → zM → Prop} {b : Nat} (hb : b < 10) {i : Int} (bi : -2147483648 ≤ i ∧ i < 2147483648) (h : ∀ z : Int, z = tF I (bI b 10) (bI b 11) 10 i → -2147483648 ≤ z ∧ z < 2147483648 → F (some (.int (iI z))) (gM I J)) : Cl yX1_told kX1_told [.ref (bI b 9), .int (iI i)] (gM I J) F := by
  refine cl_s (by decide) (by decide) (Nat.le_of_ble_eq_true rfl) rt_i ?_
  show Wp _ F 0 [(0, .ref (bI b 9)), (1, .int (iI i))] [] _
  refine w_iload_n dX1_told_0 rfl ?_
  refine v_if_lt 13 dX1_told_1 (by decide) (by omega) (fun c1 => ?_) (fun c1 => ?_)
  · refine w_iconst (v := iI 0) dX1_told_13 rfl ?_
    refine v_iret dX1_told_14 rfl ⟨rfl, rfl⟩ ?_
    exact h 0 (by unfold tF; rw [if_neg (by omega)]) (by decide)
  · refine w_iload_n dX1_told_4 rfl ?_
    refine w_aload_n dX1_told_5 rfl ?_
    refine v_getR (j := bI b 10) dX1_told_6 fX1_9 (sO_b hb (by decide) rfl) rfl (r0_b hb (by decide)) ?_
    refine v_alen0 dX1_told_9 (sA_b hb (by decide) rfl) ?_
    refine v_icmp_lt 15 dX1_told_10 (by decide) (by omega) (by omega) (fun c10 => ?_) (fun c10 => ?_)
    · refine w_aload_n dX1_told_15 rfl ?_
      refine v_getR (j := bI b 11) dX1_told_16 fX1_15 (sO_b hb (by decide) rfl) rfl (r0_b hb (by decide)) ?_
      refine w_iload_n dX1_told_19 rfl ?_
      refine v_zald dX1_told_20 (sA_b hb (by decide) rfl) (by omega) (by omega) (by decide) (fun z20 e20 b20 => ?_)
      refine v_if_eq 33 dX1_told_21 (by decide) (by omega) (fun c21 => ?_) (fun c21 => ?_)
      · refine w_iconst (v := iI 0) dX1_told_33 rfl ?_
        refine v_iret dX1_told_34 rfl ⟨rfl, rfl⟩ ?_
        first | exact h _ (by unfold tF; rw [if_pos (by rw [← e20]; omega)]; exact e29) b29 | exact h 0 (by unfold tF; rw [if_neg (by rw [← e20]; omega)]) (by decide)
      · refine w_aload_n dX1_told_24 rfl ?_
        refine v_getR (j := bI b 10) dX1_told_25 fX1_9 (sO_b hb (by decide) rfl) rfl (r0_b hb (by decide)) ?_
        refine w_iload_n dX1_told_28 rfl ?_
        refine v_iald dX1_told_29 (sA_b hb (by decide) rfl) (by omega) (by omega) (by decide) (fun z29 e29 b29 => ?_)
        refine w_goto 34 dX1_told_30 (by decide) ?_
        refine v_iret dX1_told_34 rfl ⟨rfl, rfl⟩ ?_
        first | exact h _ (by unfold tF; rw [if_pos (by rw [← e20]; omega)]; exact e29) b29 | exact h 0 (by unfold tF; rw [if_neg (by rw [← e20]; omega)]) (by decide)
    · refine w_iconst (v := iI 0) dX1_told_13 rfl ?_
      refine v_iret dX1_told_14 rfl ⟨rfl, rfl⟩ ?_
      exact h 0 (by unfold tF; rw [if_neg (by omega)]) (by decide)
theorem x1_clear_d_l {I : Nat → Nat → Int32} {J : Nat → Nat → Int64} {F : Option Value → zM → Prop} {b : Nat} (hb : b < 10) (h : ∀ I', (∀ id k, rd I' id k = if (id = (bI b 10) ∨ id = (bI b 11)) ∧ k < 10 then 0 else rd I id k) → F none (gM I' J)) : ∀ (n k : Nat) (I' : Nat → Nat → Int32), 10 - k < n → k ≤ 10 → (∀ id j, rd I' id j = if (id = (bI b 10) ∨ id = (bI b 11)) ∧ j < k then 0 else rd I id j) → Wp (sE kX1_clear RX1) F 2 [(0, .ref (bI b 9)), (1, .int (iI (k : Int)))] [] (gM I' J) := by
  intro n
  induction n with
  | zero => intro k I' hn hk hI; omega
  | succ n ih =>
    intro k I' hn hk hI
    refine w_iload_n dX1_clear_2 rfl ?_
    refine w_aload_n dX1_clear_3 rfl ?_
    refine v_getR (j := bI b 10) dX1_clear_4 fX1_9 (sO_b hb (by decide) rfl) rfl (r0_b hb (by decide)) ?_
    refine v_alen0 dX1_clear_7 (sA_b hb (by decide) rfl) ?_
    refine v_icmp_ge 31 dX1_clear_8 (by decide) (by omega) (by omega) (fun c8 => ?_) (fun c8 => ?_)
    · refine v_vret dX1_clear_31 rfl ⟨rfl, rfl⟩ ?_
      exact h I' (fun id j => by have hk2 : k = 10 := (by omega); rw [hI id j, hk2])
    · refine w_aload_n dX1_clear_11 rfl ?_
      refine v_getR (j := bI b 10) dX1_clear_12 fX1_9 (sO_b hb (by decide) rfl) rfl (r0_b hb (by decide)) ?_
      refine w_iload_n dX1_clear_15 rfl ?_
      refine w_iconst (v := iI 0) dX1_clear_16 rfl ?_
      refine v_iast dX1_clear_17 (sA_b hb (by decide) rfl) (by omega) (by omega) (by decide) ?_
      refine w_aload_n dX1_clear_18 rfl ?_
      refine v_getR (j := bI b 11) dX1_clear_19 fX1_15 (sO_b hb (by decide) rfl) rfl (r0_b hb (by decide)) ?_
      refine w_iload_n dX1_clear_22 rfl ?_
      refine w_iconst (v := iI 0) dX1_clear_23 rfl ?_
      refine v_zast dX1_clear_24 (sA_b hb (by decide) rfl) (by omega) (by omega) (by decide) (by decide) ?_
      refine v_iinc dX1_clear_25 rfl rfl rfl ?_
      refine w_goto 2 dX1_clear_28 (by decide) ?_
      refine ih (k + 1) _ (by omega) (by omega) (fun id j => ?_)
      rw [rd_wr (by omega) (by omega), rd_wr (by omega) (by omega), hI id j]
      simp only [Int.toNat_natCast]
      have hne : (bI b 10) ≠ (bI b 11) := by unfold bI; omega
      by_cases h1 : id = (bI b 10)
      · subst h1
        by_cases h3 : j = k
        · simp [h3, hne]
        · by_cases h4 : j < k
          · simp [h3, h4, hne, Nat.lt_succ_of_lt h4]
          · simp [h3, h4, hne, show ¬ j < k + 1 by omega]
      · by_cases h2 : id = (bI b 11)
        · subst h2
          by_cases h3 : j = k
          · simp [h3]
          · by_cases h4 : j < k
            · simp [h3, h4, Nat.lt_succ_of_lt h4]
            · simp [h3, h4, show ¬ j < k + 1 by omega]
        · simp [h1, h2]
theorem x1_clear_d {I : Nat → Nat → Int32} {J : Nat → Nat → Int64} {F : Option Value → zM → Prop} {b : Nat} (hb : b < 10) (h : ∀ I', (∀ id k, rd I' id k = if (id = (bI b 10) ∨ id = (bI b 11)) ∧ k < 10 then 0 else rd I id k) → F none (gM I' J)) : Cl yX1_clear kX1_clear [.ref (bI b 9)] (gM I J) F := by
  refine cl_s (by decide) (by decide) (Nat.le_of_ble_eq_true rfl) rt_v ?_
  show Wp _ F 0 [(0, .ref (bI b 9))] [] _
  refine w_iconst (v := iI 0) dX1_clear_0 rfl ?_
  refine w_istore_n dX1_clear_1 rfl rfl ?_
  exact x1_clear_d_l hb h 11 0 I (by omega) (by omega) (fun id j => by simp)
theorem x1_worthBeside_d_l {I : Nat → Nat → Int32} {J : Nat → Nat → Int64} {F : Option Value → zM → Prop} {b : Nat} (hb : b < 10) {g : Nat} (hg : g < 10) {sh : Int} (hsh : -1000 ≤ sh ∧ sh ≤ 1000) (hq : (∃ j : Nat, j < 10 ∧ (tF I (bI b 10) (bI b 11) 10 (j : Int) ≠ 0 ∧ tF I (bI g 10) (bI g 11) 10 ((j : Int) - sh) ≠ 0 ∧ tF I (bI b 10) (bI b 11) 10 (j : Int) ≠ tF I (bI g 10) (bI g 11) 10 ((j : Int) - sh))) → F (some (.int (iI (-1)))) (gM I J)) (hs : (∀ j : Nat, j < 10 → ¬ (tF I (bI b 10) (bI b 11) 10 (j : Int) ≠ 0 ∧ tF I (bI g 10) (bI g 11) 10 ((j : Int) - sh) ≠ 0 ∧ tF I (bI b 10) (bI b 11) 10 (j : Int) ≠ tF I (bI g 10) (bI g 11) 10 ((j : Int) - sh))) → F (some (.int (iI (wbC (fun j : Nat => tF I (bI b 10) (bI b 11) 10 (j : Int)) (fun j : Nat => tF I (bI g 10) (bI g 11) 10 ((j : Int) - sh)) 10)))) (gM I J)) : ∀ (n k : Nat) (acc : Int), 10 - k < n → k ≤ 10 → acc = wbC (fun j : Nat => tF I (bI b 10) (bI b 11) 10 (j : Int)) (fun j : Nat => tF I (bI g 10) (bI g 11) 10 ((j : Int) - sh)) k → (∀ j : Nat, j < k → ¬ (tF I (bI b 10) (bI b 11) 10 (j : Int) ≠ 0 ∧ tF I (bI g 10) (bI g 11) 10 ((j : Int) - sh) ≠ 0 ∧ tF I (bI b 10) (bI b 11) 10 (j : Int) ≠ tF I (bI g 10) (bI g 11) 10 ((j : Int) - sh))) → Wp (sE kX1_worthBeside RX1) F 5 [(0, .ref (bI b 9)), (1, .ref (bI g 9)), (2, .int (iI sh)), (3, .int (iI acc)), (4, .int (iI (k : Int)))] [] (gM I J) := by
  intro n
  induction n with
  | zero => intro k acc hn hk ha hno; omega
  | succ n ih =>
    intro k acc hn hk ha hno
    refine w_iload dX1_worthBeside_5 rfl ?_
    refine w_aload_n dX1_worthBeside_7 rfl ?_
    refine v_getR (j := bI b 10) dX1_worthBeside_8 fX1_9 (sO_b hb (by decide) rfl) rfl (r0_b hb (by decide)) ?_
    refine v_alen0 dX1_worthBeside_11 (sA_b hb (by decide) rfl) ?_
    refine v_icmp_ge 61 dX1_worthBeside_12 (by decide) (by omega) (by omega) (fun c12 => ?_) (fun c12 => ?_)
    · refine w_iload_n dX1_worthBeside_61 rfl ?_
      refine v_iret dX1_worthBeside_62 rfl ⟨rfl, rfl⟩ ?_
      have hk2 : k = 10 := by omega
      subst hk2
      rw [ha]
      exact hs hno
    · refine w_aload_n dX1_worthBeside_15 rfl ?_
      refine w_iload dX1_worthBeside_16 rfl ?_
      refine v_callV1 dX1_worthBeside_18 lX1_19 vX1_told (by decide) rfl rfl (sO_b hb (by decide) rfl) (by decide) rfl (by decide) ?_
      refine x1_told_d hb (by omega) (fun z18 e18 b18 => ?_)
      refine w_istore dX1_worthBeside_21 rfl rfl ?_
      refine w_aload_n dX1_worthBeside_23 rfl ?_
      refine w_iload dX1_worthBeside_24 rfl ?_
      refine w_iload_n dX1_worthBeside_26 rfl ?_
      refine v_isub dX1_worthBeside_27 ?_
      refine v_callV1 dX1_worthBeside_28 lX1_19 vX1_told (by decide) rfl rfl (sO_b hg (by decide) rfl) (by decide) rfl (by decide) ?_
      refine x1_told_d hg (by omega) (fun z28 e28 b28 => ?_)
      refine w_istore dX1_worthBeside_31 rfl rfl ?_
      refine w_iload dX1_worthBeside_33 rfl ?_
      refine v_if_eq 55 dX1_worthBeside_35 (by decide) (by omega) (fun c35 => ?_) (fun c35 => ?_)
      · refine v_iinc dX1_worthBeside_55 rfl rfl rfl ?_
        refine w_goto 5 dX1_worthBeside_58 (by decide) ?_
        refine w_keep 5 ?_
        refine ih (k + 1) _ (by omega) (by omega) ?_ ?_
        · rw [wbC, ← ha]
          simp only [← e18, ← e28]
          split <;> omega
        · intro j hj
          rcases Nat.lt_succ_iff_lt_or_eq.mp hj with q | q
          · exact hno j q
          · subst q
            rw [← e18, ← e28]
            omega
      · refine w_iload dX1_worthBeside_38 rfl ?_
        refine v_if_eq 55 dX1_worthBeside_40 (by decide) (by omega) (fun c40 => ?_) (fun c40 => ?_)
        · refine v_iinc dX1_worthBeside_55 rfl rfl rfl ?_
          refine w_goto 5 dX1_worthBeside_58 (by decide) ?_
          refine w_keep 5 ?_
          refine ih (k + 1) _ (by omega) (by omega) ?_ ?_
          · rw [wbC, ← ha]
            simp only [← e18, ← e28]
            split <;> omega
          · intro j hj
            rcases Nat.lt_succ_iff_lt_or_eq.mp hj with q | q
            · exact hno j q
            · subst q
              rw [← e18, ← e28]
              omega
        · refine w_iload dX1_worthBeside_43 rfl ?_
          refine w_iload dX1_worthBeside_45 rfl ?_
          refine v_icmp_eq 52 dX1_worthBeside_47 (by decide) (by omega) (by omega) (fun c47 => ?_) (fun c47 => ?_)
          · refine v_iinc dX1_worthBeside_52 rfl rfl rfl ?_
            refine v_iinc dX1_worthBeside_55 rfl rfl rfl ?_
            refine w_goto 5 dX1_worthBeside_58 (by decide) ?_
            refine w_keep 5 ?_
            refine ih (k + 1) _ (by omega) (by omega) ?_ ?_
            · rw [wbC, ← ha]
              simp only [← e18, ← e28]
              split <;> omega
            · intro j hj
              rcases Nat.lt_succ_iff_lt_or_eq.mp hj with q | q
              · exact hno j q
              · subst q
                rw [← e18, ← e28]
                omega
          · refine w_iconst (v := iI (-1)) dX1_worthBeside_50 rfl ?_
            refine v_iret dX1_worthBeside_51 rfl ⟨rfl, rfl⟩ ?_
            exact hq ⟨k, by omega, by rw [← e18, ← e28]; omega⟩
theorem x1_worthBeside_d {I : Nat → Nat → Int32} {J : Nat → Nat → Int64} {F : Option Value → zM → Prop} {b : Nat} (hb : b < 10) {g : Nat} (hg : g < 10) {sh : Int} (hsh : -1000 ≤ sh ∧ sh ≤ 1000) (hq : (∃ j : Nat, j < 10 ∧ (tF I (bI b 10) (bI b 11) 10 (j : Int) ≠ 0 ∧ tF I (bI g 10) (bI g 11) 10 ((j : Int) - sh) ≠ 0 ∧ tF I (bI b 10) (bI b 11) 10 (j : Int) ≠ tF I (bI g 10) (bI g 11) 10 ((j : Int) - sh))) → F (some (.int (iI (-1)))) (gM I J)) (hs : (∀ j : Nat, j < 10 → ¬ (tF I (bI b 10) (bI b 11) 10 (j : Int) ≠ 0 ∧ tF I (bI g 10) (bI g 11) 10 ((j : Int) - sh) ≠ 0 ∧ tF I (bI b 10) (bI b 11) 10 (j : Int) ≠ tF I (bI g 10) (bI g 11) 10 ((j : Int) - sh))) → F (some (.int (iI (wbC (fun j : Nat => tF I (bI b 10) (bI b 11) 10 (j : Int)) (fun j : Nat => tF I (bI g 10) (bI g 11) 10 ((j : Int) - sh)) 10)))) (gM I J)) : Cl yX1_worthBeside kX1_worthBeside [.ref (bI b 9), .ref (bI g 9), .int (iI sh)] (gM I J) F := by
  refine cl_s (by decide) (by decide) (Nat.le_of_ble_eq_true rfl) rt_i ?_
  show Wp _ F 0 [(0, .ref (bI b 9)), (1, .ref (bI g 9)), (2, .int (iI sh))] [] _
  refine w_iconst (v := iI 0) dX1_worthBeside_0 rfl ?_
  refine w_istore_n dX1_worthBeside_1 rfl rfl ?_
  refine w_iconst (v := iI 0) dX1_worthBeside_2 rfl ?_
  refine w_istore dX1_worthBeside_3 rfl rfl ?_
  exact x1_worthBeside_d_l hb hg hsh hq hs 11 0 0 (by omega) (by omega) rfl (fun j hj => by omega)
