/-! stands, letter, width, known: the class -/
theorem sh_bd {ce : Nat → Int} {w sh : Int} (hw : 2 ≤ w ∧ w ≤ 60) (h : ((∃ r c : Nat, r < 5 ∧ c < 10 ∧ isTx (ce (10 * r + c)) ∧ sh = r * w + c) ∨ (¬ ink ce ∧ sh = 0))) : 0 ≤ sh ∧ sh ≤ 249 := by
  rcases h with ⟨r, c, h1, h2, -, h4⟩ | ⟨-, h⟩
  · have := rw_bd h1 hw
    omega
  · omega
theorem sh_N {ce tx : Nat → Int} {len : Nat} {w sh : Int} (hw : 2 ≤ w ∧ w ≤ 60) (h : ((∃ r c : Nat, r < 5 ∧ c < 10 ∧ isTx (ce (10 * r + c)) ∧ sh = r * w + c) ∨ (¬ ink ce ∧ sh = 0))) : stN ce tx len w (cn (fun a : Nat => decide (ink ce ∧ Sat ce tx len w ((a : Int) - sh))) len) ∧ ∀ t, stK ce tx len w t (kf (fun a : Nat => decide (ink ce ∧ Sat ce tx len w ((a : Int) - sh))) (fun a => (a : Int) - sh) t (-1000) len) := by
  by_cases g : ink ce
  · rcases h with ⟨r, c, h1, h2, h3, h4⟩ | ⟨h, -⟩
    · subst h4
      have e := st_shift (tx := tx) (len := len) hw h1 h2 h3
      have e2 : (fun a : Nat => decide (ink ce ∧ Sat ce tx len w ((a : Int) - (r * w + c)))) = fun a : Nat => decide (Sat ce tx len w ((a : Int) - (r * w + c))) := by
        funext a
        simp [g]
      rw [e2]
      exact ⟨⟨fun _ => e.1.symm, fun q => absurd g q⟩, fun t => ⟨fun _ => (e.2 t).symm, fun q => absurd g q⟩⟩
    · exact absurd g h
  · have e : ∀ a : Nat, decide (ink ce ∧ Sat ce tx len w ((a : Int) - sh)) = false := fun a => decide_eq_false (fun q => g q.1)
    have e1 : cn (fun a : Nat => decide (ink ce ∧ Sat ce tx len w ((a : Int) - sh))) len = 0 := by
      have := cn_end (q := fun a : Nat => decide (ink ce ∧ Sat ce tx len w ((a : Int) - sh))) (a := 0) (d := len) (fun j _ _ => e j)
      rw [Nat.zero_add] at this
      exact this
    exact ⟨⟨fun q => absurd q g, fun _ => e1⟩, fun t => ⟨fun q => absurd q g, fun _ => kf_none fun j hj q => by rw [e j] at q; cases q⟩⟩
theorem x2_firstShift2 {I : Nat → Nat → Int32} {b : Nat} (hb : b < 10) {ce : Nat → Int} {n : Nat} (hC : RBc I b ce n) (hT : RBt I b ce n) {w : Int} (hw : 2 ≤ w ∧ w ≤ 60) : ∃ sh : Int, ((∃ r c : Nat, r < 5 ∧ c < 10 ∧ isTx (ce (10 * r + c)) ∧ sh = r * w + c) ∨ (¬ ink ce ∧ sh = 0)) ∧ ∀ {J : Nat → Nat → Int64} {F : Option Value → zM → Prop}, F (some (.int (iI sh))) (gM I J) → Cl yX2_firstShift kX2_firstShift [.ref 169, .ref (bI b 0), .int (iI w)] (gM I J) F := by
  by_cases gi : ink ce
  · obtain ⟨f, g1, g2, g3, g4⟩ := hT.2.1 gi
    obtain ⟨r, c, k1, k2, k3, k4, k5, k6⟩ := cp_rc hC g1
    refine ⟨r * w + c, Or.inl ⟨r, c, k1, k2, by rw [← k5]; exact g3, rfl⟩, fun {J F} h => ?_⟩
    refine cl_s (by decide) (by decide) (Nat.le_of_ble_eq_true rfl) rt_i ?_
    show Wp _ F 0 [(0, .ref 169), (1, .ref (bI b 0)), (2, .int (iI w))] [] _
    refine w_aload_n dX2_firstShift_0 rfl ?_
    refine v_getI dX2_firstShift_1 fX2_39 (sO_b hb (by decide) rfl) (Or.inl rfl) (fun z1 e1 b1 => ?_)
    have hn50 := hC.2.1
    have f1 : z1 = f := by rw [e1, g2]
    refine w_istore_n dX2_firstShift_4 rfl rfl ?_
    refine w_iload_n dX2_firstShift_5 rfl ?_
    refine w_iconst (v := iI (-1)) dX2_firstShift_6 rfl ?_
    refine v_icmp_ne 14 dX2_firstShift_7 (by decide) (by omega) (by omega) (fun c7 => ?_) (fun c7 => absurd c7 (by omega))
    refine w_aload_n dX2_firstShift_14 rfl ?_
    refine v_getR (j := bI b 2) dX2_firstShift_15 fX2_44 (sO_b hb (by decide) rfl) rfl (r0_b hb (by decide)) ?_
    refine w_iload_n dX2_firstShift_18 rfl ?_
    refine v_iald dX2_firstShift_19 (sA_b hb (by decide) rfl) (by omega) (by omega) (by decide) (fun z19 e19 b19 => ?_)
    have f19 : z19 = r := by rw [e19, show z1.toNat = f by omega]; exact k3
    refine w_iload_n dX2_firstShift_20 rfl ?_
    refine v_imul dX2_firstShift_21 ?_
    refine w_aload_n dX2_firstShift_22 rfl ?_
    refine v_getR (j := bI b 3) dX2_firstShift_23 fX2_47 (sO_b hb (by decide) rfl) rfl (r0_b hb (by decide)) ?_
    refine w_iload_n dX2_firstShift_26 rfl ?_
    refine v_iald dX2_firstShift_27 (sA_b hb (by decide) rfl) (by omega) (by omega) (by decide) (fun z27 e27 b27 => ?_)
    have f27 : z27 = c := by rw [e27, show z1.toNat = f by omega]; exact k4
    refine v_iadd dX2_firstShift_28 ?_
    refine v_iret dX2_firstShift_29 rfl ⟨rfl, rfl⟩ ?_
    rw [f19, f27]
    exact h
  · have g1 := hT.1 gi
    refine ⟨0, Or.inr ⟨gi, rfl⟩, fun {J F} h => ?_⟩
    exact x2_firstShift hb hC hT hw (fun r c k1 k2 k3 => absurd ⟨10 * r + c, by omega, k3⟩ gi) (fun _ => h)
theorem x2_countTimes_l {I : Nat → Nat → Int32} {J : Nat → Nat → Int64} {F : Option Value → zM → Prop} {b : Nat} (hb : b < 10) {ce : Nat → Int} {n : Nat} (hS : ∀ k, k < 50 → rd I (bI b 1) k = ce k) (hC : RBc I b ce n) (hT : RBt I b ce n) {len : Nat} (hl : rd I 169 1 = len) (hl2 : len ≤ 200) {w : Int} (hw : 2 ≤ w ∧ w ≤ 60) {sh : Int} (hsh : ((∃ r c : Nat, r < 5 ∧ c < 10 ∧ isTx (ce (10 * r + c)) ∧ sh = r * w + c) ∨ (¬ ink ce ∧ sh = 0))) (hfs : ∀ {J : Nat → Nat → Int64} {F : Option Value → zM → Prop}, F (some (.int (iI sh))) (gM I J) → Cl yX2_firstShift kX2_firstShift [.ref 169, .ref (bI b 0), .int (iI w)] (gM I J) F) (hy : F (some (.int (iI (cn (fun a : Nat => decide (ink ce ∧ Sat ce (fun k => rd I 170 k) len w ((a : Int) - sh))) len)))) (gM I J)) : ∀ (nz : Nat) (k : Nat) (a : Int), len - k < nz → k ≤ len → a = cn (fun a : Nat => decide (ink ce ∧ Sat ce (fun k => rd I 170 k) len w ((a : Int) - sh))) k → Wp (sE kX2_countTimes RX2) F 5 [(0, .ref 169), (1, .ref (bI b 0)), (2, .int (iI w)), (3, .int (iI a)), (4, .int (iI (k : Int)))] [] (gM I J) := by
  intro nz
  induction nz with
  | zero =>
    intro k a hmz hk ha
    exact absurd hmz (Nat.not_lt_zero _)
  | succ nz ih =>
    intro k a hmz hk ha
    refine w_iload dX2_countTimes_5 rfl ?_
    refine w_aload_n dX2_countTimes_7 rfl ?_
    refine v_getI dX2_countTimes_8 fX2_30 ⟨by decide, rfl⟩ (Or.inl rfl) (fun z8 e8 b8 => ?_)
    have f8 : z8 = len := by rw [e8]; exact hl
    have hb9 := sh_bd hw hsh
    refine v_icmp_ge 41 dX2_countTimes_11 (by decide) (by omega) (by omega) (fun c11 => ?_) (fun c11 => ?_)
    · refine w_iload_n dX2_countTimes_41 rfl ?_
      refine v_iret dX2_countTimes_42 rfl ⟨rfl, rfl⟩ ?_
      have g : k = len := by omega
      subst g
      rw [ha]
      exact hy
    · refine w_aload_n dX2_countTimes_14 rfl ?_
      refine w_aload_n dX2_countTimes_15 rfl ?_
      refine w_iload_n dX2_countTimes_16 rfl ?_
      refine w_iload dX2_countTimes_17 rfl ?_
      refine w_aload_n dX2_countTimes_19 rfl ?_
      refine w_aload_n dX2_countTimes_20 rfl ?_
      refine w_iload_n dX2_countTimes_21 rfl ?_
      refine v_callV2 dX2_countTimes_22 lX2_31 vX2_firstShift (by decide) rfl rfl ⟨by decide, rfl⟩ (by decide) rfl (Nat.le_of_ble_eq_true rfl) ?_
      refine hfs ?_
      refine v_isub dX2_countTimes_25 ?_
      refine v_callV3 dX2_countTimes_26 lX2_35 vX2_standsAt (by decide) rfl rfl ⟨by decide, rfl⟩ (by decide) rfl (Nat.le_of_ble_eq_true rfl) ?_
      refine x2_standsAt hb hS hC hT hl hl2 hw (by omega) (fun q26 => ?_) (fun q26 => ?_)
      · refine v_if_eq 35 dX2_countTimes_29 (by decide) (by decide) (fun q => absurd q (by decide)) (fun _ => ?_)
        refine v_iinc dX2_countTimes_32 rfl rfl rfl ?_
        refine v_iinc dX2_countTimes_35 rfl rfl rfl ?_
        refine w_goto 5 dX2_countTimes_38 (by decide) ?_
        refine ih (k + 1) _ (by omega) (by omega) ?_
        rw [cn, ← ha]
        first
          | (have gq : (fun a : Nat => decide (ink ce ∧ Sat ce (fun k => rd I 170 k) len w ((a : Int) - sh))) k = true := decide_eq_true q26
             rw [if_pos gq]; done)
          | (have gq : ¬ (fun a : Nat => decide (ink ce ∧ Sat ce (fun k => rd I 170 k) len w ((a : Int) - sh))) k = true := fun g => q26 (of_decide_eq_true g)
             rw [if_neg gq]; omega)
      · refine v_if_eq 35 dX2_countTimes_29 (by decide) (by decide) (fun _ => ?_) (fun q => absurd q (by decide))
        refine v_iinc dX2_countTimes_35 rfl rfl rfl ?_
        refine w_goto 5 dX2_countTimes_38 (by decide) ?_
        refine ih (k + 1) _ (by omega) (by omega) ?_
        rw [cn, ← ha]
        first
          | (have gq : (fun a : Nat => decide (ink ce ∧ Sat ce (fun k => rd I 170 k) len w ((a : Int) - sh))) k = true := decide_eq_true q26
             rw [if_pos gq]; done)
          | (have gq : ¬ (fun a : Nat => decide (ink ce ∧ Sat ce (fun k => rd I 170 k) len w ((a : Int) - sh))) k = true := fun g => q26 (of_decide_eq_true g)
             rw [if_neg gq]; omega)
theorem x2_countTimes {I : Nat → Nat → Int32} {J : Nat → Nat → Int64} {F : Option Value → zM → Prop} {b : Nat} (hb : b < 10) {ce : Nat → Int} {n : Nat} (hS : ∀ k, k < 50 → rd I (bI b 1) k = ce k) (hC : RBc I b ce n) (hT : RBt I b ce n) {len : Nat} (hl : rd I 169 1 = len) (hl2 : len ≤ 200) {w : Int} (hw : 2 ≤ w ∧ w ≤ 60) (hy : ∀ x : Int, stN ce (fun k => rd I 170 k) len w x → F (some (.int (iI x))) (gM I J)) : Cl yX2_countTimes kX2_countTimes [.ref 169, .ref (bI b 0), .int (iI w)] (gM I J) F := by
  refine cl_s (by decide) (by decide) (Nat.le_of_ble_eq_true rfl) rt_i ?_
  show Wp _ F 0 [(0, .ref 169), (1, .ref (bI b 0)), (2, .int (iI w))] [] _
  refine w_iconst (v := iI 0) dX2_countTimes_0 rfl ?_
  refine w_istore_n dX2_countTimes_1 rfl rfl ?_
  refine w_iconst (v := iI 0) dX2_countTimes_2 rfl ?_
  refine w_istore dX2_countTimes_3 rfl rfl ?_
  obtain ⟨sh, hsh, hfs⟩ := x2_firstShift2 hb hC hT hw
  exact x2_countTimes_l hb hS hC hT hl hl2 hw hsh hfs (hy _ (sh_N hw hsh).1) (len + 1) 0 0 (by omega) (by omega) rfl
theorem x2_timeOf_l {I : Nat → Nat → Int32} {J : Nat → Nat → Int64} {F : Option Value → zM → Prop} {b : Nat} (hb : b < 10) {ce : Nat → Int} {n : Nat} (hS : ∀ k, k < 50 → rd I (bI b 1) k = ce k) (hC : RBc I b ce n) (hT : RBt I b ce n) {len : Nat} (hl : rd I 169 1 = len) (hl2 : len ≤ 200) {w : Int} (hw : 2 ≤ w ∧ w ≤ 60) {t : Int} (bt : -2147483648 ≤ t ∧ t < 2147483648) {sh : Int} (hsh : ((∃ r c : Nat, r < 5 ∧ c < 10 ∧ isTx (ce (10 * r + c)) ∧ sh = r * w + c) ∨ (¬ ink ce ∧ sh = 0))) (hfs : ∀ {J : Nat → Nat → Int64} {F : Option Value → zM → Prop}, F (some (.int (iI sh))) (gM I J) → Cl yX2_firstShift kX2_firstShift [.ref 169, .ref (bI b 0), .int (iI w)] (gM I J) F) (hy : F (some (.int (iI (kf (fun a : Nat => decide (ink ce ∧ Sat ce (fun k => rd I 170 k) len w ((a : Int) - sh))) (fun a : Nat => (a : Int) - sh) t (-1000) len)))) (gM I J)) : ∀ (nz : Nat) (k : Nat) (a : Int), len - k < nz → k ≤ len → a = cn (fun a : Nat => decide (ink ce ∧ Sat ce (fun k => rd I 170 k) len w ((a : Int) - sh))) k → (∀ j, j < k → (fun a : Nat => decide (ink ce ∧ Sat ce (fun k => rd I 170 k) len w ((a : Int) - sh))) j = true → cn (fun a : Nat => decide (ink ce ∧ Sat ce (fun k => rd I 170 k) len w ((a : Int) - sh))) j ≠ t) → Wp (sE kX2_timeOf RX2) F 6 [(0, .ref 169), (1, .ref (bI b 0)), (2, .int (iI w)), (3, .int (iI t)), (4, .int (iI a)), (5, .int (iI (k : Int)))] [] (gM I J) := by
  intro nz
  induction nz with
  | zero =>
    intro k a hmz hk ha hno
    exact absurd hmz (Nat.not_lt_zero _)
  | succ nz ih =>
    intro k a hmz hk ha hno
    refine w_iload dX2_timeOf_6 rfl ?_
    refine w_aload_n dX2_timeOf_8 rfl ?_
    refine v_getI dX2_timeOf_9 fX2_30 ⟨by decide, rfl⟩ (Or.inl rfl) (fun z9 e9 b9 => ?_)
    have f9 : z9 = len := by rw [e9]; exact hl
    have hb9 := sh_bd hw hsh
    have bc := cn_bd (fun a : Nat => decide (ink ce ∧ Sat ce (fun k => rd I 170 k) len w ((a : Int) - sh))) k
    refine v_icmp_ge 55 dX2_timeOf_12 (by decide) (by omega) (by omega) (fun c12 => ?_) (fun c12 => ?_)
    · refine w_sipush (v := iI (-1000)) dX2_timeOf_55 (by decide) ?_
      refine v_iret dX2_timeOf_58 rfl ⟨rfl, rfl⟩ ?_
      have g : k = len := by omega
      subst g
      rw [kf_none hno] at hy
      exact hy
    · refine w_iload dX2_timeOf_15 rfl ?_
      refine w_aload_n dX2_timeOf_17 rfl ?_
      refine w_aload_n dX2_timeOf_18 rfl ?_
      refine w_iload_n dX2_timeOf_19 rfl ?_
      refine v_callV2 dX2_timeOf_20 lX2_31 vX2_firstShift (by decide) rfl rfl ⟨by decide, rfl⟩ (by decide) rfl (Nat.le_of_ble_eq_true rfl) ?_
      refine hfs ?_
      refine v_isub dX2_timeOf_23 ?_
      refine w_istore dX2_timeOf_24 rfl rfl ?_
      refine w_aload_n dX2_timeOf_26 rfl ?_
      refine w_aload_n dX2_timeOf_27 rfl ?_
      refine w_iload_n dX2_timeOf_28 rfl ?_
      refine w_iload dX2_timeOf_29 rfl ?_
      refine v_callV3 dX2_timeOf_31 lX2_35 vX2_standsAt (by decide) rfl rfl ⟨by decide, rfl⟩ (by decide) rfl (Nat.le_of_ble_eq_true rfl) ?_
      refine x2_standsAt hb hS hC hT hl hl2 hw (by omega) (fun q31 => ?_) (fun q31 => ?_)
      · refine v_if_eq 49 dX2_timeOf_34 (by decide) (by decide) (fun q => absurd q (by decide)) (fun _ => ?_)
        refine w_iload dX2_timeOf_37 rfl ?_
        refine w_iload_n dX2_timeOf_39 rfl ?_
        refine v_icmp_ne 46 dX2_timeOf_40 (by decide) (by omega) (by omega) (fun c40 => ?_) (fun c40 => ?_)
        · refine v_iinc dX2_timeOf_46 rfl rfl rfl ?_
          refine v_iinc dX2_timeOf_49 rfl rfl rfl ?_
          refine w_goto 6 dX2_timeOf_52 (by decide) ?_
          refine w_keep 6 ?_
          refine ih (k + 1) _ (by omega) (by omega) ?_ (fun j hj gj => ?_)
          · rw [cn, ← ha]
            first
              | (have gq : (fun a : Nat => decide (ink ce ∧ Sat ce (fun k => rd I 170 k) len w ((a : Int) - sh))) k = true := decide_eq_true q31
                 rw [if_pos gq]; done)
              | (have gq : ¬ (fun a : Nat => decide (ink ce ∧ Sat ce (fun k => rd I 170 k) len w ((a : Int) - sh))) k = true := fun g => q31 (of_decide_eq_true g)
                 rw [if_neg gq]; omega)
          · rcases Nat.lt_succ_iff_lt_or_eq.mp hj with g | g
            · exact hno j g gj
            · subst g
              first | exact absurd (of_decide_eq_true gj) q31 | (rw [← ha]; omega)
        · refine w_iload dX2_timeOf_43 rfl ?_
          refine v_iret dX2_timeOf_45 rfl ⟨rfl, rfl⟩ ?_
          rw [kf_at (h := k) (show (fun a : Nat => decide (ink ce ∧ Sat ce (fun k => rd I 170 k) len w ((a : Int) - sh))) k = true from decide_eq_true q31) (by rw [← ha]; omega) (by omega)] at hy
          exact hy
      · refine v_if_eq 49 dX2_timeOf_34 (by decide) (by decide) (fun _ => ?_) (fun q => absurd q (by decide))
        refine v_iinc dX2_timeOf_49 rfl rfl rfl ?_
        refine w_goto 6 dX2_timeOf_52 (by decide) ?_
        refine w_keep 6 ?_
        refine ih (k + 1) _ (by omega) (by omega) ?_ (fun j hj gj => ?_)
        · rw [cn, ← ha]
          first
            | (have gq : (fun a : Nat => decide (ink ce ∧ Sat ce (fun k => rd I 170 k) len w ((a : Int) - sh))) k = true := decide_eq_true q31
               rw [if_pos gq]; done)
            | (have gq : ¬ (fun a : Nat => decide (ink ce ∧ Sat ce (fun k => rd I 170 k) len w ((a : Int) - sh))) k = true := fun g => q31 (of_decide_eq_true g)
               rw [if_neg gq]; omega)
        · rcases Nat.lt_succ_iff_lt_or_eq.mp hj with g | g
          · exact hno j g gj
          · subst g
            first | exact absurd (of_decide_eq_true gj) q31 | (rw [← ha]; omega)
theorem x2_timeOf {I : Nat → Nat → Int32} {J : Nat → Nat → Int64} {F : Option Value → zM → Prop} {b : Nat} (hb : b < 10) {ce : Nat → Int} {n : Nat} (hS : ∀ k, k < 50 → rd I (bI b 1) k = ce k) (hC : RBc I b ce n) (hT : RBt I b ce n) {len : Nat} (hl : rd I 169 1 = len) (hl2 : len ≤ 200) {w : Int} (hw : 2 ≤ w ∧ w ≤ 60) {t : Int} (bt : -2147483648 ≤ t ∧ t < 2147483648) (hy : ∀ x : Int, stK ce (fun k => rd I 170 k) len w t x → F (some (.int (iI x))) (gM I J)) : Cl yX2_timeOf kX2_timeOf [.ref 169, .ref (bI b 0), .int (iI w), .int (iI t)] (gM I J) F := by
  refine cl_s (by decide) (by decide) (Nat.le_of_ble_eq_true rfl) rt_i ?_
  show Wp _ F 0 [(0, .ref 169), (1, .ref (bI b 0)), (2, .int (iI w)), (3, .int (iI t))] [] _
  refine w_iconst (v := iI 0) dX2_timeOf_0 rfl ?_
  refine w_istore dX2_timeOf_1 rfl rfl ?_
  refine w_iconst (v := iI 0) dX2_timeOf_3 rfl ?_
  refine w_istore dX2_timeOf_4 rfl rfl ?_
  obtain ⟨sh, hsh, hfs⟩ := x2_firstShift2 hb hC hT hw
  exact x2_timeOf_l hb hS hC hT hl hl2 hw bt hsh hfs (hy _ ((sh_N hw hsh).2 t)) (len + 1) 0 0 (by omega) (by omega) rfl (fun j hj => by omega)
theorem x11_stands {I : Nat → Nat → Int32} {J : Nat → Nat → Int64} {F : Option Value → zM → Prop} {b w : Int} (bb : -2147483648 ≤ b ∧ b < 2147483648) (bw : -2147483648 ≤ w ∧ w < 2147483648) {ce : Nat → Nat → Int} (hR : ∀ q : Nat, q < 10 → rd I (bI q 0) 4 ≠ 0 → RB I q (ce q)) {len : Nat} (hl : rd I 169 1 = len) (hl2 : len ≤ 200) (hn : (∀ q : Nat, b = q → q < 10 → rd I (bI q 0) 4 ≠ 0 → len = 0 ∨ ¬ (2 ≤ w ∧ w ≤ 60)) → F (some (.int (iI (-1)))) (gM I J)) (hy : ∀ q : Nat, b = q → q < 10 → rd I (bI q 0) 4 ≠ 0 → 0 < len → (2 ≤ w ∧ w ≤ 60) → ∀ x : Int, stN (ce q) (fun k => rd I 170 k) len w x → F (some (.int (iI x))) (gM I J)) : Cl yX11_stands kX11_stands [.ref 0, .int (iI b), .int (iI w)] (gM I J) F := by
  refine cl_s (by decide) (by decide) (Nat.le_of_ble_eq_true rfl) rt_i ?_
  show Wp _ F 0 [(0, .ref 0), (1, .int (iI b)), (2, .int (iI w))] [] _
  refine w_aload_n dX11_stands_0 rfl ?_
  refine w_iload_n dX11_stands_1 rfl ?_
  refine v_callV1 dX11_stands_2 lX11_83 vX11_bitOf (by decide) rfl rfl ⟨by decide, rfl⟩ (by decide) rfl (Nat.le_of_ble_eq_true rfl) ?_
  refine x11_bitOf (by omega) (fun q2 => ?_) (fun q hqe hq hqc => ?_)
  · refine w_astore_nN dX11_stands_5 rfl rfl ?_
    refine w_aload_nN dX11_stands_6 rfl ?_
    refine w_ifnull_n 27 dX11_stands_7 (by decide) ?_
    refine w_iconst (v := iI (-1)) dX11_stands_27 rfl ?_
    refine v_iret dX11_stands_28 rfl ⟨rfl, rfl⟩ ?_
    refine hn (fun q' g1 g2 g3 => ?_)
    first | exact absurd (q2 q' g1 g2) g3 | omega
  · refine w_astore_n dX11_stands_5 rfl rfl ?_
    refine w_aload_n dX11_stands_6 rfl ?_
    refine w_ifnull_r dX11_stands_7 ?_
    refine w_aload_n dX11_stands_10 rfl ?_
    refine v_getR (j := 169) dX11_stands_11 fX11_56 ⟨by decide, rfl⟩ rfl rfl ?_
    refine v_getI dX11_stands_14 fX11_202 ⟨by decide, rfl⟩ (Or.inl rfl) (fun z14 e14 b14 => ?_)
    refine v_if_eq 27 dX11_stands_17 (by decide) (by omega) (fun c17 => ?_) (fun c17 => ?_)
    · refine w_iconst (v := iI (-1)) dX11_stands_27 rfl ?_
      refine v_iret dX11_stands_28 rfl ⟨rfl, rfl⟩ ?_
      refine hn (fun q' g1 g2 g3 => ?_)
      first | exact absurd (q2 q' g1 g2) g3 | omega
    · refine w_iload_n dX11_stands_20 rfl ?_
      refine v_callS1 dX11_stands_21 lX11_203 vX11_isWidth (by decide) rfl rfl (Nat.le_of_ble_eq_true rfl) ?_
      refine x11_isWidth (by omega) (fun q21 => ?_) (fun q21 => ?_)
      · refine v_if_ne 29 dX11_stands_24 (by decide) (by decide) (fun _ => ?_) (fun q => absurd q (by decide))
        refine w_aload_n dX11_stands_29 rfl ?_
        refine v_getR (j := 169) dX11_stands_30 fX11_56 ⟨by decide, rfl⟩ rfl rfl ?_
        refine w_aload_n dX11_stands_33 rfl ?_
        refine w_iload_n dX11_stands_34 rfl ?_
        refine v_callV2 dX11_stands_35 lX11_206 vX2_countTimes (by decide) rfl rfl ⟨by decide, rfl⟩ (by decide) rfl (Nat.le_of_ble_eq_true rfl) ?_
        obtain ⟨r1, r2, n, r3, r4, r5⟩ := hR q hq hqc
        refine x2_countTimes hq r1 r3 r4 hl hl2 (by omega) (fun x hx => ?_)
        refine v_iret dX11_stands_38 rfl ⟨rfl, rfl⟩ ?_
        exact hy q hqe hq hqc (by omega) (by omega) x hx
      · refine v_if_ne 29 dX11_stands_24 (by decide) (by decide) (fun q => absurd q (by decide)) (fun _ => ?_)
        refine w_iconst (v := iI (-1)) dX11_stands_27 rfl ?_
        refine v_iret dX11_stands_28 rfl ⟨rfl, rfl⟩ ?_
        refine hn (fun q' g1 g2 g3 => ?_)
        first | exact absurd (q2 q' g1 g2) g3 | omega
theorem x11_letter {I : Nat → Nat → Int32} {J : Nat → Nat → Int64} {F : Option Value → zM → Prop} {b w t : Int} (bb : -2147483648 ≤ b ∧ b < 2147483648) (bw : -2147483648 ≤ w ∧ w < 2147483648) (bt : -2147483648 ≤ t ∧ t < 2147483648) {ce : Nat → Nat → Int} (hR : ∀ q : Nat, q < 10 → rd I (bI q 0) 4 ≠ 0 → RB I q (ce q)) {len : Nat} (hl : rd I 169 1 = len) (hl2 : len ≤ 200) (hn : (∀ q : Nat, b = q → q < 10 → rd I (bI q 0) 4 ≠ 0 → ¬ (2 ≤ w ∧ w ≤ 60) ∨ t < 0) → F (some (.int (iI (-1000)))) (gM I J)) (hy : ∀ q : Nat, b = q → q < 10 → rd I (bI q 0) 4 ≠ 0 → (2 ≤ w ∧ w ≤ 60) → 0 ≤ t → ∀ x : Int, stK (ce q) (fun k => rd I 170 k) len w t x → F (some (.int (iI x))) (gM I J)) : Cl yX11_letter kX11_letter [.ref 0, .int (iI b), .int (iI w), .int (iI t)] (gM I J) F := by
  refine cl_s (by decide) (by decide) (Nat.le_of_ble_eq_true rfl) rt_i ?_
  show Wp _ F 0 [(0, .ref 0), (1, .int (iI b)), (2, .int (iI w)), (3, .int (iI t))] [] _
  refine w_aload_n dX11_letter_0 rfl ?_
  refine w_iload_n dX11_letter_1 rfl ?_
  refine v_callV1 dX11_letter_2 lX11_83 vX11_bitOf (by decide) rfl rfl ⟨by decide, rfl⟩ (by decide) rfl (Nat.le_of_ble_eq_true rfl) ?_
  refine x11_bitOf (by omega) (fun q2 => ?_) (fun q hqe hq hqc => ?_)
  · refine w_astoreN dX11_letter_5 rfl rfl ?_
    refine w_aloadN dX11_letter_7 rfl ?_
    refine w_ifnull_n 23 dX11_letter_9 (by decide) ?_
    refine w_sipush (v := iI (-1000)) dX11_letter_23 (by decide) ?_
    refine v_iret dX11_letter_26 rfl ⟨rfl, rfl⟩ ?_
    refine hn (fun q' g1 g2 g3 => ?_)
    first | exact absurd (q2 q' g1 g2) g3 | omega
  · refine w_astore dX11_letter_5 rfl rfl ?_
    refine w_aload dX11_letter_7 rfl ?_
    refine w_ifnull_r dX11_letter_9 ?_
    refine w_iload_n dX11_letter_12 rfl ?_
    refine v_callS1 dX11_letter_13 lX11_203 vX11_isWidth (by decide) rfl rfl (Nat.le_of_ble_eq_true rfl) ?_
    refine x11_isWidth (by omega) (fun q13 => ?_) (fun q13 => ?_)
    · refine v_if_eq 23 dX11_letter_16 (by decide) (by decide) (fun q => absurd q (by decide)) (fun _ => ?_)
      refine w_iload_n dX11_letter_19 rfl ?_
      refine v_if_ge 27 dX11_letter_20 (by decide) (by omega) (fun c20 => ?_) (fun c20 => ?_)
      · refine w_aload_n dX11_letter_27 rfl ?_
        refine v_getR (j := 169) dX11_letter_28 fX11_56 ⟨by decide, rfl⟩ rfl rfl ?_
        refine w_aload dX11_letter_31 rfl ?_
        refine w_iload_n dX11_letter_33 rfl ?_
        refine w_iload_n dX11_letter_34 rfl ?_
        refine v_callV3 dX11_letter_35 lX11_209 vX2_timeOf (by decide) rfl rfl ⟨by decide, rfl⟩ (by decide) rfl (Nat.le_of_ble_eq_true rfl) ?_
        obtain ⟨r1, r2, n, r3, r4, r5⟩ := hR q hq hqc
        refine x2_timeOf hq r1 r3 r4 hl hl2 (by omega) (by omega) (fun x hx => ?_)
        refine v_iret dX11_letter_38 rfl ⟨rfl, rfl⟩ ?_
        exact hy q hqe hq hqc (by omega) (by omega) x hx
      · refine w_sipush (v := iI (-1000)) dX11_letter_23 (by decide) ?_
        refine v_iret dX11_letter_26 rfl ⟨rfl, rfl⟩ ?_
        refine hn (fun q' g1 g2 g3 => ?_)
        first | exact absurd (q2 q' g1 g2) g3 | omega
    · refine v_if_eq 23 dX11_letter_16 (by decide) (by decide) (fun _ => ?_) (fun q => absurd q (by decide))
      refine w_sipush (v := iI (-1000)) dX11_letter_23 (by decide) ?_
      refine v_iret dX11_letter_26 rfl ⟨rfl, rfl⟩ ?_
      refine hn (fun q' g1 g2 g3 => ?_)
      first | exact absurd (q2 q' g1 g2) g3 | omega
theorem x11_width_l {I : Nat → Nat → Int32} {J : Nat → Nat → Int64} {F : Option Value → zM → Prop} {q : Nat} (hq : q < 10) (hqc : rd I (bI q 0) 4 ≠ 0) {ce : Nat → Nat → Int} (hR : ∀ q : Nat, q < 10 → rd I (bI q 0) 4 ≠ 0 → RB I q (ce q)) {len : Nat} (hl : rd I 169 1 = len) (hl2 : len ≤ 200) {b a z : Int} (ha : 2 ≤ a ∧ a ≤ 60) (hz : z ≤ 60 ∧ 2 ≤ z) (hy : ∀ m p : Int, wdP (fun w x => stN (ce q) (fun k => rd I 170 k) len w x) a (z - a + 1).toNat m p → F (some (.int (iI p))) (gM I J)) : ∀ (nz : Nat) (k : Nat) (m : Int) (p : Int), (z - a + 1).toNat - k < nz → k ≤ (z - a + 1).toNat → 0 ≤ m ∧ m ≤ 1000 → wdP (fun w x => stN (ce q) (fun k => rd I 170 k) len w x) a k m p → Wp (sE kX11_width RX11) F 37 [(0, .ref 0), (1, .int (iI b)), (2, .int (iI a)), (3, .int (iI z)), (4, .ref (bI q 0)), (5, .int (iI p)), (6, .int (iI m)), (7, .int (iI (a + (k : Int))))] [] (gM I J) := by
  intro nz
  induction nz with
  | zero =>
    intro k m p hmz hk hm hW
    exact absurd hmz (Nat.not_lt_zero _)
  | succ nz ih =>
    intro k m p hmz hk hm hW
    refine w_iload dX11_width_37 rfl ?_
    refine w_iload_n dX11_width_39 rfl ?_
    refine v_icmp_gt 77 dX11_width_40 (by decide) (by omega) (by omega) (fun c40 => ?_) (fun c40 => ?_)
    · refine w_iload dX11_width_77 rfl ?_
      refine v_iret dX11_width_79 rfl ⟨rfl, rfl⟩ ?_
      refine hy m p ?_
      rw [show (z - a + 1).toNat = k by omega]
      exact hW
    · refine w_aload_n dX11_width_43 rfl ?_
      refine v_getR (j := 169) dX11_width_44 fX11_56 ⟨by decide, rfl⟩ rfl rfl ?_
      refine w_aload dX11_width_47 rfl ?_
      refine w_iload dX11_width_49 rfl ?_
      refine v_callV2 dX11_width_51 lX11_206 vX2_countTimes (by decide) rfl rfl ⟨by decide, rfl⟩ (by decide) rfl (Nat.le_of_ble_eq_true rfl) ?_
      obtain ⟨r1, r2, n, r3, r4, r5⟩ := hR q hq hqc
      refine x2_countTimes hq r1 r3 r4 hl hl2 (by omega) (fun x hx => ?_)
      have gx := stN_bd (by omega) hl2 hx
      refine w_istore dX11_width_54 rfl rfl ?_
      refine w_iload dX11_width_56 rfl ?_
      refine w_iload dX11_width_58 rfl ?_
      refine v_icmp_le 71 dX11_width_60 (by decide) (by omega) (by omega) (fun c60 => ?_) (fun c60 => ?_)
      · refine v_iinc dX11_width_71 rfl rfl rfl ?_
        refine w_goto 37 dX11_width_74 (by decide) ?_
        refine w_keep 8 ?_
        have e6 : a + (k : Int) + 1 = a + ((k + 1 : Nat) : Int) := by omega
        rw [e6]
        refine ih (k + 1) _ _ (by clear hx; omega) (by clear hx; omega) (by clear hx; omega) ⟨m, p, x, hW, hx, ?_⟩
        clear hx
        first | exact Or.inl ⟨by omega, rfl, rfl⟩ | exact Or.inr ⟨by omega, rfl, rfl⟩
      · refine w_iload dX11_width_63 rfl ?_
        refine w_istore dX11_width_65 rfl rfl ?_
        refine w_iload dX11_width_67 rfl ?_
        refine w_istore dX11_width_69 rfl rfl ?_
        refine v_iinc dX11_width_71 rfl rfl rfl ?_
        refine w_goto 37 dX11_width_74 (by decide) ?_
        refine w_keep 8 ?_
        have e6 : a + (k : Int) + 1 = a + ((k + 1 : Nat) : Int) := by omega
        rw [e6]
        refine ih (k + 1) _ _ (by clear hx; omega) (by clear hx; omega) (by clear hx; omega) ⟨m, p, x, hW, hx, ?_⟩
        clear hx
        first | exact Or.inl ⟨by omega, rfl, rfl⟩ | exact Or.inr ⟨by omega, rfl, rfl⟩
theorem x11_width {I : Nat → Nat → Int32} {J : Nat → Nat → Int64} {F : Option Value → zM → Prop} {b a z : Int} (bb : -2147483648 ≤ b ∧ b < 2147483648) (ba : -2147483648 ≤ a ∧ a < 2147483648) (bz : -2147483648 ≤ z ∧ z < 2147483648) {ce : Nat → Nat → Int} (hR : ∀ q : Nat, q < 10 → rd I (bI q 0) 4 ≠ 0 → RB I q (ce q)) {len : Nat} (hl : rd I 169 1 = len) (hl2 : len ≤ 200) (hn : (∀ q : Nat, b = q → q < 10 → rd I (bI q 0) 4 ≠ 0 → ¬ (2 ≤ a ∧ a ≤ 60 ∧ 2 ≤ z ∧ z ≤ 60)) → F (some (.int (iI (-1)))) (gM I J)) (hy : ∀ q : Nat, b = q → q < 10 → rd I (bI q 0) 4 ≠ 0 → (2 ≤ a ∧ a ≤ 60 ∧ 2 ≤ z ∧ z ≤ 60) → ∀ m p : Int, wdP (fun w x => stN (ce q) (fun k => rd I 170 k) len w x) a (z - a + 1).toNat m p → F (some (.int (iI p))) (gM I J)) : Cl yX11_width kX11_width [.ref 0, .int (iI b), .int (iI a), .int (iI z)] (gM I J) F := by
  refine cl_s (by decide) (by decide) (Nat.le_of_ble_eq_true rfl) rt_i ?_
  show Wp _ F 0 [(0, .ref 0), (1, .int (iI b)), (2, .int (iI a)), (3, .int (iI z))] [] _
  refine w_aload_n dX11_width_0 rfl ?_
  refine w_iload_n dX11_width_1 rfl ?_
  refine v_callV1 dX11_width_2 lX11_83 vX11_bitOf (by decide) rfl rfl ⟨by decide, rfl⟩ (by decide) rfl (Nat.le_of_ble_eq_true rfl) ?_
  refine x11_bitOf (by omega) (fun q2 => ?_) (fun q hqe hq hqc => ?_)
  · refine w_astoreN dX11_width_5 rfl rfl ?_
    refine w_aloadN dX11_width_7 rfl ?_
    refine w_ifnull_n 26 dX11_width_9 (by decide) ?_
    refine w_iconst (v := iI (-1)) dX11_width_26 rfl ?_
    refine v_iret dX11_width_27 rfl ⟨rfl, rfl⟩ ?_
    refine hn (fun q' g1 g2 g3 => ?_)
    first | exact absurd (q2 q' g1 g2) g3 | omega
  · refine w_astore dX11_width_5 rfl rfl ?_
    refine w_aload dX11_width_7 rfl ?_
    refine w_ifnull_r dX11_width_9 ?_
    refine w_iload_n dX11_width_12 rfl ?_
    refine v_callS1 dX11_width_13 lX11_203 vX11_isWidth (by decide) rfl rfl (Nat.le_of_ble_eq_true rfl) ?_
    refine x11_isWidth (by omega) (fun q13 => ?_) (fun q13 => ?_)
    · refine v_if_eq 26 dX11_width_16 (by decide) (by decide) (fun q => absurd q (by decide)) (fun _ => ?_)
      refine w_iload_n dX11_width_19 rfl ?_
      refine v_callS1 dX11_width_20 lX11_203 vX11_isWidth (by decide) rfl rfl (Nat.le_of_ble_eq_true rfl) ?_
      refine x11_isWidth (by omega) (fun q20 => ?_) (fun q20 => ?_)
      · refine v_if_ne 28 dX11_width_23 (by decide) (by decide) (fun _ => ?_) (fun q => absurd q (by decide))
        refine w_iconst (v := iI (-1)) dX11_width_28 rfl ?_
        refine w_istore dX11_width_29 rfl rfl ?_
        refine w_iconst (v := iI 0) dX11_width_31 rfl ?_
        refine w_istore dX11_width_32 rfl rfl ?_
        refine w_iload_n dX11_width_34 rfl ?_
        refine w_istore dX11_width_35 rfl rfl ?_
        have L := x11_width_l (F := F) (J := J) (I := I) (q := q) (len := len) (b := b) (a := a) (z := z) hq hqc hR hl hl2 (by omega) (by omega) (hy q hqe hq hqc (by omega)) ((z - a + 1).toNat + 1) 0 0 (-1) (by omega) (by omega) (by omega) ⟨rfl, rfl⟩
        rw [show a + ((0 : Nat) : Int) = a by omega] at L
        exact L
      · refine v_if_ne 28 dX11_width_23 (by decide) (by decide) (fun q => absurd q (by decide)) (fun _ => ?_)
        refine w_iconst (v := iI (-1)) dX11_width_26 rfl ?_
        refine v_iret dX11_width_27 rfl ⟨rfl, rfl⟩ ?_
        refine hn (fun q' g1 g2 g3 => ?_)
        first | exact absurd (q2 q' g1 g2) g3 | omega
    · refine v_if_eq 26 dX11_width_16 (by decide) (by decide) (fun _ => ?_) (fun q => absurd q (by decide))
      refine w_iconst (v := iI (-1)) dX11_width_26 rfl ?_
      refine v_iret dX11_width_27 rfl ⟨rfl, rfl⟩ ?_
      refine hn (fun q' g1 g2 g3 => ?_)
      first | exact absurd (q2 q' g1 g2) g3 | omega
/-- a row copied into another from its beginning -/
def cpI (I : Nat → Nat → Int32) (a b n : Nat) : Nat → Nat → Int32 := fun i => if i = b then va_cpy (I a) (I b) 0 0 n else I i
theorem rd_cpI {I : Nat → Nat → Int32} {a b n i k : Nat} : rd (cpI I a b n) i k = if i = b ∧ k < n then rd I a k else rd I i k := by
  unfold rd cpI va_cpy
  by_cases h : i = b
  · subst h
    by_cases h2 : k < n
    · simp [h2]
    · simp [h2]
  · simp [h]
theorem v_copy {E : zE} {Q : Option Value → zM → Prop} {pc : Nat} {lv : List (Nat × Value)} {st : List Value} {I : Nat → Nat → Int32} {J : Nat → Nat → Int64} {idx id0 id1 n0 n1 n : Nat} (hdg : decode (ze_cc E) pc = .ok (.invokestatic idx, 3)) (hl : Cond.methodLink (ze_own E) idx arraycopyName ∈ zm_g) (h0 : sA id0 .int n0) (h1 : sA id1 .int n1) (g4 : n ≤ n0) (g5 : n ≤ n1) (g6 : n < 2147483648) (hh : 2 ≤ ze_h E) (hw : (st.map fun v => v.category).sum ≤ 8)
    (k : Wp E Q (pc + 3) lv st (gM (cpI I id0 id1 n) J)) : Wp E Q pc lv (.int (iI (n : Int)) :: .int (iI 0) :: .ref id1 :: .int (iI 0) :: .ref id0 :: st) (gM I J) := by
  have e1 : (iI (n : Int)).toNatClampNeg = n := by rw [iI_clamp (by omega) (by omega)]; rfl
  have e0 : (iI 0).toNatClampNeg = 0 := rfl
  refine w_copyi hdg hl s_nat s_stt s_ini h0.1 h0.2 h1.1 h1.2 (by decide) (by decide) (by rw [iI_0, iI_lt (by omega) (by omega)]; omega) (by rw [e0, e1]; omega) (by rw [e0, e1]; omega) hh hw ?_
  rw [e0, e1]
  exact k
theorem x2_become {I : Nat → Nat → Int32} {J : Nat → Nat → Int64} {F : Option Value → zM → Prop} {t : Nat} (ht : rd I 1 1 = t) (ht2 : t ≤ 200) (hy : ∀ I', (∀ id k, rd I' id k = if id = 169 ∧ k = 1 then (t : Int) else if id = 170 ∧ k < t then rd I 2 k else rd I id k) → F none (gM I' J)) : Cl yX2_become kX2_become [.ref 169, .ref 1] (gM I J) F := by
  refine cl_s (by decide) (by decide) (Nat.le_of_ble_eq_true rfl) rt_v ?_
  show Wp _ F 0 [(0, .ref 169), (1, .ref 1)] [] _
  refine w_aload_n dX2_become_0 rfl ?_
  refine v_getR (j := 2) dX2_become_1 fX2_15 ⟨by decide, rfl⟩ rfl rfl ?_
  refine w_iconst (v := iI 0) dX2_become_4 rfl ?_
  refine w_aload_n dX2_become_5 rfl ?_
  refine v_getR (j := 170) dX2_become_6 fX2_9 ⟨by decide, rfl⟩ rfl rfl ?_
  refine w_iconst (v := iI 0) dX2_become_9 rfl ?_
  refine w_aload_n dX2_become_10 rfl ?_
  refine v_getI dX2_become_11 fX2_20 ⟨by decide, rfl⟩ (Or.inl rfl) (fun z11 e11 b11 => ?_)
  rw [show z11 = (t : Int) from e11.trans ht]
  refine v_copy (n := t) dX2_become_14 lX2_24 ⟨by decide, rfl⟩ ⟨by decide, rfl⟩ ht2 ht2 (by omega) (by decide) (Nat.le_of_ble_eq_true rfl) ?_
  refine w_aload_n dX2_become_17 rfl ?_
  refine w_aload_n dX2_become_18 rfl ?_
  refine v_getI dX2_become_19 fX2_20 ⟨by decide, rfl⟩ (Or.inl rfl) (fun z19 e19 b19 => ?_)
  have f19 : z19 = (t : Int) := by rw [e19, rd_cpI, if_neg (by omega)]; exact ht
  refine v_putI dX2_become_22 fX2_30 ⟨by decide, rfl⟩ rfl (Or.inl rfl) ?_
  refine v_vret dX2_become_25 rfl ⟨rfl, rfl⟩ ?_
  refine hy _ (fun id k => ?_)
  rw [f19, rd_wr (by omega) (by omega), rd_cpI]
theorem x11_known {I : Nat → Nat → Int32} {J : Nat → Nat → Int64} {F : Option Value → zM → Prop} {t : Nat} (ht : rd I 1 1 = t) (ht2 : t ≤ 200) (hn : ¬ (1 ≤ t ∧ ∀ k, k < t → isLt (rd I 2 k)) → F (some (.int (iI (-1)))) (gM (wr I 1 1 0) J)) (hy : (1 ≤ t ∧ ∀ k, k < t → isLt (rd I 2 k)) → ∀ I', (rd I' 1 1 = 0 ∧ rd I' 169 1 = t ∧ (∀ k, k < t → rd I' 170 k = rd I 2 k) ∧ fq (fun id k => id = 170 ∨ (id = 169 ∧ k = 1) ∨ (id = 1 ∧ k = 1)) I I') → F (some (.int (iI (t : Int)))) (gM I' J)) : Cl yX11_known kX11_known [.ref 0] (gM I J) F := by
  refine cl_s (by decide) (by decide) (Nat.le_of_ble_eq_true rfl) rt_i ?_
  show Wp _ F 0 [(0, .ref 0)] [] _
  refine w_aload_n dX11_known_0 rfl ?_
  refine v_getR (j := 1) dX11_known_1 fX11_12 ⟨by decide, rfl⟩ rfl rfl ?_
  refine w_sipush (v := iI 200) dX11_known_4 (by decide) ?_
  refine v_callV1 dX11_known_7 lX11_103 vX9_isLetters (by decide) rfl rfl ⟨by decide, rfl⟩ (by decide) rfl (Nat.le_of_ble_eq_true rfl) ?_
  refine x9_isLetters ht ht2 (by omega) (fun q7 => ?_) (fun q7 => ?_)
  · refine w_istore_n dX11_known_10 rfl rfl ?_
    refine w_iload_n dX11_known_11 rfl ?_
    refine v_if_eq 26 dX11_known_12 (by decide) (by decide) (fun q => absurd q (by decide)) (fun _ => ?_)
    refine w_aload_n dX11_known_15 rfl ?_
    refine v_getR (j := 169) dX11_known_16 fX11_56 ⟨by decide, rfl⟩ rfl rfl ?_
    refine w_aload_n dX11_known_19 rfl ?_
    refine v_getR (j := 1) dX11_known_20 fX11_12 ⟨by decide, rfl⟩ rfl rfl ?_
    refine v_callV1 dX11_known_23 lX11_201 vX2_become (by decide) rfl rfl ⟨by decide, rfl⟩ (by decide) rfl (Nat.le_of_ble_eq_true rfl) ?_
    refine x2_become ht ht2 (fun I' hI => ?_)
    refine w_aload_n dX11_known_26 rfl ?_
    refine v_getR (j := 1) dX11_known_27 fX11_12 ⟨by decide, rfl⟩ rfl rfl ?_
    refine w_iconst (v := iI 0) dX11_known_30 rfl ?_
    refine v_putI dX11_known_31 fX11_60 ⟨by decide, rfl⟩ rfl (Or.inl rfl) ?_
    refine w_iload_n dX11_known_34 rfl ?_
    refine v_if_eq 48 dX11_known_35 (by decide) (by decide) (fun q => absurd q (by decide)) (fun _ => ?_)
    refine w_aload_n dX11_known_38 rfl ?_
    refine v_getR (j := 169) dX11_known_39 fX11_56 ⟨by decide, rfl⟩ rfl rfl ?_
    refine v_getI dX11_known_42 fX11_202 ⟨by decide, rfl⟩ (Or.inl rfl) (fun z42 e42 b42 => ?_)
    refine w_goto 49 dX11_known_45 (by decide) ?_
    refine v_iret dX11_known_49 rfl ⟨rfl, rfl⟩ ?_
    first
      | (have f42 : z42 = (t : Int) := by rw [e42, rd_wr_row (by decide), hI, if_pos ⟨rfl, rfl⟩]
         rw [f42]
         refine hy ⟨q7.1, q7.2.2⟩ _ ⟨rd_wr_eq (by omega) (by omega), ?_, fun k hk => ?_, fun id k hk => ?_⟩
         · rw [rd_wr_row (by decide), hI, if_pos ⟨rfl, rfl⟩]
         · rw [rd_wr_row (by decide), hI, if_neg (by omega), if_pos ⟨rfl, hk⟩]
         · rw [rd_wr_ne (fun g => hk (Or.inr (Or.inr g))), hI, if_neg (fun g => hk (Or.inr (Or.inl g))), if_neg (fun g => hk (Or.inl g.1))])
      | exact hn (fun g => q7 ⟨g.1, by omega, g.2⟩)
  · refine w_istore_n dX11_known_10 rfl rfl ?_
    refine w_iload_n dX11_known_11 rfl ?_
    refine v_if_eq 26 dX11_known_12 (by decide) (by decide) (fun _ => ?_) (fun q => absurd q (by decide))
    refine w_aload_n dX11_known_26 rfl ?_
    refine v_getR (j := 1) dX11_known_27 fX11_12 ⟨by decide, rfl⟩ rfl rfl ?_
    refine w_iconst (v := iI 0) dX11_known_30 rfl ?_
    refine v_putI dX11_known_31 fX11_60 ⟨by decide, rfl⟩ rfl (Or.inl rfl) ?_
    refine w_iload_n dX11_known_34 rfl ?_
    refine v_if_eq 48 dX11_known_35 (by decide) (by decide) (fun _ => ?_) (fun q => absurd q (by decide))
    refine w_iconst (v := iI (-1)) dX11_known_48 rfl ?_
    refine v_iret dX11_known_49 rfl ⟨rfl, rfl⟩ ?_
    first
      | (have f42 : z42 = (t : Int) := by rw [e42, rd_wr_row (by decide), hI, if_pos ⟨rfl, rfl⟩]
         rw [f42]
         refine hy ⟨q7.1, q7.2.2⟩ _ ⟨rd_wr_eq (by omega) (by omega), ?_, fun k hk => ?_, fun id k hk => ?_⟩
         · rw [rd_wr_row (by decide), hI, if_pos ⟨rfl, rfl⟩]
         · rw [rd_wr_row (by decide), hI, if_neg (by omega), if_pos ⟨rfl, hk⟩]
         · rw [rd_wr_ne (fun g => hk (Or.inr (Or.inr g))), hI, if_neg (fun g => hk (Or.inr (Or.inl g))), if_neg (fun g => hk (Or.inl g.1))])
      | exact hn (fun g => q7 ⟨g.1, by omega, g.2⟩)
