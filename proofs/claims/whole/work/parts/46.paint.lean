/-! BITS on THE SHEET of the class -/
/-- the places before which the first j CELLS of the list lie -/
def lim (I : Nat → Nat → Int32) (b n j : Nat) : Int := if j < n then cp I b j else 50
theorem lim_0 {I : Nat → Nat → Int32} {b n u : Nat} {ce : Nat → Int} (h : RBc I b ce n) (hu : u < 50) (hc : ce u ≠ 95) : ¬ (u : Int) < lim I b n 0 := by
  obtain ⟨i, i1, i2⟩ := h.2.2.2.2 u hu hc
  unfold lim
  by_cases g : 0 < n
  · rw [if_pos g]
    by_cases g2 : i = 0
    · subst g2; omega
    · have := h.2.2.2.1 0 i (by omega) i1; omega
  · omega
theorem lim_n {I : Nat → Nat → Int32} {b n : Nat} : lim I b n n = 50 := by
  unfold lim; rw [if_neg (by omega)]
theorem lim_s {I : Nat → Nat → Int32} {b n j u : Nat} {ce : Nat → Int} (h : RBc I b ce n) (hj : j < n) (hu : u < 50) (hc : ce u ≠ 95) : (u : Int) < lim I b n (j + 1) ↔ (u : Int) < lim I b n j ∨ u = cp I b j := by
  obtain ⟨i, i1, i2⟩ := h.2.2.2.2 u hu hc
  have e1 : lim I b n j = cp I b j := by unfold lim; rw [if_pos hj]
  rw [e1]
  have e2 : (u : Int) < lim I b n (j + 1) ↔ i < j + 1 := by
    unfold lim
    by_cases g : j + 1 < n
    · rw [if_pos g]
      constructor
      · intro q
        apply Classical.byContradiction
        intro q2
        by_cases q3 : i = j + 1
        · subst q3; omega
        · have := h.2.2.2.1 (j + 1) i (by omega) i1; omega
      · intro q
        have := h.2.2.2.1 i (j + 1) q g
        omega
    · rw [if_neg g]; omega
  rw [e2]
  constructor
  · intro q
    by_cases q3 : i = j
    · subst q3; exact Or.inr i2.symm
    · have := h.2.2.2.1 i j (by omega) hj
      exact Or.inl (by omega)
  · rintro (q | q)
    · apply Classical.byContradiction
      intro q2
      by_cases q3 : i = j
      · subst q3; omega
      · have := h.2.2.2.1 j i (by omega) i1; omega
    · apply Classical.byContradiction
      intro q2
      have := h.2.2.2.1 j i (by omega) i1
      omega
/-- I' is I with f painted on array w where a BIT at (R, C) has a CELL before place m -/
def pntM (I I' : Nat → Nat → Int32) (w : Nat) (ce : Nat → Int) (R C : Int) (f : Nat → Int) (m : Int) : Prop := ∀ id k, rd I' id k = if id = w ∧ k < 512 ∧ cA ce R C ((k / 32 : Nat) : Int) ((k % 32 : Nat) : Int) ≠ 95 ∧ 10 * (((k / 32 : Nat) : Int) - R) + (((k % 32 : Nat) : Int) - C) < m then f k else rd I id k
def pnt (I I' : Nat → Nat → Int32) (w : Nat) (ce : Nat → Int) (R C : Int) (f : Nat → Int) : Prop := ∀ id k, rd I' id k = if id = w ∧ k < 512 ∧ cA ce R C ((k / 32 : Nat) : Int) ((k % 32 : Nat) : Int) ≠ 95 then f k else rd I id k
theorem pntM_0 {I : Nat → Nat → Int32} {w b n : Nat} {ce : Nat → Int} {R C : Int} {f : Nat → Int} (h : RBc I b ce n) : pntM I I w ce R C f (lim I b n 0) := fun id k => by
  rw [if_neg]
  rintro ⟨_, _, u3, u4⟩
  have g := cA_ne u3
  exact lim_0 h (u := (10 * (((k / 32 : Nat) : Int) - R) + (((k % 32 : Nat) : Int) - C)).toNat) (by omega) g.2.2.2.2 (by omega)
theorem pntM_n {I I' : Nat → Nat → Int32} {w b n : Nat} {ce : Nat → Int} {R C : Int} {f : Nat → Int} (h : pntM I I' w ce R C f (lim I b n n)) : pnt I I' w ce R C f := fun id k => by
  rw [h id k, lim_n]
  by_cases g : id = w ∧ k < 512 ∧ cA ce R C ((k / 32 : Nat) : Int) ((k % 32 : Nat) : Int) ≠ 95
  · have g2 := cA_ne g.2.2
    rw [if_pos g, if_pos ⟨g.1, g.2.1, g.2.2, by omega⟩]
  · rw [if_neg g, if_neg (fun q => g ⟨q.1, q.2.1, q.2.2.1⟩)]
theorem pntM_out {I I' : Nat → Nat → Int32} {w b n j : Nat} {ce : Nat → Int} {R C r c : Int} {f : Nat → Int} (h : RBc I b ce n) (hj : j < n) (hr : r = R + rd I (bI b 2) j) (hc : c = C + rd I (bI b 3) j) (ho : ¬ inS r c) (hI : pntM I I' w ce R C f (lim I b n j)) : pntM I I' w ce R C f (lim I b n (j + 1)) := fun id k => by
  rw [hI id k]
  by_cases g : id = w ∧ k < 512 ∧ cA ce R C ((k / 32 : Nat) : Int) ((k % 32 : Nat) : Int) ≠ 95
  · have g2 := cA_ne g.2.2
    obtain ⟨pr, pc, p1, p2, p3, p4, p5, p6⟩ := cp_rc h hj
    have s := lim_s h hj (u := (10 * (((k / 32 : Nat) : Int) - R) + (((k % 32 : Nat) : Int) - C)).toNat) (by omega) g2.2.2.2.2
    have ne : ¬ (10 * (((k / 32 : Nat) : Int) - R) + (((k % 32 : Nat) : Int) - C)).toNat = cp I b j := fun q => ho (show 0 ≤ r ∧ r < 16 ∧ 0 ≤ c ∧ c < 32 by omega)
    have e : (10 * (((k / 32 : Nat) : Int) - R) + (((k % 32 : Nat) : Int) - C) < lim I b n (j + 1)) ↔ (10 * (((k / 32 : Nat) : Int) - R) + (((k % 32 : Nat) : Int) - C) < lim I b n j) := by
      rw [show 10 * (((k / 32 : Nat) : Int) - R) + (((k % 32 : Nat) : Int) - C) = ((10 * (((k / 32 : Nat) : Int) - R) + (((k % 32 : Nat) : Int) - C)).toNat : Int) by omega]
      exact ⟨fun q => (s.mp q).resolve_right ne, fun q => s.mpr (Or.inl q)⟩
    simp only [e]
  · rw [if_neg (fun q => g ⟨q.1, q.2.1, q.2.2.1⟩), if_neg (fun q => g ⟨q.1, q.2.1, q.2.2.1⟩)]
theorem pntM_in {I I' : Nat → Nat → Int32} {w b n j : Nat} {ce : Nat → Int} {R C r c v : Int} {f : Nat → Int} (h : RBc I b ce n) (hj : j < n) (hr : r = R + rd I (bI b 2) j) (hc : c = C + rd I (bI b 3) j) (hi : inS r c) (hv : v = f (r * 32 + c).toNat) (bv : -2147483648 ≤ v ∧ v < 2147483648) (hI : pntM I I' w ce R C f (lim I b n j)) : pntM I (wr I' w (r * 32 + c).toNat v) w ce R C f (lim I b n (j + 1)) := fun id k => by
  have i2 : 0 ≤ r ∧ r < 16 ∧ 0 ≤ c ∧ c < 32 := hi
  obtain ⟨pr, pc, p1, p2, p3, p4, p5, p6⟩ := cp_rc h hj
  rw [rd_wr bv.1 bv.2, hI id k]
  by_cases g : id = w ∧ k < 512 ∧ cA ce R C ((k / 32 : Nat) : Int) ((k % 32 : Nat) : Int) ≠ 95
  · have g2 := cA_ne g.2.2
    have s := lim_s h hj (u := (10 * (((k / 32 : Nat) : Int) - R) + (((k % 32 : Nat) : Int) - C)).toNat) (by omega) g2.2.2.2.2
    rw [show ((10 * (((k / 32 : Nat) : Int) - R) + (((k % 32 : Nat) : Int) - C)).toNat : Int) = 10 * (((k / 32 : Nat) : Int) - R) + (((k % 32 : Nat) : Int) - C) by omega] at s
    by_cases q : k = (r * 32 + c).toNat
    · rw [if_pos ⟨g.1, q⟩, if_pos ⟨g.1, g.2.1, g.2.2, s.mpr (Or.inr (by omega))⟩, hv, q]
    · rw [if_neg (fun u => q u.2)]
      have ne : ¬ (10 * (((k / 32 : Nat) : Int) - R) + (((k % 32 : Nat) : Int) - C)).toNat = cp I b j := fun q2 => q (by omega)
      have e : (10 * (((k / 32 : Nat) : Int) - R) + (((k % 32 : Nat) : Int) - C) < lim I b n (j + 1)) ↔ (10 * (((k / 32 : Nat) : Int) - R) + (((k % 32 : Nat) : Int) - C) < lim I b n j) := ⟨fun q => (s.mp q).resolve_right ne, fun q => s.mpr (Or.inl q)⟩
      simp only [e]
  · have g0 : ¬ (id = w ∧ k = (r * 32 + c).toNat) := fun q => g ⟨q.1, by omega, by
      have e : ((k / 32 : Nat) : Int) = R + ((cp I b j / 10 : Nat) : Int) := by omega
      have e' : ((k % 32 : Nat) : Int) = C + ((cp I b j % 10 : Nat) : Int) := by omega
      rw [e, e', cA_at p6]
      exact (h.2.2.1 j hj).2.2.2.2⟩
    rw [if_neg g0, if_neg (fun q => g ⟨q.1, q.2.1, q.2.2.1⟩), if_neg (fun q => g ⟨q.1, q.2.1, q.2.2.1⟩)]
theorem x8_write_l {I : Nat → Nat → Int32} {J : Nat → Nat → Int64} {F : Option Value → zM → Prop} {b : Nat} (hb : b < 10) {ce : Nat → Int} {n : Nat} (hS : ∀ k, k < 50 → rd I (bI b 1) k = ce k) (hB : RBc I b ce n) {R C : Int} (hR : -1000 ≤ R ∧ R ≤ 1000) (hC : -1000 ≤ C ∧ C ≤ 1000) (h : ∀ I', pnt I I' 143 ce R C (fun k => cA ce R C ((k / 32 : Nat) : Int) ((k % 32 : Nat) : Int)) → F none (gM I' J)) : ∀ (nz : Nat) (j : Nat) (I' : Nat → Nat → Int32), n - j < nz → j ≤ n → pntM I I' 143 ce R C (fun k => cA ce R C ((k / 32 : Nat) : Int) ((k % 32 : Nat) : Int)) (lim I b n j) → Wp (sE kX8_write RX8) F 3 [(0, .ref 142), (1, .ref (bI b 0)), (2, .int (iI R)), (3, .int (iI C)), (4, .int (iI (j : Int)))] [] (gM I' J) := by
  intro nz
  induction nz with
  | zero =>
    intro j I' hmz hj hI
    exact absurd hmz (Nat.not_lt_zero _)
  | succ nz ih =>
    intro j I' hmz hj hI
    refine w_iload dX8_write_3 rfl ?_
    refine w_aload_n dX8_write_5 rfl ?_
    refine v_getI dX8_write_6 fX8_34 (sO_b hb (by decide) rfl) (Or.inl rfl) (fun z6 e6 b6 => ?_)
    have f6 : z6 = n := by rw [e6, hI _ _, if_neg (by unfold bI; omega)]; exact hB.1
    have n50 := hB.2.1
    refine v_icmp_ge 86 dX8_write_9 (by decide) (by omega) (by omega) (fun c9 => ?_) (fun c9 => ?_)
    · refine v_vret dX8_write_86 rfl ⟨rfl, rfl⟩ ?_
      have g : j = n := by omega
      subst g
      exact h I' (pntM_n hI)
    · refine w_iload_n dX8_write_12 rfl ?_
      refine w_aload_n dX8_write_13 rfl ?_
      refine v_getR (j := bI b 2) dX8_write_14 fX8_40 (sO_b hb (by decide) rfl) rfl (r0_b hb (by decide)) ?_
      refine w_iload dX8_write_17 rfl ?_
      refine v_iald dX8_write_19 (sA_b hb (by decide) rfl) (by omega) (by omega) (by decide) (fun z19 e19 b19 => ?_)
      have f19 : z19 = rd I (bI b 2) j := by rw [e19, hI _ _, if_neg (by unfold bI; omega)]; rfl
      have cl := hB.2.2.1 j (by omega)
      refine v_iadd dX8_write_20 ?_
      refine w_istore dX8_write_21 rfl rfl ?_
      refine w_iload_n dX8_write_23 rfl ?_
      refine w_aload_n dX8_write_24 rfl ?_
      refine v_getR (j := bI b 3) dX8_write_25 fX8_43 (sO_b hb (by decide) rfl) rfl (r0_b hb (by decide)) ?_
      refine w_iload dX8_write_28 rfl ?_
      refine v_iald dX8_write_30 (sA_b hb (by decide) rfl) (by omega) (by omega) (by decide) (fun z30 e30 b30 => ?_)
      have f30 : z30 = rd I (bI b 3) j := by rw [e30, hI _ _, if_neg (by unfold bI; omega)]; rfl
      refine v_iadd dX8_write_31 ?_
      refine w_istore dX8_write_32 rfl rfl ?_
      refine w_iload dX8_write_34 rfl ?_
      refine w_iload dX8_write_36 rfl ?_
      refine v_callS2 dX8_write_38 lX8_30 vX8_isInside (by decide) rfl rfl (Nat.le_of_ble_eq_true rfl) ?_
      refine x8_isInside (by omega) (by omega) (fun q38 => ?_) (fun q38 => ?_)
      · refine v_if_eq 80 dX8_write_41 (by decide) (by decide) (fun q => absurd q (by decide)) (fun _ => ?_)
        refine w_aload_n dX8_write_44 rfl ?_
        refine v_getR (j := 143) dX8_write_45 fX8_9 ⟨by decide, rfl⟩ rfl rfl ?_
        refine w_iload dX8_write_48 rfl ?_
        refine w_bipush (v := iI 32) dX8_write_50 (by decide) ?_
        refine v_imul dX8_write_52 ?_
        refine w_iload dX8_write_53 rfl ?_
        refine v_iadd dX8_write_55 ?_
        refine w_aload_n dX8_write_56 rfl ?_
        refine v_getR (j := bI b 1) dX8_write_57 fX8_115 (sO_b hb (by decide) rfl) rfl (r0_b hb (by decide)) ?_
        refine w_aload_n dX8_write_60 rfl ?_
        refine v_getR (j := bI b 2) dX8_write_61 fX8_40 (sO_b hb (by decide) rfl) rfl (r0_b hb (by decide)) ?_
        refine w_iload dX8_write_64 rfl ?_
        refine v_iald dX8_write_66 (sA_b hb (by decide) rfl) (by omega) (by omega) (by decide) (fun z66 e66 b66 => ?_)
        have f66 : z66 = rd I (bI b 2) j := by rw [e66, hI _ _, if_neg (by unfold bI; omega)]; rfl
        refine w_bipush (v := iI 10) dX8_write_67 (by decide) ?_
        refine v_imul dX8_write_69 ?_
        refine w_aload_n dX8_write_70 rfl ?_
        refine v_getR (j := bI b 3) dX8_write_71 fX8_43 (sO_b hb (by decide) rfl) rfl (r0_b hb (by decide)) ?_
        refine w_iload dX8_write_74 rfl ?_
        refine v_iald dX8_write_76 (sA_b hb (by decide) rfl) (by omega) (by omega) (by decide) (fun z76 e76 b76 => ?_)
        have f76 : z76 = rd I (bI b 3) j := by rw [e76, hI _ _, if_neg (by unfold bI; omega)]; rfl
        refine v_iadd dX8_write_77 ?_
        refine v_iald dX8_write_78 (sA_b hb (by decide) rfl) (by omega) (by omega) (by decide) (fun z78 e78 b78 => ?_)
        have f78 : z78 = ce (cp I b j) := by
          rw [e78, hI _ _, if_neg (by unfold bI; omega), ← hS _ (by unfold cp; omega)]; unfold cp; rw [f66, f76]
        refine v_iast dX8_write_79 ⟨by decide, rfl⟩ (by have i2 : 0 ≤ R + z19 ∧ R + z19 < 16 ∧ 0 ≤ C + z30 ∧ C + z30 < 32 := q38; omega) (by have i2 : 0 ≤ R + z19 ∧ R + z19 < 16 ∧ 0 ≤ C + z30 ∧ C + z30 < 32 := q38; omega) (by decide) ?_
        refine v_iinc dX8_write_80 rfl rfl rfl ?_
        refine w_goto 3 dX8_write_83 (by decide) ?_
        refine w_keep 5 ?_
        rw [show (j : Int) + 1 = ((j + 1 : Nat) : Int) by omega]
        first
          | exact ih (j + 1) _ (by omega) (by omega) (pntM_in hB (by omega) (by rw [f19]) (by rw [f30]) q38 (by rw [f78]; have p := cp_rc hB (show j < n by omega); obtain ⟨pr, pc, p1, p2, p3, p4, p5, p6⟩ := p; have i2 : 0 ≤ R + z19 ∧ R + z19 < 16 ∧ 0 ≤ C + z30 ∧ C + z30 < 32 := q38; (try dsimp only); rw [show (((((R + z19) * 32 + (C + z30)).toNat / 32 : Nat)) : Int) = R + ((cp I b j / 10 : Nat) : Int) by omega, show (((((R + z19) * 32 + (C + z30)).toNat % 32 : Nat)) : Int) = C + ((cp I b j % 10 : Nat) : Int) by omega, cA_at p6]) b78 hI)
          | exact ih (j + 1) _ (by omega) (by omega) (pntM_out hB (by omega) (by rw [f19]) (by rw [f30]) q38 hI)
      · refine v_if_eq 80 dX8_write_41 (by decide) (by decide) (fun _ => ?_) (fun q => absurd q (by decide))
        refine v_iinc dX8_write_80 rfl rfl rfl ?_
        refine w_goto 3 dX8_write_83 (by decide) ?_
        refine w_keep 5 ?_
        rw [show (j : Int) + 1 = ((j + 1 : Nat) : Int) by omega]
        first
          | exact ih (j + 1) _ (by omega) (by omega) (pntM_in hB (by omega) (by rw [f19]) (by rw [f30]) q38 (by rw [f78]; have p := cp_rc hB (show j < n by omega); obtain ⟨pr, pc, p1, p2, p3, p4, p5, p6⟩ := p; have i2 : 0 ≤ R + z19 ∧ R + z19 < 16 ∧ 0 ≤ C + z30 ∧ C + z30 < 32 := q38; (try dsimp only); rw [show (((((R + z19) * 32 + (C + z30)).toNat / 32 : Nat)) : Int) = R + ((cp I b j / 10 : Nat) : Int) by omega, show (((((R + z19) * 32 + (C + z30)).toNat % 32 : Nat)) : Int) = C + ((cp I b j % 10 : Nat) : Int) by omega, cA_at p6]) b78 hI)
          | exact ih (j + 1) _ (by omega) (by omega) (pntM_out hB (by omega) (by rw [f19]) (by rw [f30]) q38 hI)
theorem x8_write {I : Nat → Nat → Int32} {J : Nat → Nat → Int64} {F : Option Value → zM → Prop} {b : Nat} (hb : b < 10) {ce : Nat → Int} {n : Nat} (hS : ∀ k, k < 50 → rd I (bI b 1) k = ce k) (hB : RBc I b ce n) {R C : Int} (hR : -1000 ≤ R ∧ R ≤ 1000) (hC : -1000 ≤ C ∧ C ≤ 1000) (h : ∀ I', pnt I I' 143 ce R C (fun k => cA ce R C ((k / 32 : Nat) : Int) ((k % 32 : Nat) : Int)) → F none (gM I' J)) : Cl yX8_write kX8_write [.ref 142, .ref (bI b 0), .int (iI R), .int (iI C)] (gM I J) F := by
  refine cl_s (by decide) (by decide) (Nat.le_of_ble_eq_true rfl) rt_v ?_
  show Wp _ F 0 [(0, .ref 142), (1, .ref (bI b 0)), (2, .int (iI R)), (3, .int (iI C))] [] _
  refine w_iconst (v := iI 0) dX8_write_0 rfl ?_
  refine w_istore dX8_write_1 rfl rfl ?_
  exact x8_write_l hb hS hB hR hC h (n + 1) 0 I (by omega) (by omega) (pntM_0 hB)
theorem x8_wipe_l {I : Nat → Nat → Int32} {J : Nat → Nat → Int64} {F : Option Value → zM → Prop} {b : Nat} (hb : b < 10) {ce : Nat → Int} {n : Nat} (hS : ∀ k, k < 50 → rd I (bI b 1) k = ce k) (hB : RBc I b ce n) {R C : Int} (hR : -1000 ≤ R ∧ R ≤ 1000) (hC : -1000 ≤ C ∧ C ≤ 1000) (h : ∀ I', pnt I I' 143 ce R C (fun _ => 95) → F none (gM I' J)) : ∀ (nz : Nat) (j : Nat) (I' : Nat → Nat → Int32), n - j < nz → j ≤ n → pntM I I' 143 ce R C (fun _ => 95) (lim I b n j) → Wp (sE kX8_wipe RX8) F 3 [(0, .ref 142), (1, .ref (bI b 0)), (2, .int (iI R)), (3, .int (iI C)), (4, .int (iI (j : Int)))] [] (gM I' J) := by
  intro nz
  induction nz with
  | zero =>
    intro j I' hmz hj hI
    exact absurd hmz (Nat.not_lt_zero _)
  | succ nz ih =>
    intro j I' hmz hj hI
    refine w_iload dX8_wipe_3 rfl ?_
    refine w_aload_n dX8_wipe_5 rfl ?_
    refine v_getI dX8_wipe_6 fX8_34 (sO_b hb (by decide) rfl) (Or.inl rfl) (fun z6 e6 b6 => ?_)
    have f6 : z6 = n := by rw [e6, hI _ _, if_neg (by unfold bI; omega)]; exact hB.1
    have n50 := hB.2.1
    refine v_icmp_ge 65 dX8_wipe_9 (by decide) (by omega) (by omega) (fun c9 => ?_) (fun c9 => ?_)
    · refine v_vret dX8_wipe_65 rfl ⟨rfl, rfl⟩ ?_
      have g : j = n := by omega
      subst g
      exact h I' (pntM_n hI)
    · refine w_iload_n dX8_wipe_12 rfl ?_
      refine w_aload_n dX8_wipe_13 rfl ?_
      refine v_getR (j := bI b 2) dX8_wipe_14 fX8_40 (sO_b hb (by decide) rfl) rfl (r0_b hb (by decide)) ?_
      refine w_iload dX8_wipe_17 rfl ?_
      refine v_iald dX8_wipe_19 (sA_b hb (by decide) rfl) (by omega) (by omega) (by decide) (fun z19 e19 b19 => ?_)
      have f19 : z19 = rd I (bI b 2) j := by rw [e19, hI _ _, if_neg (by unfold bI; omega)]; rfl
      have cl := hB.2.2.1 j (by omega)
      refine v_iadd dX8_wipe_20 ?_
      refine w_istore dX8_wipe_21 rfl rfl ?_
      refine w_iload_n dX8_wipe_23 rfl ?_
      refine w_aload_n dX8_wipe_24 rfl ?_
      refine v_getR (j := bI b 3) dX8_wipe_25 fX8_43 (sO_b hb (by decide) rfl) rfl (r0_b hb (by decide)) ?_
      refine w_iload dX8_wipe_28 rfl ?_
      refine v_iald dX8_wipe_30 (sA_b hb (by decide) rfl) (by omega) (by omega) (by decide) (fun z30 e30 b30 => ?_)
      have f30 : z30 = rd I (bI b 3) j := by rw [e30, hI _ _, if_neg (by unfold bI; omega)]; rfl
      refine v_iadd dX8_wipe_31 ?_
      refine w_istore dX8_wipe_32 rfl rfl ?_
      refine w_iload dX8_wipe_34 rfl ?_
      refine w_iload dX8_wipe_36 rfl ?_
      refine v_callS2 dX8_wipe_38 lX8_30 vX8_isInside (by decide) rfl rfl (Nat.le_of_ble_eq_true rfl) ?_
      refine x8_isInside (by omega) (by omega) (fun q38 => ?_) (fun q38 => ?_)
      · refine v_if_eq 59 dX8_wipe_41 (by decide) (by decide) (fun q => absurd q (by decide)) (fun _ => ?_)
        refine w_aload_n dX8_wipe_44 rfl ?_
        refine v_getR (j := 143) dX8_wipe_45 fX8_9 ⟨by decide, rfl⟩ rfl rfl ?_
        refine w_iload dX8_wipe_48 rfl ?_
        refine w_bipush (v := iI 32) dX8_wipe_50 (by decide) ?_
        refine v_imul dX8_wipe_52 ?_
        refine w_iload dX8_wipe_53 rfl ?_
        refine v_iadd dX8_wipe_55 ?_
        refine w_bipush (v := iI 95) dX8_wipe_56 (by decide) ?_
        refine v_iast dX8_wipe_58 ⟨by decide, rfl⟩ (by have i2 : 0 ≤ R + z19 ∧ R + z19 < 16 ∧ 0 ≤ C + z30 ∧ C + z30 < 32 := q38; omega) (by have i2 : 0 ≤ R + z19 ∧ R + z19 < 16 ∧ 0 ≤ C + z30 ∧ C + z30 < 32 := q38; omega) (by decide) ?_
        refine v_iinc dX8_wipe_59 rfl rfl rfl ?_
        refine w_goto 3 dX8_wipe_62 (by decide) ?_
        refine w_keep 5 ?_
        rw [show (j : Int) + 1 = ((j + 1 : Nat) : Int) by omega]
        first
          | exact ih (j + 1) _ (by omega) (by omega) (pntM_in hB (by omega) (by rw [f19]) (by rw [f30]) q38 rfl (by decide) hI)
          | exact ih (j + 1) _ (by omega) (by omega) (pntM_out hB (by omega) (by rw [f19]) (by rw [f30]) q38 hI)
      · refine v_if_eq 59 dX8_wipe_41 (by decide) (by decide) (fun _ => ?_) (fun q => absurd q (by decide))
        refine v_iinc dX8_wipe_59 rfl rfl rfl ?_
        refine w_goto 3 dX8_wipe_62 (by decide) ?_
        refine w_keep 5 ?_
        rw [show (j : Int) + 1 = ((j + 1 : Nat) : Int) by omega]
        first
          | exact ih (j + 1) _ (by omega) (by omega) (pntM_in hB (by omega) (by rw [f19]) (by rw [f30]) q38 rfl (by decide) hI)
          | exact ih (j + 1) _ (by omega) (by omega) (pntM_out hB (by omega) (by rw [f19]) (by rw [f30]) q38 hI)
theorem x8_wipe {I : Nat → Nat → Int32} {J : Nat → Nat → Int64} {F : Option Value → zM → Prop} {b : Nat} (hb : b < 10) {ce : Nat → Int} {n : Nat} (hS : ∀ k, k < 50 → rd I (bI b 1) k = ce k) (hB : RBc I b ce n) {R C : Int} (hR : -1000 ≤ R ∧ R ≤ 1000) (hC : -1000 ≤ C ∧ C ≤ 1000) (h : ∀ I', pnt I I' 143 ce R C (fun _ => 95) → F none (gM I' J)) : Cl yX8_wipe kX8_wipe [.ref 142, .ref (bI b 0), .int (iI R), .int (iI C)] (gM I J) F := by
  refine cl_s (by decide) (by decide) (Nat.le_of_ble_eq_true rfl) rt_v ?_
  show Wp _ F 0 [(0, .ref 142), (1, .ref (bI b 0)), (2, .int (iI R)), (3, .int (iI C))] [] _
  refine w_iconst (v := iI 0) dX8_wipe_0 rfl ?_
  refine w_istore dX8_wipe_1 rfl rfl ?_
  exact x8_wipe_l hb hS hB hR hC h (n + 1) 0 I (by omega) (by omega) (pntM_0 hB)
theorem x8_own_l {I : Nat → Nat → Int32} {J : Nat → Nat → Int64} {F : Option Value → zM → Prop} {b : Nat} (hb : b < 10) {ce : Nat → Int} {n : Nat} (hS : ∀ k, k < 50 → rd I (bI b 1) k = ce k) (hB : RBc I b ce n) {R C : Int} (hR : -1000 ≤ R ∧ R ≤ 1000) (hC : -1000 ≤ C ∧ C ≤ 1000) {o : Int} (bo : -2147483648 ≤ o ∧ o < 2147483648) (h : ∀ I', pnt I I' 144 ce R C (fun _ => o) → F none (gM I' J)) : ∀ (nz : Nat) (j : Nat) (I' : Nat → Nat → Int32), n - j < nz → j ≤ n → pntM I I' 144 ce R C (fun _ => o) (lim I b n j) → Wp (sE kX8_own RX8) F 3 [(0, .ref 142), (1, .ref (bI b 0)), (2, .int (iI R)), (3, .int (iI C)), (4, .int (iI o)), (5, .int (iI (j : Int)))] [] (gM I' J) := by
  intro nz
  induction nz with
  | zero =>
    intro j I' hmz hj hI
    exact absurd hmz (Nat.not_lt_zero _)
  | succ nz ih =>
    intro j I' hmz hj hI
    refine w_iload dX8_own_3 rfl ?_
    refine w_aload_n dX8_own_5 rfl ?_
    refine v_getI dX8_own_6 fX8_34 (sO_b hb (by decide) rfl) (Or.inl rfl) (fun z6 e6 b6 => ?_)
    have f6 : z6 = n := by rw [e6, hI _ _, if_neg (by unfold bI; omega)]; exact hB.1
    have n50 := hB.2.1
    refine v_icmp_ge 65 dX8_own_9 (by decide) (by omega) (by omega) (fun c9 => ?_) (fun c9 => ?_)
    · refine v_vret dX8_own_65 rfl ⟨rfl, rfl⟩ ?_
      have g : j = n := by omega
      subst g
      exact h I' (pntM_n hI)
    · refine w_iload_n dX8_own_12 rfl ?_
      refine w_aload_n dX8_own_13 rfl ?_
      refine v_getR (j := bI b 2) dX8_own_14 fX8_40 (sO_b hb (by decide) rfl) rfl (r0_b hb (by decide)) ?_
      refine w_iload dX8_own_17 rfl ?_
      refine v_iald dX8_own_19 (sA_b hb (by decide) rfl) (by omega) (by omega) (by decide) (fun z19 e19 b19 => ?_)
      have f19 : z19 = rd I (bI b 2) j := by rw [e19, hI _ _, if_neg (by unfold bI; omega)]; rfl
      have cl := hB.2.2.1 j (by omega)
      refine v_iadd dX8_own_20 ?_
      refine w_istore dX8_own_21 rfl rfl ?_
      refine w_iload_n dX8_own_23 rfl ?_
      refine w_aload_n dX8_own_24 rfl ?_
      refine v_getR (j := bI b 3) dX8_own_25 fX8_43 (sO_b hb (by decide) rfl) rfl (r0_b hb (by decide)) ?_
      refine w_iload dX8_own_28 rfl ?_
      refine v_iald dX8_own_30 (sA_b hb (by decide) rfl) (by omega) (by omega) (by decide) (fun z30 e30 b30 => ?_)
      have f30 : z30 = rd I (bI b 3) j := by rw [e30, hI _ _, if_neg (by unfold bI; omega)]; rfl
      refine v_iadd dX8_own_31 ?_
      refine w_istore dX8_own_32 rfl rfl ?_
      refine w_iload dX8_own_34 rfl ?_
      refine w_iload dX8_own_36 rfl ?_
      refine v_callS2 dX8_own_38 lX8_30 vX8_isInside (by decide) rfl rfl (Nat.le_of_ble_eq_true rfl) ?_
      refine x8_isInside (by omega) (by omega) (fun q38 => ?_) (fun q38 => ?_)
      · refine v_if_eq 59 dX8_own_41 (by decide) (by decide) (fun q => absurd q (by decide)) (fun _ => ?_)
        refine w_aload_n dX8_own_44 rfl ?_
        refine v_getR (j := 144) dX8_own_45 fX8_15 ⟨by decide, rfl⟩ rfl rfl ?_
        refine w_iload dX8_own_48 rfl ?_
        refine w_bipush (v := iI 32) dX8_own_50 (by decide) ?_
        refine v_imul dX8_own_52 ?_
        refine w_iload dX8_own_53 rfl ?_
        refine v_iadd dX8_own_55 ?_
        refine w_iload dX8_own_56 rfl ?_
        refine v_iast dX8_own_58 ⟨by decide, rfl⟩ (by have i2 : 0 ≤ R + z19 ∧ R + z19 < 16 ∧ 0 ≤ C + z30 ∧ C + z30 < 32 := q38; omega) (by have i2 : 0 ≤ R + z19 ∧ R + z19 < 16 ∧ 0 ≤ C + z30 ∧ C + z30 < 32 := q38; omega) (by decide) ?_
        refine v_iinc dX8_own_59 rfl rfl rfl ?_
        refine w_goto 3 dX8_own_62 (by decide) ?_
        refine w_keep 6 ?_
        rw [show (j : Int) + 1 = ((j + 1 : Nat) : Int) by omega]
        first
          | exact ih (j + 1) _ (by omega) (by omega) (pntM_in hB (by omega) (by rw [f19]) (by rw [f30]) q38 rfl bo hI)
          | exact ih (j + 1) _ (by omega) (by omega) (pntM_out hB (by omega) (by rw [f19]) (by rw [f30]) q38 hI)
      · refine v_if_eq 59 dX8_own_41 (by decide) (by decide) (fun _ => ?_) (fun q => absurd q (by decide))
        refine v_iinc dX8_own_59 rfl rfl rfl ?_
        refine w_goto 3 dX8_own_62 (by decide) ?_
        refine w_keep 6 ?_
        rw [show (j : Int) + 1 = ((j + 1 : Nat) : Int) by omega]
        first
          | exact ih (j + 1) _ (by omega) (by omega) (pntM_in hB (by omega) (by rw [f19]) (by rw [f30]) q38 rfl bo hI)
          | exact ih (j + 1) _ (by omega) (by omega) (pntM_out hB (by omega) (by rw [f19]) (by rw [f30]) q38 hI)
theorem x8_own {I : Nat → Nat → Int32} {J : Nat → Nat → Int64} {F : Option Value → zM → Prop} {b : Nat} (hb : b < 10) {ce : Nat → Int} {n : Nat} (hS : ∀ k, k < 50 → rd I (bI b 1) k = ce k) (hB : RBc I b ce n) {R C : Int} (hR : -1000 ≤ R ∧ R ≤ 1000) (hC : -1000 ≤ C ∧ C ≤ 1000) {o : Int} (bo : -2147483648 ≤ o ∧ o < 2147483648) (h : ∀ I', pnt I I' 144 ce R C (fun _ => o) → F none (gM I' J)) : Cl yX8_own kX8_own [.ref 142, .ref (bI b 0), .int (iI R), .int (iI C), .int (iI o)] (gM I J) F := by
  refine cl_s (by decide) (by decide) (Nat.le_of_ble_eq_true rfl) rt_v ?_
  show Wp _ F 0 [(0, .ref 142), (1, .ref (bI b 0)), (2, .int (iI R)), (3, .int (iI C)), (4, .int (iI o))] [] _
  refine w_iconst (v := iI 0) dX8_own_0 rfl ?_
  refine w_istore dX8_own_1 rfl rfl ?_
  exact x8_own_l hb hS hB hR hC bo h (n + 1) 0 I (by omega) (by omega) (pntM_0 hB)
