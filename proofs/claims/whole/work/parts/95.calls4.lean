/-! fibres, words, BITS: both -/
section CD
variable {I : Nat → Nat → Int32} {J : Nat → Nat → Int64}
theorem lyZ {q : Nat} (h : rd I 177 q = 0) : ¬ lyB I q := fun u => u h
theorem cal_fibre (h : Inv I J) {b ac i v : Int} (bb : -2147483648 ≤ b ∧ b < 2147483648) (bi : -2147483648 ≤ i ∧ i < 2147483648) (bv : -2147483648 ≤ v ∧ v < 2147483648) (hac : ac = 0 ∨ ac = 1) : both yX11_fibre kX11_fibre yX12_fibre kX12_fibre [.int (iI b), .int (iI ac), .int (iI i), .int (iI v)] I J := by
  have H := h.2.1
  refine x11_fibre bb bi bv hac (fun g => ?_) (fun q e1 e2 e3 e4 e5 e6 => ?_) (fun q e1 e2 e3 e4 e5 e6 => ?_)
  · refine x12_fibre bb bi bv hac (fun _ => sameA_mk h) (fun q e1 e2 e3 e4 e5 e6 => ?_) (fun q e1 e2 e3 e4 e5 e6 => ?_)
    · exact absurd e5 (g q e1 e2 ((H q e2).1.2.1.mpr e3) (by rw [(H q e2).2.1.1]; exact e4))
    · exact absurd e5 (g q e1 e2 ((H q e2).1.2.1.mpr e3) (by rw [(H q e2).2.1.1]; exact e4))
  · have e3' := (H q e2).1.2.1.mp e3
    have e4' : rd I 177 q = 0 := by rw [← (H q e2).2.1.1]; exact e4
    have bq := bI_ne e2 (show 7 < 13 by decide)
    have i5 : i < 5 := e5.2.2.2.2 (by omega)
    refine x12_fibre bb bi bv hac (fun g => ?_) (fun q' f1 f2 f3 f4 f5 f6 => ?_) (fun q' f1 f2 f3 f4 f5 f6 => absurd f6 (by omega))
    · exact absurd e5 (g q e1 e2 (by rw [rd_wr_row (by omega)]; exact e3') (by rw [rd_wr_row (by omega)]; exact e4'))
    · have eq : q' = q := by omega
      subst eq
      rw [rd_wr_row (show 175 ≠ bI q' 7 by omega)]
      refine sameA_mk2 ((H q' e2).1.2.2.2.1 _ (by omega)) ?_
      have x1 : ∀ id k, ¬ (id = bI q' 7 ∧ k = i.toNat) → ¬ (id = 175 ∧ k = 5 * q' + i.toNat) → rd (wr (wr I (bI q' 7) i.toNat v) 175 (5 * q' + i.toNat) v) id k = rd I id k := fun id k u w => by rw [rd_wr_ne w, rd_wr_ne u]
      have m7 : ∀ s, s ≠ 7 → bI q' s ≠ bI q' 7 := fun s u w => u (by unfold bI at w; omega)
      obtain ⟨c1, c2, c3⟩ := H q' e2
      refine Inv_bit h e2 (lyZ e4') (lyZ (by rw [x1 _ _ (by omega) (by omega)]; exact e4')) (fun id k u => x1 id k (fun w => u (Or.inl (by unfold bt bI at *; omega))) (fun w => u (Or.inl (by unfold bt; omega)))) (tap_of h (fun id k u => x1 id k (by unfold tp at u; omega) (by unfold tp at u; omega))) ⟨?_, ?_, fun u => ?_, fun k hk => ?_, fun k hk => ?_⟩ (lyR_fr c2 (fun k _ _ => x1 _ _ (fun w => m7 0 (by decide) w.1) (by have := bI_ne e2 (show 0 < 13 by decide); omega)) (x1 _ _ (by omega) (by omega)) (x1 _ _ (by omega) (by omega)) (fun _ => ⟨x1 _ _ (by omega) (by omega), x1 _ _ (by omega) (by omega)⟩)) (hoR_fr c3 (x1 _ _ (fun w => m7 0 (by decide) w.1) (by have := bI_ne e2 (show 0 < 13 by decide); omega)) (x1 _ _ (by omega) (by omega)) (fun k => x1 _ _ (fun w => m7 12 (by decide) w.1) (by have := bI_ne e2 (show 12 < 13 by decide); omega)) (fun k _ => x1 _ _ (by omega) (by omega))) (rg_cg h.2.2.1 (fun k => x1 _ _ (by omega) (by omega)) (fun k => x1 _ _ (by omega) (by omega)))
      · rw [x1 _ _ (fun w => m7 0 (by decide) w.1) (by have := bI_ne e2 (show 0 < 13 by decide); omega)]; exact c1.1
      · rw [x1 _ _ (fun w => m7 0 (by decide) w.1) (by have := bI_ne e2 (show 0 < 13 by decide); omega), x1 _ _ (by omega) (by omega)]; exact c1.2.1
      · refine RB_cg (RB_fr (c1.2.2.1 e3') (fun k hk => x1 _ _ (fun w => m7 0 (by decide) w.1) (by have := bI_ne e2 (show 0 < 13 by decide); omega)) (fun r k hr => x1 _ _ (fun w => m7 r (by omega) w.1) (by have := bI_ne e2 (show r < 13 by omega); omega))) (fun k hk => ?_)
        exact (x1 174 _ (by omega) (by omega)).symm
      · rw [rd_wr_row (by omega), rd_wr (by omega) (by omega), rd_wr (by omega) (by omega)]
        by_cases w : k = i.toNat
        · rw [if_pos ⟨rfl, w⟩, if_pos ⟨rfl, by omega⟩]
        · rw [if_neg (fun u => w u.2), if_neg (by omega), rd_wr_row (by omega)]; exact c1.2.2.2.1 k hk
      · rw [x1 _ _ (fun w => m7 10 (by decide) w.1) (by have := bI_ne e2 (show 10 < 13 by decide); omega), x1 _ _ (by omega) (by omega)]; exact c1.2.2.2.2 k hk
  · have e3' := (H q e2).1.2.1.mp e3
    have e4' : rd I 177 q = 0 := by rw [← (H q e2).2.1.1]; exact e4
    have bq := bI_ne e2 (show 10 < 13 by decide)
    have i5 : i < 10 := e5.2.2.2.1 (by omega)
    refine x12_fibre bb bi bv hac (fun g => ?_) (fun q' f1 f2 f3 f4 f5 f6 => absurd f6 (by omega)) (fun q' f1 f2 f3 f4 f5 f6 => ?_)
    · exact absurd e5 (g q e1 e2 (by rw [rd_wr_row (by omega)]; exact e3') (by rw [rd_wr_row (by omega)]; exact e4'))
    · have eq : q' = q := by omega
      subst eq
      rw [rd_wr_row (show 176 ≠ bI q' 10 by omega)]
      refine sameA_mk2 ((H q' e2).1.2.2.2.2 _ (by omega)) ?_
      have x1 : ∀ id k, ¬ (id = bI q' 10 ∧ k = i.toNat) → ¬ (id = 176 ∧ k = 10 * q' + i.toNat) → rd (wr (wr I (bI q' 10) i.toNat v) 176 (10 * q' + i.toNat) v) id k = rd I id k := fun id k u w => by rw [rd_wr_ne w, rd_wr_ne u]
      have m7 : ∀ s, s ≠ 10 → bI q' s ≠ bI q' 10 := fun s u w => u (by unfold bI at w; omega)
      obtain ⟨c1, c2, c3⟩ := H q' e2
      refine Inv_bit h e2 (lyZ e4') (lyZ (by rw [x1 _ _ (by omega) (by omega)]; exact e4')) (fun id k u => x1 id k (fun w => u (Or.inl (by unfold bt bI at *; omega))) (fun w => u (Or.inl (by unfold bt; omega)))) (tap_of h (fun id k u => x1 id k (by unfold tp at u; omega) (by unfold tp at u; omega))) ⟨?_, ?_, fun u => ?_, fun k hk => ?_, fun k hk => ?_⟩ (lyR_fr c2 (fun k _ _ => x1 _ _ (fun w => m7 0 (by decide) w.1) (by have := bI_ne e2 (show 0 < 13 by decide); omega)) (x1 _ _ (by omega) (by omega)) (x1 _ _ (by omega) (by omega)) (fun _ => ⟨x1 _ _ (by omega) (by omega), x1 _ _ (by omega) (by omega)⟩)) (hoR_fr c3 (x1 _ _ (fun w => m7 0 (by decide) w.1) (by have := bI_ne e2 (show 0 < 13 by decide); omega)) (x1 _ _ (by omega) (by omega)) (fun k => x1 _ _ (fun w => m7 12 (by decide) w.1) (by have := bI_ne e2 (show 12 < 13 by decide); omega)) (fun k _ => x1 _ _ (by omega) (by omega))) (rg_cg h.2.2.1 (fun k => x1 _ _ (by omega) (by omega)) (fun k => x1 _ _ (by omega) (by omega)))
      · rw [x1 _ _ (fun w => m7 0 (by decide) w.1) (by have := bI_ne e2 (show 0 < 13 by decide); omega)]; exact c1.1
      · rw [x1 _ _ (fun w => m7 0 (by decide) w.1) (by have := bI_ne e2 (show 0 < 13 by decide); omega), x1 _ _ (by omega) (by omega)]; exact c1.2.1
      · refine RB_cg (RB_fr (c1.2.2.1 e3') (fun k hk => x1 _ _ (fun w => m7 0 (by decide) w.1) (by have := bI_ne e2 (show 0 < 13 by decide); omega)) (fun r k hr => x1 _ _ (fun w => m7 r (by omega) w.1) (by have := bI_ne e2 (show r < 13 by omega); omega))) (fun k hk => ?_)
        exact (x1 174 _ (by omega) (by omega)).symm
      · rw [x1 _ _ (fun w => m7 7 (by decide) w.1) (by have := bI_ne e2 (show 7 < 13 by decide); omega), x1 _ _ (by omega) (by omega)]; exact c1.2.2.2.1 k hk
      · rw [rd_wr_row (by omega), rd_wr (by omega) (by omega), rd_wr (by omega) (by omega)]
        by_cases w : k = i.toNat
        · rw [if_pos ⟨rfl, w⟩, if_pos ⟨rfl, by omega⟩]
        · rw [if_neg (fun u => w u.2), if_neg (by omega), rd_wr_row (by omega)]; exact c1.2.2.2.2 k hk
theorem cal_word (h : Inv I J) : both yX11_word kX11_word yX12_word kX12_word [] I J := by
  obtain ⟨t, t2, t1, t3, te⟩ := id h.1
  obtain ⟨wn, w⟩ := id h.2.2.2.2.2.1
  have w12 := w.le
  have lt : (∀ k, k < t → isLt (rd I 2 k)) ↔ ∀ k, k < t → isLt (rd I 172 k) := ⟨fun u k hk => by rw [← te k hk]; exact u k hk, fun u k hk => by rw [te k hk]; exact u k hk⟩
  refine x11_word t1 t2 w.c w12 (fun g => ?_) (fun g J1 p1 p2 p3 p4 => ?_)
  · refine x12_word (t := t) (by rw [rd_wr_row (by decide)]; exact t3) t2 (by rw [rd_wr_row (by decide)]; exact w.r) w12 (fun _ => sameA_mk (Inv_tp h (fun id k u => ?_) ⟨0, by omega, ?_, ?_, fun k hk => by omega⟩)) (fun g2 => absurd ⟨g2.1, g2.2.1, g2.2.2.1, lt.mpr (fun k hk => by have := g2.2.2.2 k hk; rw [rd_wr_row (by decide)] at this; exact this)⟩ g)
    · rw [rd_wr_ne (by unfold tp at u; omega), rd_wr_ne (by unfold tp at u; omega)]
    · rw [rd_wr_row (by decide), rd_wr_eq (by decide) (by decide)]; rfl
    · rw [rd_wr_eq (by decide) (by decide)]; rfl
  · have a1 : ∀ id k, ¬ (id = 134 ∧ k = 0) → ¬ (id = 1 ∧ k = 1) → rd (wr (wr I 134 0 ((wn : Int) + 1)) 1 1 0) id k = rd I id k := fun id k u v => by rw [rd_wr_ne v, rd_wr_ne u]
    refine x12_word (t := t) (by rw [a1 _ _ (by omega) (by omega)]; exact t3) t2 (by rw [a1 _ _ (by omega) (by omega)]; exact w.r) w12 (fun g2 => absurd ⟨g.1, g.2.1, g.2.2.1, fun k hk => by rw [a1 _ _ (by omega) (by omega)]; exact lt.mp g.2.2.2 k hk⟩ g2) (fun g2 I2 ⟨d1, d2, d3, d4, d5⟩ => ?_)
    have x2 : ∀ id k, ¬ (id = 134 ∧ k = 0) → ¬ (id = 1 ∧ k = 1) → ¬ ((id = 171 ∧ (k = 1 ∨ k = 12)) ∨ (id = 183 ∧ k = wn) ∨ (id = 184 ∧ 10 * wn ≤ k ∧ k < 10 * wn + 10)) → rd I2 id k = rd I id k := fun id k u v z => by rw [d5 id k z, a1 id k u v]
    refine sameA_mk (Inv_cf h (fun id k z => x2 id k (by unfold tp at z; omega) (by unfold tp at z; omega) (by unfold tp at z; omega)) ⟨0, by omega, ?_, d1, fun k hk => by omega⟩ (rol_of h (fun id k z => x2 id k (by unfold rl at z; omega) (by unfold rl at z; omega) (by unfold rl at z; omega))) (txt_of h (fun id k z => x2 id k (by unfold tx at z; omega) (by unfold tx at z; omega) (by unfold tx at z; omega))) ⟨wn + 1, wRL_word (tp := fun k => rd I 2 k) w g.2.2.1 g.1 g.2.1 g.2.2.2 ?_ d2 d3 (fun k hk => ?_) (fun v hv hv2 => x2 _ _ (by omega) (by omega) (by omega)) (fun k hk hk2 => x2 _ _ (by omega) (by omega) (by omega)) p1 p2 p3 p4⟩)
    · rw [d5 _ _ (by omega), rd_wr_eq (by decide) (by decide)]; rfl
    · rw [d5 _ _ (by omega), rd_wr_ne (by omega), rd_wr_eq (by omega) (by omega)]
    · show rd I2 184 (10 * wn + k) = rd I 2 k
      rw [d4 k hk, a1 _ _ (by omega) (by omega), te k hk]
end CD
