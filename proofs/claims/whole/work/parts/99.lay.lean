/-! lay: both -/
theorem pl_pn {I : Nat → Nat → Int32} {q : Nat} {R C : Int} (h : -5 < R ∧ R < 16 ∧ -10 < C ∧ C < 32) : pl I q (pn R C) = wr (wr (wr I 177 q 1) 178 q R) 179 q C := by
  have p := pn_rc h
  have e : pl I q (pn R C) = wr (wr (wr I 177 q 1) 178 q (plR (pn R C))) 179 q (plC (pn R C)) := rfl
  rw [e, p.1, p.2.1]
theorem rd_3 {I : Nat → Nat → Int32} {q : Nat} {R C : Int} (h : -5 < R ∧ R < 16 ∧ -10 < C ∧ C < 32) (id k : Nat) : rd (wr (wr (wr I 177 q 1) 178 q R) 179 q C) id k = if id = 179 ∧ k = q then C else if id = 178 ∧ k = q then R else if id = 177 ∧ k = q then 1 else rd I id k := by
  rw [rd_wr (by omega) (by omega), rd_wr (by omega) (by omega), rd_wr (by omega) (by omega)]
section CH
variable {I : Nat → Nat → Int32} {J : Nat → Nat → Int64}
/-- BIT q put in both -/
theorem Inv_put {I1 I2 : Nat → Nat → Int32} {J' : Nat → Nat → Int64} {q wn : Nat} {R C : Int} (h : Inv I J) (hq : q < 10) (hb1 : rd I 173 q ≠ 0) (h0 : ¬ lyB I q) (rng : -5 < R ∧ R < 16 ∧ -10 < C ∧ C < 32) (m : mL (pl I q (pn R C)) wn) (w : wPut I I1 q (rce I q) R C) (hx : ∀ id k, ¬ ((id = 177 ∨ id = 178 ∨ id = 179) ∧ k = q) → ¬ sc0 id k → rd I2 id k = rd I1 id k) (v7 : rd I2 177 q = 1) (v8 : rd I2 178 q = R) (v9 : rd I2 179 q = C) (hj : ∀ id k, id ≠ 140 → id ≠ 141 → J' id k = J id k) : Inv I2 J' := by
  have p := pn_rc rng
  have hb := Hb_of h hq hb1
  have bq := bI_ne hq (show 0 < 13 by decide)
  have w' : wPM I I1 q (rce I q) (plR (pn R C)) (plC (pn R C)) (fun k => cA (rce I q) (plR (pn R C)) (plC (pn R C)) ((k / 32 : Nat) : Int) ((k % 32 : Nat) : Int)) q 1 1 := by rw [p.1, p.2.1]; exact w
  have cl : ∀ id k, id ≤ 150 → rd I2 id k = rd I1 id k := fun id k u => hx id k (by omega) (by unfold sc0; omega)
  have rf : ∀ id k, (173 ≤ id ∧ id ≤ 181) ∨ id = 183 ∨ id = 184 → ¬ ((id = 177 ∨ id = 178 ∨ id = 179) ∧ k = q) → rd I2 id k = rd I id k := fun id k u v => by
    rw [hx id k v (by unfold sc0; omega)]
    exact w.fr id k (by omega) (by omega) (by omega)
  have ly : ∀ r, r ≠ q → (lyB I2 r ↔ lyB I r) := fun r hr => by unfold lyB; rw [rf 177 r (by omega) (by omega)]
  have l1 : lyB I2 q := by unfold lyB; rw [v7]; decide
  refine Inv_sh (Y := fun r => r = q) h (fun id k u => ?_) hj (fun r hr e => ?_) (keep_put hq p.2.2 h.2.2.2.2.2.2.1 hb h0 m w' (fun id k u1 u2 => cl id k (by omega)) (fun id k u => ?_)) (lyN_put hq h.2.2.2.2.2.2.2 h0 l1 ly (by rw [cl _ _ (by omega)]; exact w.ly)) (fun d hd => ?_)
  · rw [hx id k (fun v => u (Or.inl (Or.inr (Or.inr (Or.inl v))))) (fun v => u (Or.inr v))]
    exact w.fr id k (fun v => u (Or.inl (Or.inl v))) (fun v => u (Or.inl (Or.inr (Or.inr (Or.inr ⟨q, hq, rfl, v⟩))))) (fun v => u (Or.inl (Or.inr (Or.inl v))))
  · subst e
    have e13 : rd I2 (bI r 0) 13 = 1 := by rw [cl _ _ (by omega)]; exact w.lie
    have e14 : rd I2 (bI r 0) 14 = R := by rw [cl _ _ (by omega)]; exact w.ro
    have e15 : rd I2 (bI r 0) 15 = C := by rw [cl _ _ (by omega)]; exact w.co
    refine ⟨by rw [e13, v7], by rw [e14, e15]; omega, fun _ => ⟨by rw [rf 173 r (by omega) (by omega)]; exact hb1, ⟨by rw [e14, v8], by rw [e15, v9]⟩, ?_⟩⟩
    rw [v8, v9]; exact rng
  · rw [pl_pn rng, rd_3 rng]
    by_cases g9 : id = 179 ∧ k = q
    · rw [if_pos g9, g9.1, g9.2]; exact v9
    · rw [if_neg g9]
      by_cases g8 : id = 178 ∧ k = q
      · rw [if_pos g8, g8.1, g8.2]; exact v8
      · rw [if_neg g8]
        by_cases g7 : id = 177 ∧ k = q
        · rw [if_pos g7, g7.1, g7.2]; exact v7
        · rw [if_neg g7]; exact rf id k (by omega) (by omega)
  · by_cases e : d = q
    · rw [e, v8, v9]; omega
    · rw [rf 178 d (by omega) (by omega), rf 179 d (by omega) (by omega)]; exact h.2.2.1 d hd
set_option maxHeartbeats 4000000 in
theorem cal_lay (h : Inv I J) {b R C : Int} (bb : -2147483648 ≤ b ∧ b < 2147483648) (bR : -2147483648 ≤ R ∧ R < 2147483648) (bC : -2147483648 ≤ C ∧ C < 2147483648) : both yX11_lay kX11_lay yX12_lay kX12_lay [.int (iI b), .int (iI R), .int (iI C)] I J := by
  have H := h.2.1
  have sk := shK_of h
  have hs := h.2.2.2.2.2.2.1
  obtain ⟨wn, w⟩ := id h.2.2.2.2.2.1
  have l : ∀ q, q < 10 → (rd I (bI q 0) 13 = 0 ↔ rd I 177 q = 0) := fun q hq => by rw [(H q hq).2.1.1]
  refine x11_lay bb bR bC (hS_of h) (hB_of h) sk.1 sk.2.1 (by have := (lan_bd h).2.2; omega) w (hE_of h) (so_of h) (fun q hq => (H q hq).1.1) (fun g => ?_) (fun q e1 e2 e3 e4 cd J' j' I1 w1 => ?_) (fun q e1 e2 e3 e4 cd J' j' => ?_)
  · refine x12_lay bb bR bC (hR_of h) (hC_of h) w.r w.le w.2.2.2.1 (fun _ => sameA_mk h) (fun q e1 e2 e3 e4 => ?_) (fun q e1 e2 e3 e4 => ?_)
    · exact absurd ((l q e2).mpr e4) (g q e1 e2 ((H q e2).1.2.1.mpr e3))
    · exact absurd ((l q e2).mpr e4) (g q e1 e2 ((H q e2).1.2.1.mpr e3))
  · have e3' := (H q e2).1.2.1.mp e3
    have e4' := (l q e2).mp e4
    have rng := cd.1.1
    have p := pn_rc rng
    have mi := may_iff (I := I) (wn := wn) (p := pn R C) e2 hs (Hb_of h e2 e3') (lyZ e4') p.2.2
    rw [p.1, p.2.1] at mi
    have m := mi.mp ⟨cd.1, cd.2.1, cd.2.2.1, cd.2.2.2⟩
    have bq := bI_ne e2 (show 0 < 13 by decide)
    have f1 : ∀ id k, 151 ≤ id → rd I1 id k = rd I id k := fun id k u => w1.fr id k (by omega) (by omega) (by omega)
    have fr : fR (pl I q (pn R C)) (wr (wr (wr I1 177 q 1) 178 q R) 179 q C) := fun id k u => by
      rw [pl_pn rng, rd_3 rng, rd_3 rng, f1 id k (by omega)]
    refine x12_lay bb bR bC (fun d hd => by rw [f1 _ _ (by omega)]; exact hR_of h d hd) (fun d hd => by rw [f1 _ _ (by omega)]; exact hC_of h d hd) (by rw [f1 _ _ (by omega)]; exact w.r) w.le (fun v hv => by rw [f1 _ _ (by omega)]; exact w.2.2.2.1 v hv) (fun g => ?_) (fun q' g1 g2 g3 g4 g5 g6 I2 x2 => ?_) (fun q' g1 g2 g3 g4 g5 g6 => ?_)
    · exact absurd ⟨by omega, by omega, by omega, by omega⟩ (g q e1 e2 (by rw [f1 _ _ (by omega)]; exact e3') (by rw [f1 _ _ (by omega)]; exact e4'))
    · have eq : q' = q := by omega
      subst eq
      have y2 : ∀ id k, ¬ sc0 id k → rd I2 id k = rd (wr (wr (wr I1 177 q' 1) 178 q' R) 179 q' C) id k := fun id k u => x2 id k (fun v => u (by unfold sc0 S3 at *; omega))
      refine sameA_mk (Inv_put h e2 e3' (lyZ e4') rng m w1 (fun id k u v => ?_) ?_ ?_ ?_ j')
      · rw [y2 id k v, rd_3 rng, if_neg (fun z => u ⟨Or.inr (Or.inr z.1), z.2⟩), if_neg (fun z => u ⟨Or.inr (Or.inl z.1), z.2⟩), if_neg (fun z => u ⟨Or.inl z.1, z.2⟩)]
      · rw [y2 _ _ (by unfold sc0; omega), rd_3 rng, if_neg (by omega), if_neg (by omega), if_pos ⟨rfl, rfl⟩]
      · rw [y2 _ _ (by unfold sc0; omega), rd_3 rng, if_neg (by omega), if_pos ⟨rfl, rfl⟩]
      · rw [y2 _ _ (by unfold sc0; omega), rd_3 rng, if_pos ⟨rfl, rfl⟩]
    · have eq : q' = q := by omega
      subst eq
      exact absurd ((mL_R fr wn).mpr m) g6
  · have e3' := (H q e2).1.2.1.mp e3
    have e4' := (l q e2).mp e4
    by_cases rng : -5 < R ∧ R < 16 ∧ -10 < C ∧ C < 32
    · have p := pn_rc rng
      have mi := may_iff (I := I) (wn := wn) (p := pn R C) e2 hs (Hb_of h e2 e3') (lyZ e4') p.2.2
      rw [p.1, p.2.1, pl_pn rng] at mi
      refine x12_lay bb bR bC (hR_of h) (hC_of h) w.r w.le w.2.2.2.1 (fun g => ?_) (fun q' g1 g2 g3 g4 g5 g6 => ?_) (fun q' g1 g2 g3 g4 g5 g6 I2 x2 => ?_)
      · exact absurd ⟨by omega, by omega, by omega, by omega⟩ (g q e1 e2 e3' e4')
      · have eq : q' = q := by omega
        subst eq
        have := mi.mpr g6
        exact absurd ⟨this.1, this.2.1, this.2.2.1, this.2.2.2⟩ cd
      · have eq : q' = q := by omega
        subst eq
        have y2 : ∀ id k, ¬ S3 id k → rd (wr I2 177 q' 0) id k = if id = 177 ∧ k = q' then 0 else rd (wr (wr (wr I 177 q' 1) 178 q' R) 179 q' C) id k := fun id k u => by
          rw [rd_wr (by decide) (by decide), x2 id k u]
        refine sameA_mk (Inv_sc h (fun id k u => ?_) j' (fun d hd => ?_))
        · rw [y2 id k (fun v => u (by unfold scr S3 at *; omega))]
          by_cases z : id = 177 ∧ k = q'
          · rw [if_pos z, z.1, z.2, e4']
          · rw [if_neg z, rd_3 rng, if_neg (fun v => u (Or.inr (Or.inr (Or.inr (Or.inr (Or.inr (Or.inr ⟨Or.inr v.1, by rw [v.2]; exact lyZ e4'⟩))))))), if_neg (fun v => u (Or.inr (Or.inr (Or.inr (Or.inr (Or.inr (Or.inr ⟨Or.inl v.1, by rw [v.2]; exact lyZ e4'⟩))))))), if_neg z]
        · have := h.2.2.1 d hd
          rw [y2 178 d (by unfold S3; omega), y2 179 d (by unfold S3; omega), if_neg (by omega), if_neg (by omega), rd_3 rng, rd_3 rng, if_neg (show ¬ (178 = 179 ∧ d = q') by omega), if_neg (show ¬ (178 = 177 ∧ d = q') by omega), if_neg (show ¬ (179 = 178 ∧ d = q') by omega), if_neg (show ¬ (179 = 177 ∧ d = q') by omega)]
          constructor
          · split <;> omega
          · split <;> omega
    · refine x12_lay bb bR bC (hR_of h) (hC_of h) w.r w.le w.2.2.2.1 (fun _ => sameA_mk (Inv_J h j')) (fun q' g1 g2 g3 g4 g5 => ?_) (fun q' g1 g2 g3 g4 g5 => ?_)
      · exact absurd ⟨by omega, by omega, by omega, by omega⟩ rng
      · exact absurd ⟨by omega, by omega, by omega, by omega⟩ rng
end CH
