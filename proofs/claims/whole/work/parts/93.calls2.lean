/-! holes, places in the roll, times in the text, cells: both -/
section CB
variable {I : Nat → Nat → Int32} {J : Nat → Nat → Int64}
theorem SB_cg {P P' H H' : Nat → Int} {c m h : Nat} (hh : h < c) (hm : 1 ≤ m) (hP : ∀ k, k < c → P k = P' k) (hH : ∀ k, k < m → H k = H' k) : SB P H c m h ↔ SB P' H' c m h := by
  have e1 := hP h hh
  have e2 := hH 0 hm
  have e3 : h ≠ 0 → P (h - 1) = P' (h - 1) := fun _ => hP (h - 1) (by omega)
  constructor
  · rintro ⟨a, b, d⟩
    refine ⟨by rw [← e1, ← e2]; exact a, ?_, fun i hi => ?_⟩
    · by_cases z : h = 0
      · exact Or.inl z
      · rw [← e1, ← e2, ← e3 z]; exact b
    · have t := d i hi
      exact ⟨t.1, by rw [← hP _ t.1, ← e1, ← e2, ← hH i hi]; exact t.2⟩
  · rintro ⟨a, b, d⟩
    refine ⟨by rw [e1, e2]; exact a, ?_, fun i hi => ?_⟩
    · by_cases z : h = 0
      · exact Or.inl z
      · rw [e1, e2, e3 z]; exact b
    · have t := d i hi
      exact ⟨t.1, by rw [hP _ t.1, e1, e2, hH i hi]; exact t.2⟩
theorem cal_hole (h : Inv I J) {b d : Int} (bb : -2147483648 ≤ b ∧ b < 2147483648) (bd : -2147483648 ≤ d ∧ d < 2147483648) : both yX11_hole kX11_hole yX12_hole kX12_hole [.int (iI b), .int (iI d)] I J := by
  have H := h.2.1
  have hm : ∀ q : Nat, q < 10 → 0 ≤ rd I (bI q 0) 12 ∧ rd I (bI q 0) 12 ≤ 6 := fun q hq => by rw [(H q hq).2.2.1]; exact (H q hq).2.2.2.1
  have hc : ∀ q m : Nat, q < 10 → rd I 180 q = m → (hOK m (fun k => rd I (bI q 12) k) d ↔ hOK m (fun k => rd I 181 (6 * q + k)) d) := fun q m hq e => by
    have z : 0 < m → rd I (bI q 12) (m - 1) = rd I 181 (6 * q + (m - 1)) := fun u => ((H q hq).2.2.2.2.1 (m - 1) (by omega)).1
    unfold hOK
    constructor
    · rintro ⟨a1, a2, a3, a4⟩
      exact ⟨a1, a2, a3, fun u => by
        have w : rd I (bI q 12) (m - 1) < d := a4 u
        rw [z u] at w
        exact w⟩
    · rintro ⟨a1, a2, a3, a4⟩
      exact ⟨a1, a2, a3, fun u => by
        have w : rd I 181 (6 * q + (m - 1)) < d := a4 u
        rw [← z u] at w
        exact w⟩
  refine x11_hole bb bd hm (fun g => ?_) (fun q m e1 e2 e3 e4 e5 => ?_)
  · refine x12_hole bb bd (fun q hq => (H q hq).2.2.2.1) (fun _ => sameA_mk h) (fun q m e1 e2 e3 e4 e5 => ?_)
    exact absurd ((hc q m e2 e4).mpr e5) (g q m e1 e2 ((H q e2).1.2.1.mpr e3) (by rw [(H q e2).2.2.1]; exact e4))
  · have e4' : rd I 180 q = m := by rw [← (H q e2).2.2.1]; exact e4
    have bq := bI_ne e2 (show 0 < 13 by decide)
    have br := bI_ne e2 (show 12 < 13 by decide)
    have nq : bI q 12 ≠ bI q 0 := by unfold bI; omega
    have x1 : ∀ id k, id ≠ bI q 12 → ¬ (id = bI q 0 ∧ k = 12) → rd (wr (wr I (bI q 12) m d) (bI q 0) 12 ((m : Int) + 1)) id k = rd I id k := fun id k u v => by rw [rd_wr_ne v, rd_wr_row u]
    refine x12_hole bb bd (fun r hr => by rw [x1 _ _ (by omega) (by omega)]; exact (H r hr).2.2.2.1) (fun g => ?_) (fun q' m' f1 f2 f3 f4 f5 => ?_)
    · refine absurd ?_ (g q m e1 e2 (by rw [x1 _ _ (by omega) (by omega)]; exact (H q e2).1.2.1.mp e3) (by rw [x1 _ _ (by omega) (by omega)]; exact e4'))
      have x181 : (fun k => rd (wr (wr I (bI q 12) m d) (bI q 0) 12 ((m : Int) + 1)) 181 (6 * q + k)) = (fun k => rd I 181 (6 * q + k)) := funext fun k => x1 181 _ (by omega) (by omega)
      rw [x181]
      exact (hc q m e2 e4').mp e5
    · have eq : q' = q := by omega
      subst eq
      rw [x1 _ _ (by omega) (by omega)] at f4
      have em : m' = m := by omega
      subst em
      have k5 := (hc q' m' e2 e4').mp e5
      refine sameA_mk ?_
      have xa : ∀ id k, id ≠ bI q' 12 → ¬ (id = bI q' 0 ∧ k = 12) → ¬ (id = 181 ∧ k = 6 * q' + m') → ¬ (id = 180 ∧ k = q') → rd (wr (wr (wr (wr I (bI q' 12) m' d) (bI q' 0) 12 ((m' : Int) + 1)) 181 (6 * q' + m') d) 180 q' ((m' : Int) + 1)) id k = rd I id k := fun id k u v w z => by rw [rd_wr_ne z, rd_wr_ne w, x1 id k u v]
      have d0 := e5.1
      have d1 := e5.2.1
      have m6 := e5.2.2.1
      obtain ⟨ht, hb2, hg, hro, htx, hls, hhs, hly⟩ := h
      refine ⟨tapR_fr ht (xa _ _ (by omega) (by omega) (by omega) (by omega)) (xa _ _ (by omega) (by omega) (by omega) (by omega)) (fun k => xa _ _ (by omega) (by omega) (by omega) (by omega)) (fun k => xa _ _ (by omega) (by omega) (by omega) (by omega)), fun r hr => ?_, rg_cg hg (fun k => xa _ _ (by omega) (by omega) (by omega) (by omega)) (fun k => xa _ _ (by omega) (by omega) (by omega) (by omega)), rolR_fr hro (xa _ _ (by omega) (by omega) (by omega) (by omega)) (xa _ _ (by omega) (by omega) (by omega) (by omega)) (fun k => xa _ _ (by omega) (by omega) (by omega) (by omega)) (fun k => xa _ _ (by omega) (by omega) (by omega) (by omega)), txtR_fr htx (xa _ _ (by omega) (by omega) (by omega) (by omega)) (xa _ _ (by omega) (by omega) (by omega) (by omega)) (fun k => xa _ _ (by omega) (by omega) (by omega) (by omega)) (fun k => xa _ _ (by omega) (by omega) (by omega) (by omega)), ?_, ?_, ?_⟩
      · obtain ⟨b1, b2, b3⟩ := hb2 r hr
        have y : ∀ s k, s < 12 → ¬ (s = 0 ∧ k = 12) → rd (wr (wr (wr (wr I (bI q' 12) m' d) (bI q' 0) 12 ((m' : Int) + 1)) 181 (6 * q' + m') d) 180 q' ((m' : Int) + 1)) (bI r s) k = rd I (bI r s) k := fun s k hs hk => xa _ _ (by unfold bI; omega) (by unfold bI; omega) (by have := bI_ne hr (show s < 13 by omega); omega) (by have := bI_ne hr (show s < 13 by omega); omega)
        refine ⟨ceR_fr b1 (fun k hk => y 0 k (by omega) (by omega)) (fun s k hs1 hs2 => y s k (by omega) (by omega)) (xa _ _ (by omega) (by omega) (by omega) (by omega)) (fun k => xa _ _ (by omega) (by omega) (by omega) (by omega)) (fun k => xa _ _ (by omega) (by omega) (by omega) (by omega)) (fun k => xa _ _ (by omega) (by omega) (by omega) (by omega)), lyR_fr b2 (fun k h1 h2 => y 0 k (by omega) (by omega)) (xa _ _ (by omega) (by omega) (by omega) (by omega)) (xa _ _ (by omega) (by omega) (by omega) (by omega)) (fun _ => ⟨xa _ _ (by omega) (by omega) (by omega) (by omega), xa _ _ (by omega) (by omega) (by omega) (by omega)⟩), ?_⟩
        by_cases er : r = q'
        · subst er
          have v180 : rd (wr (wr (wr (wr I (bI r 12) m' d) (bI r 0) 12 ((m' : Int) + 1)) 181 (6 * r + m') d) 180 r ((m' : Int) + 1)) 180 r = (m' : Int) + 1 := rd_wr_eq (by omega) (by omega)
          have v12 : rd (wr (wr (wr (wr I (bI r 12) m' d) (bI r 0) 12 ((m' : Int) + 1)) 181 (6 * r + m') d) 180 r ((m' : Int) + 1)) (bI r 0) 12 = (m' : Int) + 1 := by
            rw [rd_wr_row (by omega), rd_wr_row (by omega), rd_wr_eq (by omega) (by omega)]
          have vh : ∀ k, rd (wr (wr (wr (wr I (bI r 12) m' d) (bI r 0) 12 ((m' : Int) + 1)) 181 (6 * r + m') d) 180 r ((m' : Int) + 1)) (bI r 12) k = if k = m' then d else rd I (bI r 12) k := fun k => by
            rw [rd_wr_row (by omega), rd_wr_row (by omega), rd_wr_row nq, rd_wr (by omega) (by omega)]
            by_cases w : k = m'
            · rw [if_pos ⟨rfl, w⟩, if_pos w]
            · rw [if_neg (fun u => w u.2), if_neg w]
          have vr : ∀ k, rd (wr (wr (wr (wr I (bI r 12) m' d) (bI r 0) 12 ((m' : Int) + 1)) 181 (6 * r + m') d) 180 r ((m' : Int) + 1)) 181 (6 * r + k) = if k = m' then d else rd I 181 (6 * r + k) := fun k => by
            rw [rd_wr_row (by decide), rd_wr (by omega) (by omega)]
            by_cases w : k = m'
            · rw [if_pos ⟨rfl, by omega⟩, if_pos w]
            · rw [if_neg (by omega), if_neg w, rd_wr_row (by omega), rd_wr_row (by omega)]
          obtain ⟨c1, c2, c3, c4⟩ := b3
          refine ⟨by rw [v12, v180], by rw [v180]; omega, fun k hk => ?_, fun i j hij hj => ?_⟩
          · rw [v180] at hk
            rw [vh, vr]
            by_cases w : k = m'
            · rw [if_pos w, if_pos w]; exact ⟨rfl, d0, d1⟩
            · rw [if_neg w, if_neg w]; exact c3 k (by omega)
          · rw [v180] at hj
            rw [vr, vr, if_neg (show ¬ i = m' by omega)]
            by_cases w : j = m'
            · rw [if_pos w]
              have l := k5.2.2.2 (by omega)
              by_cases w2 : i = m' - 1
              · rw [w2]; exact l
              · have := c4 i (m' - 1) (by omega) (by omega)
                have l2 : rd I 181 (6 * r + (m' - 1)) < d := l
                omega
            · rw [if_neg w]; exact c4 i j hij (by omega)
        · exact hoR_fr b3 (xa _ _ (by unfold bI; omega) (by unfold bI; omega) (by have := bI_ne hr (show 0 < 13 by decide); omega) (by have := bI_ne hr (show 0 < 13 by decide); omega)) (xa _ _ (by omega) (by omega) (by omega) (by omega)) (fun k => xa _ _ (by unfold bI; omega) (by unfold bI; omega) (by have := bI_ne hr (show 12 < 13 by decide); omega) (by have := bI_ne hr (show 12 < 13 by decide); omega)) (fun k hk => xa _ _ (by omega) (by omega) (by omega) (by omega))
      · obtain ⟨wn, w⟩ := hls
        exact ⟨wn, wRL_fr w (xa _ _ (by unfold bI; omega) (by unfold bI; omega) (by omega) (by omega)) (xa _ _ (by omega) (by omega) (by omega) (by omega)) (fun k _ => xa _ _ (by omega) (by omega) (by omega) (by omega)) (fun k _ => xa _ _ (by omega) (by omega) (by omega) (by omega)) (fun _ _ _ _ => rfl)⟩
      · have z : ∀ id k, 173 ≤ id ∧ id ≤ 179 → rd (wr (wr (wr (wr I (bI q' 12) m' d) (bI q' 0) 12 ((m' : Int) + 1)) 181 (6 * q' + m') d) 180 q' ((m' : Int) + 1)) id k = rd I id k := fun id k hid => xa _ _ (by omega) (by omega) (by omega) (by omega)
        exact Hs_fr hhs ⟨fun b _ => z _ _ (by omega), fun b _ _ => ⟨fun k _ => z _ _ (by omega), fun k _ => z _ _ (by omega), fun k _ => z _ _ (by omega), z _ _ (by omega), z _ _ (by omega)⟩⟩ (fun id k h1 h2 => xa _ _ (by omega) (by omega) (by omega) (by omega))
      · exact lyN_fr hly (xa _ _ (by omega) (by omega) (by omega) (by omega)) (fun k _ => xa _ _ (by omega) (by omega) (by omega) (by omega))
/-- nothing but what was counted -/
theorem Inv_27 {I' : Nat → Nat → Int32} (h : Inv I J) (hx : ∀ id k, ¬ (id = 171 ∧ k = 27) → rd I' id k = rd I id k) : Inv I' J := Inv_sc h (fun id k u => hx id k (fun v => u (by unfold scr; omega))) (fun _ _ _ _ => rfl) (rg_cg h.2.2.1 (fun k => hx _ _ (by omega)) (fun k => hx _ _ (by omega)))
theorem cal_stood (h : Inv I J) {b : Int} (bb : -2147483648 ≤ b ∧ b < 2147483648) : both yX11_stood kX11_stood yX12_stood kX12_stood [.int (iI b)] I J := by
  have H := h.2.1
  obtain ⟨c, c1, c2, c3, c4, c5⟩ := id h.2.2.2.1
  have hm : ∀ q : Nat, q < 10 → 0 ≤ rd I (bI q 0) 12 ∧ rd I (bI q 0) 12 ≤ 6 := fun q hq => by rw [(H q hq).2.2.1]; exact (H q hq).2.2.2.1
  have hH : ∀ q k : Nat, q < 10 → (k : Int) < rd I (bI q 0) 12 → 0 ≤ rd I (bI q 12) k ∧ rd I (bI q 12) k ≤ 2000 := fun q k hq hk => by
    rw [(H q hq).2.2.1] at hk
    have := (H q hq).2.2.2.2.1 k hk
    rw [this.1]; exact this.2
  have hm' : ∀ q : Nat, q < 10 → 0 ≤ rd I 180 q ∧ rd I 180 q ≤ 6 := fun q hq => (H q hq).2.2.2.1
  have hH' : ∀ q k : Nat, q < 10 → (k : Int) < rd I 180 q → 0 ≤ rd I 181 (6 * q + k) ∧ rd I 181 (6 * q + k) ≤ 2000 := fun q k hq hk => ((H q hq).2.2.2.2.1 k hk).2
  have hHm : ∀ q m i : Nat, q < 10 → rd I 180 q = m → i < m → rd I 181 (6 * q + i) ≤ rd I 181 (6 * q + (m - 1)) := fun q m i hq e hi => by
    by_cases w : i = m - 1
    · rw [w]; exact Int.le_refl _
    · exact Int.le_of_lt ((H q hq).2.2.2.2.2 i (m - 1) (by omega) (by omega))
  refine x11_stood bb c2 c1 (fun k hk => by rw [(c4 k hk).1]; exact (c4 k hk).2) hm hH (fun g => ?_) (fun q m e1 e2 e3 e4 e5 e6 => ?_)
  · refine x12_stood bb c3 c1 (fun k hk => (c4 k hk).2) c5 hm' hH' hHm (fun _ => sameA_mk h) (fun q m e1 e2 e3 e4 e5 e6 => ?_)
    have := g q m e1 e2 ((H q e2).1.2.1.mpr e3) (by rw [(H q e2).2.2.1]; exact e4)
    omega
  · refine x12_stood bb c3 c1 (fun k hk => (c4 k hk).2) c5 hm' hH' hHm (fun g => ?_) (fun q' m' f1 f2 f3 f4 f5 f6 I' x' => ?_)
    · have := g q m e1 e2 ((H q e2).1.2.1.mp e3) (by rw [← (H q e2).2.2.1]; exact e4)
      omega
    · have eq : q' = q := by omega
      subst eq
      have em : m' = m := by have := (H q' e2).2.2.1; omega
      subst em
      refine sameA_mk2 (cn_cong fun k hk => ?_) (Inv_27 h x')
      have := SB_cg (P := fun k => rd I 168 k) (P' := fun k => rd I 188 k) (H := fun k => rd I (bI q' 12) k) (H' := fun k => rd I 181 (6 * q' + k)) hk e5 (fun k hk => (c4 k hk).1) (fun k hk => ((H q' e2).2.2.2.2.1 k (by omega)).1)
      simp only [this]
theorem cal_standing (h : Inv I J) {b t : Int} (bb : -2147483648 ≤ b ∧ b < 2147483648) (bt : -2147483648 ≤ t ∧ t < 2147483648) : both yX11_standing kX11_standing yX12_standing kX12_standing [.int (iI b), .int (iI t)] I J := by
  have H := h.2.1
  obtain ⟨c, c1, c2, c3, c4, c5⟩ := id h.2.2.2.1
  have hm : ∀ q : Nat, q < 10 → 0 ≤ rd I (bI q 0) 12 ∧ rd I (bI q 0) 12 ≤ 6 := fun q hq => by rw [(H q hq).2.2.1]; exact (H q hq).2.2.2.1
  have hH : ∀ q k : Nat, q < 10 → (k : Int) < rd I (bI q 0) 12 → 0 ≤ rd I (bI q 12) k ∧ rd I (bI q 12) k ≤ 2000 := fun q k hq hk => by
    rw [(H q hq).2.2.1] at hk
    have := (H q hq).2.2.2.2.1 k hk
    rw [this.1]; exact this.2
  have hm' : ∀ q : Nat, q < 10 → 0 ≤ rd I 180 q ∧ rd I 180 q ≤ 6 := fun q hq => (H q hq).2.2.2.1
  have hH' : ∀ q k : Nat, q < 10 → (k : Int) < rd I 180 q → 0 ≤ rd I 181 (6 * q + k) ∧ rd I 181 (6 * q + k) ≤ 2000 := fun q k hq hk => ((H q hq).2.2.2.2.1 k hk).2
  have hHm : ∀ q m i : Nat, q < 10 → rd I 180 q = m → i < m → rd I 181 (6 * q + i) ≤ rd I 181 (6 * q + (m - 1)) := fun q m i hq e hi => by
    by_cases w : i = m - 1
    · rw [w]; exact Int.le_refl _
    · exact Int.le_of_lt ((H q hq).2.2.2.2.2 i (m - 1) (by omega) (by omega))
  refine x11_standing bb bt c2 c1 (fun k hk => by rw [(c4 k hk).1]; exact (c4 k hk).2) hm hH (fun g => ?_) (fun q m e1 e2 e3 e4 e5 e6 => ?_)
  · refine x12_standing bb bt c3 c1 (fun k hk => (c4 k hk).2) c5 hm' hH' hHm (fun _ => sameA_mk h) (fun q m e1 e2 e3 e4 e5 e6 e7 => ?_)
    have := g q m e1 e2 ((H q e2).1.2.1.mpr e3) (by rw [(H q e2).2.2.1]; exact e4)
    omega
  · by_cases c0 : c = 0
    · have k0 : kf (fun h => decide (SB (fun k => rd I 168 k) (fun k => rd I (bI q 12) k) c m h)) (fun h => rd I 168 h - rd I (bI q 12) 0) t (-1) c = -1 := by rw [c0]; rfl
      rw [k0]
      refine x12_standing bb bt c3 c1 (fun k hk => (c4 k hk).2) c5 hm' hH' hHm (fun _ => sameA_mk h) (fun q' m' f1 f2 f3 f4 f5 f6 f7 => ?_)
      omega
    · refine x12_standing bb bt c3 c1 (fun k hk => (c4 k hk).2) c5 hm' hH' hHm (fun g => ?_) (fun q' m' f1 f2 f3 f4 f5 f6 f7 I' x' => ?_)
      · have := g q m e1 e2 ((H q e2).1.2.1.mp e3) (by rw [← (H q e2).2.2.1]; exact e4)
        omega
      · have eq : q' = q := by omega
        subst eq
        have em : m' = m := by have := (H q' e2).2.2.1; omega
        subst em
        refine sameA_mk2 (kf_cong (fun k hk => ?_) (fun k hk => ?_)) (Inv_27 h x')
        · have := SB_cg (P := fun k => rd I 168 k) (P' := fun k => rd I 188 k) (H := fun k => rd I (bI q' 12) k) (H' := fun k => rd I 181 (6 * q' + k)) hk e5 (fun k hk => (c4 k hk).1) (fun k hk => ((H q' e2).2.2.2.2.1 k (by omega)).1)
          simp only [this]
        · show rd I 168 k - rd I (bI q' 12) 0 = rd I 188 k - rd I 181 (6 * q')
          have := ((H q' e2).2.2.2.2.1 0 (by omega)).1
          rw [(c4 k hk).1, this]
          rfl
end CB
