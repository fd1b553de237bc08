/-! the sheet looked at: both -/
abbrev nCe (I : Nat → Nat → Int32) (q : Nat) : Nat := (rd I (bI q 0) 4).toNat
section CE
variable {I : Nat → Nat → Int32} {J : Nat → Nat → Int64}
theorem Hb_of (h : Inv I J) {q : Nat} (hq : q < 10) (hb : rd I 173 q ≠ 0) : Hb I q (nCe I q) := by
  obtain ⟨c1, c2, c3⟩ := h.2.1 q hq
  obtain ⟨a, s, n, c, t, r⟩ := c1.2.2.1 hb
  have e : n = nCe I q := by unfold nCe; rw [c.1]; omega
  have n0 : rd I (bI q 0) 4 ≠ 0 := c1.2.1.mpr hb
  rw [c.1] at n0
  subst e
  exact ⟨⟨hq, a, c, r, by omega⟩, c1.2.2.2⟩
theorem cnt10 {P : Nat → Prop} [DecidablePred P] : 0 ≤ smN (fun b => if P b then (1 : Int) else 0) 10 ∧ smN (fun b => if P b then (1 : Int) else 0) 10 ≤ 10 := by
  have := smN_bd (f := fun b => if P b then (1 : Int) else 0) (m := 1) 10 (fun j _ => by show (0 : Int) ≤ (if P j then 1 else 0) ∧ (if P j then (1 : Int) else 0) ≤ 1; split <;> omega)
  omega
theorem lan_bd (h : Inv I J) : (∀ l : Nat, l < 16 → 0 ≤ rd I 147 l ∧ rd I 147 l ≤ 10) ∧ (∀ l : Nat, l < 32 → 0 ≤ rd I 150 l ∧ rd I 150 l ≤ 10) ∧ 0 ≤ rd I 142 4 ∧ rd I 142 4 ≤ 10 := by
  obtain ⟨_, _, _, _, _, _, ⟨_, _, _, hA, hD⟩, i⟩ := h
  refine ⟨fun l hl => ?_, fun l hl => ?_, ?_⟩
  · rw [(hA l hl).1]; exact cnt10
  · rw [(hD l hl).1]; exact cnt10
  · unfold lyN at i; rw [i]; exact cnt10
theorem so_of (h : Inv I J) : ∀ y x : Int, inS y x → owAt I y x = -1 → sgAt I y x = 95 := fun y x _ u => by
  have g := h.2.2.2.2.2.2.1.2.2.1 y x
  rw [g.1]
  exact lS_no (by rw [← g.2]; exact u)
theorem shK_of (h : Inv I J) : shK I := ⟨fun l hl => by have := (lan_bd h).1 l hl; omega, fun l hl => by have := (lan_bd h).2.1 l hl; omega, so_of h⟩
theorem fw_of (h : Inv I J) : fw I := ⟨fun l hl => by have := (lan_bd h).1 l hl; omega, fun l hl => by have := (lan_bd h).2.1 l hl; omega, by have := (lan_bd h).2.2; omega⟩
theorem Inv_S3 {I' : Nat → Nat → Int32} {J' : Nat → Nat → Int64} (h : Inv I J) (hx : fq S3 I I') (hj : ∀ id k, id ≠ 140 → id ≠ 141 → J' id k = J id k) : Inv I' J' := Inv_sc h (fun id k u => hx id k (fun v => u (by unfold scr S3 at *; omega))) hj (rg_3 h.2.2.1 hx)
theorem Inv_J {J' : Nat → Nat → Int64} (h : Inv I J) (hj : ∀ id k, id ≠ 140 → id ≠ 141 → J' id k = J id k) : Inv I J' := Inv_S3 h (fun _ _ _ => rfl) hj
theorem cal_place (h : Inv I J) {b k : Int} (bb : -2147483648 ≤ b ∧ b < 2147483648) (bk : -2147483648 ≤ k ∧ k < 2147483648) : both yX11_place kX11_place yX12_place kX12_place [.int (iI b), .int (iI k)] I J := by
  have H := h.2.1
  have l : ∀ q, q < 10 → (rd I (bI q 0) 13 ≠ 0 ↔ rd I 177 q ≠ 0) := fun q hq => by rw [(H q hq).2.1.1]
  refine x11_place bb bk (fun g => ?_) (fun q e1 e2 e3 e4 e5 => ?_) (fun q e1 e2 e3 e4 e5 => ?_)
  · refine x12_place bb bk (fun _ => sameA_mk h) (fun q e1 e2 e3 e4 e5 => ?_) (fun q e1 e2 e3 e4 e5 => ?_)
    · exact absurd (Or.inl e5) (g q e1 e2 ((H q e2).1.2.1.mpr e3) ((l q e2).mpr e4))
    · exact absurd (Or.inr e5) (g q e1 e2 ((H q e2).1.2.1.mpr e3) ((l q e2).mpr e4))
  · refine x12_place bb bk (fun g => absurd (Or.inl e5) (g q e1 e2 ((H q e2).1.2.1.mp e3) ((l q e2).mp e4))) (fun q' f1 f2 f3 f4 f5 => ?_) (fun q' f1 f2 f3 f4 f5 => absurd f5 (by omega))
    have eq : q' = q := by omega
    subst eq
    exact sameA_mk2 ((H q' e2).2.1.2.2 f4).2.1.1 h
  · refine x12_place bb bk (fun g => absurd (Or.inr e5) (g q e1 e2 ((H q e2).1.2.1.mp e3) ((l q e2).mp e4))) (fun q' f1 f2 f3 f4 f5 => absurd f5 (by omega)) (fun q' f1 f2 f3 f4 f5 => ?_)
    have eq : q' = q := by omega
    subst eq
    exact sameA_mk2 ((H q' e2).2.1.2.2 f4).2.1.2 h
theorem hR_of (h : Inv I J) : ∀ b, b < 10 → -1000 ≤ rd I 178 b ∧ rd I 178 b ≤ 1000 := fun b hb => (h.2.2.1 b hb).1
theorem hC_of (h : Inv I J) : ∀ b, b < 10 → -1000 ≤ rd I 179 b ∧ rd I 179 b ≤ 1000 := fun b hb => (h.2.2.1 b hb).2
theorem cal_sheet (h : Inv I J) {r c : Int} (br : -2147483648 ≤ r ∧ r < 2147483648) (bc : -2147483648 ≤ c ∧ c < 2147483648) : both yX11_sheet kX11_sheet yX12_sheet kX12_sheet [.int (iI r), .int (iI c)] I J := by
  have hs := h.2.2.2.2.2.2.1
  refine x11_sheet br bc (fun g => ?_) (fun g => ?_)
  · exact x12_sheet (hR_of h) (hC_of h) hs.1 br bc (fun _ => sameA_mk h) (fun g2 => absurd g2 g)
  · exact x12_sheet (hR_of h) (hC_of h) hs.1 br bc (fun g2 => absurd g g2) (fun _ I' x' => sameA_mk2 (hs.2.2.1 r c).1 (Inv_S3 h x' (fun _ _ _ _ => rfl)))
theorem cal_whose (h : Inv I J) {r c : Int} (br : -2147483648 ≤ r ∧ r < 2147483648) (bc : -2147483648 ≤ c ∧ c < 2147483648) : both yX11_whose kX11_whose yX12_whose kX12_whose [.int (iI r), .int (iI c)] I J := by
  have hs := h.2.2.2.2.2.2.1
  refine x11_whose br bc ?_
  refine x12_whose (hR_of h) (hC_of h) hs.1 br bc (fun g => sameA_mk2 ?_ h) (fun _ I' x' => sameA_mk2 (hs.2.2.1 r c).2 (Inv_S3 h x' (fun _ _ _ _ => rfl)))
  unfold owAt
  rw [if_neg g]
theorem cal_words (h : Inv I J) {r c : Int} (br : -2147483648 ≤ r ∧ r < 2147483648) (bc : -2147483648 ≤ c ∧ c < 2147483648) : both yX11_words kX11_words yX12_words kX12_words [.int (iI r), .int (iI c)] I J := by
  have hs := h.2.2.2.2.2.2.1
  obtain ⟨wn, w⟩ := id h.2.2.2.2.2.1
  have fe : (fun x => sgAt I r x) = (fun x => lS I r x) := funext fun x => (hs.2.2.1 r x).1
  refine x11_words w br bc (fun g => ?_) (fun g a e run a1 a2 J' j' => ?_)
  · refine x12_words (hR_of h) (hC_of h) hs.1 w.r w.le w.2.2.2.1 br bc (fun _ I' x' => sameA_mk (Inv_S3 h x' (fun _ _ _ _ => rfl))) (fun g2 => ?_)
    exact absurd (by rw [(hs.2.2.1 r c).1]; exact g2.2) g
  · have g2 : inS r c := by have := tx_in g; exact ⟨this.1.1, this.1.2, this.2.1, this.2.2⟩
    refine x12_words (hR_of h) (hC_of h) hs.1 w.r w.le w.2.2.2.1 br bc (fun g3 => absurd ⟨g2, by rw [← (hs.2.2.1 r c).1]; exact g⟩ g3) (fun _ a' e' run' b1 b2 I' x' => ?_)
    rw [fe] at run
    have u := run_uni run run' a1 a2 b1 b2
    rw [fe, u.1, u.2]
    exact sameA_mk (Inv_S3 h x' j')
theorem cal_read (h : Inv I J) {r c t : Int} (br : -2147483648 ≤ r ∧ r < 2147483648) (bc : -2147483648 ≤ c ∧ c < 2147483648) (bt : -2147483648 ≤ t ∧ t < 2147483648) : both yX11_read kX11_read yX12_read kX12_read [.int (iI r), .int (iI c), .int (iI t)] I J := by
  have hs := h.2.2.2.2.2.2.1
  obtain ⟨wn, w⟩ := id h.2.2.2.2.2.1
  have fe : (fun x => sgAt I r x) = (fun x => lS I r x) := funext fun x => (hs.2.2.1 r x).1
  refine x11_read w br bc bt (fun g => ?_) (fun g a e run a1 a2 J' j' => ?_)
  · refine x12_read (hR_of h) (hC_of h) hs.1 w.r w.le w.2.2.2.1 br bc bt (fun _ I' x' => sameA_mk (Inv_S3 h x' (fun _ _ _ _ => rfl))) (fun g2 => ?_)
    exact absurd ⟨g2.2.2, by rw [(hs.2.2.1 r c).1]; exact g2.2.1⟩ g
  · have g2 : inS r c := by have := tx_in g.2; exact ⟨this.1.1, this.1.2, this.2.1, this.2.2⟩
    refine x12_read (hR_of h) (hC_of h) hs.1 w.r w.le w.2.2.2.1 br bc bt (fun g3 => absurd ⟨g2, by rw [← (hs.2.2.1 r c).1]; exact g.2, g.1⟩ g3) (fun _ a' e' run' b1 b2 I' x' => ?_)
    rw [fe] at run
    have u := run_uni run run' a1 a2 b1 b2
    rw [fe, u.1, u.2]
    exact sameA_mk (Inv_S3 h x' j')
theorem cal_worth (h : Inv I J) : both yX11_worth kX11_worth yX12_worth kX12_worth [] I J := by
  have hs := h.2.2.2.2.2.2.1
  refine x11_worth ?_
  rw [worth_eq hs]
  refine x12_worth (hR_of h) (hC_of h) hs.1 (fun I' s' x' => ?_)
  rw [wNow_sh s' x']
  exact sameA_mk (Inv_S3 h x' (fun _ _ _ _ => rfl))
end CE
