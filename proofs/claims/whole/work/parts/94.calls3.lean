/-! times in the text, cells, fibres, words, BITS: both -/
theorem RBc_cg {I : Nat → Nat → Int32} {b n : Nat} {ce ce' : Nat → Int} (h : RBc I b ce n) (e : ∀ k, k < 50 → ce k = ce' k) : RBc I b ce' n := by
  refine ⟨h.1, h.2.1, fun j hj => ?_, h.2.2.2.1, fun k hk g => h.2.2.2.2 k hk (by rw [e k hk]; exact g)⟩
  obtain ⟨r, c, _, _, _, _, _, q⟩ := cp_rc h hj
  have t := h.2.2.1 j hj
  exact ⟨t.1, t.2.1, t.2.2.1, t.2.2.2.1, by rw [← e _ q]; exact t.2.2.2.2⟩
theorem ink_cg {ce ce' : Nat → Int} (e : ∀ k, k < 50 → ce k = ce' k) : ink ce' ↔ ink ce := ⟨fun ⟨k, hk, u⟩ => ⟨k, hk, by rw [e k hk]; exact u⟩, fun ⟨k, hk, u⟩ => ⟨k, hk, by rw [← e k hk]; exact u⟩⟩
theorem RB_cg {I : Nat → Nat → Int32} {b : Nat} {ce ce' : Nat → Int} (h : RB I b ce) (e : ∀ k, k < 50 → ce k = ce' k) : RB I b ce' := by
  obtain ⟨a, s, n, c, t, r⟩ := h
  have lt : ∀ j, j < n → cp I b j < 50 := fun j hj => by
    obtain ⟨_, _, _, _, _, _, _, q⟩ := cp_rc c hj
    exact q
  refine ⟨fun k hk => by rw [← e k hk]; exact a k hk, fun k hk => by rw [← e k hk]; exact s k hk, n, RBc_cg c e, ?_, ?_⟩
  · obtain ⟨t1, t2, t3, t4, t5⟩ := t
    refine ⟨fun g => t1 (fun u => g ((ink_cg e).mpr u)), fun g => ?_, fun j hj g => t3 j hj (by rw [e _ (lt j hj)]; exact g), fun g => ?_, t5⟩
    · obtain ⟨f, f1, f2, f3, f4⟩ := t2 ((ink_cg e).mp g)
      exact ⟨f, f1, f2, by rw [← e _ (lt f f1)]; exact f3, fun j hj => by rw [← e _ (lt j (by omega))]; exact f4 j hj⟩
    · obtain ⟨j, j1, j2, j3⟩ := t4 ((ink_cg e).mp g)
      exact ⟨j, j1, by rw [← e _ (lt j j1)]; exact j2, j3⟩
  · obtain ⟨r1, r2⟩ := r
    refine ⟨fun q hq => ⟨fun g => (r1 q hq).1 (fun u => g ((rowH_cg e hq).mp u)), fun g => ?_⟩, fun q hq => ⟨fun g => (r2 q hq).1 ((colH_cg e hq).mpr g), fun g => (r2 q hq).2 (fun u => g ((colH_cg e hq).mp u))⟩⟩
    obtain ⟨f, l, a1, a2, a3, a4, a5, a6, a7, a8⟩ := (r1 q hq).2 ((rowH_cg e hq).mpr g)
    exact ⟨f, l, a1, a2, a3, a4, a5, by rw [← e _ (by omega)]; exact a6, by rw [← e _ (by omega)]; exact a7, fun c hc u => a8 c hc (by rw [e _ (by omega)]; exact u)⟩
/-- what is BIT q's -/
def bt (q id k : Nat) : Prop := (bI q 0 ≤ id ∧ id ≤ bI q 12) ∨ ((id = 173 ∨ id = 177 ∨ id = 178 ∨ id = 179 ∨ id = 180) ∧ k = q) ∨ (id = 174 ∧ 50 * q ≤ k ∧ k < 50 * q + 50) ∨ (id = 175 ∧ 5 * q ≤ k ∧ k < 5 * q + 5) ∨ (id = 176 ∧ 10 * q ≤ k ∧ k < 10 * q + 10) ∨ (id = 181 ∧ 6 * q ≤ k ∧ k < 6 * q + 6)
theorem ceR_fr2 {I I' : Nat → Nat → Int32} {q : Nat} (h : ceR I q) (h0 : ∀ k, k < 12 → rd I' (bI q 0) k = rd I (bI q 0) k) (h1 : ∀ r k, 1 ≤ r → r < 12 → rd I' (bI q r) k = rd I (bI q r) k) (h2 : rd I' 173 q = rd I 173 q) (h3 : ∀ k, k < 50 → rd I' 174 (50 * q + k) = rd I 174 (50 * q + k)) (h4 : ∀ k, k < 5 → rd I' 175 (5 * q + k) = rd I 175 (5 * q + k)) (h5 : ∀ k, k < 10 → rd I' 176 (10 * q + k) = rd I 176 (10 * q + k)) : ceR I' q := by
  obtain ⟨a, b, c, d, e⟩ := h
  refine ⟨by rw [h0 0 (by omega), a], by rw [h0 4 (by omega), h2, b], fun u => ?_, fun i hi => by rw [h1 7 _ (by omega) (by omega), h4 i hi]; exact d i hi, fun i hi => by rw [h1 10 _ (by omega) (by omega), h5 i hi]; exact e i hi⟩
  exact RB_cg (RB_fr (c (by rw [← h2]; exact u)) (fun k hk => h0 k (by omega)) (fun r k hr => h1 r k (by omega) (by omega))) (fun k hk => (h3 k hk).symm)
theorem Inv_bit {I I' : Nat → Nat → Int32} {J : Nat → Nat → Int64} {q : Nat} (h : Inv I J) (hq : q < 10) (l1 : ¬ lyB I q) (l2 : ¬ lyB I' q) (hx : ∀ id k, ¬ (bt q id k ∨ tp id k ∨ id = 182) → rd I' id k = rd I id k) (h1 : tapR I') (h2 : ceR I' q) (h3 : lyR I' q) (h4 : hoR I' q) (h5 : rg I') : Inv I' J := by
  obtain ⟨_, b, _, d, e, ⟨wn, f⟩, g, i⟩ := h
  have z : ∀ id k, 142 ≤ id → id ≠ 171 → id ≠ 172 → id ≠ 182 → ¬ (173 ≤ id ∧ id ≤ 181) → rd I' id k = rd I id k := fun id k u1 u2 u3 u4 u5 => hx id k (by unfold bt tp bI; omega)
  have z1 : ∀ k, k ≠ 1 → rd I' 171 k = rd I 171 k := fun k u => hx 171 k (by unfold bt tp bI; omega)
  have zo : ∀ r k, r ≠ q → r < 10 → ∀ s, s < 13 → rd I' (bI r s) k = rd I (bI r s) k := fun r k u1 u2 s u3 => hx _ _ (by unfold bt tp bI; omega)
  have zc : ∀ r, r ≠ q → (∀ id, id = 173 ∨ id = 177 ∨ id = 178 ∨ id = 179 ∨ id = 180 → rd I' id r = rd I id r) ∧ (∀ k, k < 50 → rd I' 174 (50 * r + k) = rd I 174 (50 * r + k)) ∧ (∀ k, k < 5 → rd I' 175 (5 * r + k) = rd I 175 (5 * r + k)) ∧ (∀ k, k < 10 → rd I' 176 (10 * r + k) = rd I 176 (10 * r + k)) ∧ ∀ k, k < 6 → rd I' 181 (6 * r + k) = rd I 181 (6 * r + k) := fun r hr => ⟨fun id u => hx _ _ (by unfold bt tp bI; omega), fun k u => hx _ _ (by unfold bt tp bI; omega), fun k u => hx _ _ (by unfold bt tp bI; omega), fun k u => hx _ _ (by unfold bt tp bI; omega), fun k u => hx _ _ (by unfold bt tp bI; omega)⟩
  have ly : ∀ r, r ≠ q → (lyB I' r ↔ lyB I r) := fun r hr => by unfold lyB; rw [(zc r hr).1 177 (by omega)]
  have l7 : rd I' 177 q = rd I 177 q := by
    have a1 : rd I 177 q = 0 := Classical.byContradiction l1
    have a2 : rd I' 177 q = 0 := Classical.byContradiction l2
    rw [a1, a2]
  have l77 : ∀ r, r < 10 → rd I' 177 r = rd I 177 r := fun r hr => by
    by_cases e : r = q
    · rw [e]; exact l7
    · exact (zc r e).1 177 (by omega)
  refine ⟨h1, fun r hr => ?_, h5, ?_, ?_, ⟨wn, ?_⟩, ?_, ?_⟩
  · by_cases e : r = q
    · rw [e]; exact ⟨h2, h3, h4⟩
    · obtain ⟨b1, b2, b3⟩ := b r hr
      obtain ⟨c1, c2, c3, c4, c5⟩ := zc r e
      exact ⟨ceR_fr2 b1 (fun k _ => zo r k e hr 0 (by omega)) (fun s k _ hs => zo r k e hr s (by omega)) (c1 _ (by omega)) c2 c3 c4, lyR_fr b2 (fun k _ _ => zo r k e hr 0 (by omega)) (c1 _ (by omega)) (c1 _ (by omega)) (fun _ => ⟨c1 _ (by omega), c1 _ (by omega)⟩), hoR_fr b3 (zo r _ e hr 0 (by omega)) (c1 _ (by omega)) (fun k => zo r k e hr 12 (by omega)) c5⟩
  · exact rolR_fr d (z _ _ (by omega) (by omega) (by omega) (by omega) (by omega)) (z1 _ (by omega)) (fun k => z _ _ (by omega) (by omega) (by omega) (by omega) (by omega)) (fun k => z _ _ (by omega) (by omega) (by omega) (by omega) (by omega))
  · exact txtR_fr e (z _ _ (by omega) (by omega) (by omega) (by omega) (by omega)) (z1 _ (by omega)) (fun k => z _ _ (by omega) (by omega) (by omega) (by omega) (by omega)) (fun k => z _ _ (by omega) (by omega) (by omega) (by omega) (by omega))
  · exact wRL_fr f (hx _ _ (by unfold bt tp bI; omega)) (z1 _ (by omega)) (fun k _ => z _ _ (by omega) (by omega) (by omega) (by omega) (by omega)) (fun k _ => z _ _ (by omega) (by omega) (by omega) (by omega) (by omega)) (fun _ _ _ _ => rfl)
  · refine Hs_fr g ⟨l77, fun r hr lr => ?_⟩ (fun id k u1 u2 => z id k (by omega) (by omega) (by omega) (by omega) (by omega))
    obtain ⟨c1, c2, c3, c4, c5⟩ := zc r (fun e => l1 (e ▸ lr))
    exact ⟨c2, c3, c4, c1 _ (by omega), c1 _ (by omega)⟩
  · exact lyN_fr i (z _ _ (by omega) (by omega) (by omega) (by omega) (by omega)) l77
section CC
variable {I : Nat → Nat → Int32} {J : Nat → Nat → Int64}
theorem Sat_tx {ce tx tx' : Nat → Int} {len : Nat} {w i : Int} (h : ∀ k, k < len → tx k = tx' k) : Sat ce tx len w i ↔ Sat ce tx' len w i := by
  constructor
  · intro u r hr c hc g
    obtain ⟨a, b, d, e⟩ := u r hr c hc g
    exact ⟨a, b, d, by rw [← h _ (by omega)]; exact e⟩
  · intro u r hr c hc g
    obtain ⟨a, b, d, e⟩ := u r hr c hc g
    exact ⟨a, b, d, by rw [h _ (by omega)]; exact e⟩
theorem stQ_tx {ce tx tx' : Nat → Int} {len : Nat} {w : Int} (h : ∀ k, k < len → tx k = tx' k) : stQ ce tx len w = stQ ce tx' len w := funext fun j => decide_eq_decide.mpr (Sat_tx h)
theorem stN_tx {ce tx tx' : Nat → Int} {len : Nat} {w x : Int} (h : ∀ k, k < len → tx k = tx' k) (g : stN ce tx len w x) : stN ce tx' len w x := by
  unfold stN at *
  rw [stQ_tx h] at g
  exact g
theorem stK_tx {ce tx tx' : Nat → Int} {len : Nat} {w t x : Int} (h : ∀ k, k < len → tx k = tx' k) (g : stK ce tx len w t x) : stK ce tx' len w t x := by
  unfold stK at *
  rw [stQ_tx h] at g
  exact g
theorem stQ_0 {ce tx : Nat → Int} {w : Int} (h : ink ce) (j : Nat) : stQ ce tx 0 w j = false := by
  obtain ⟨k, hk, ht⟩ := h
  refine decide_eq_false (fun u => ?_)
  have t := u (k / 10) (by omega) (k % 10) (by omega)
  unfold SatC at t
  rw [show 10 * (k / 10) + k % 10 = k by omega] at t
  have := t ht
  omega
theorem stN_0 {ce tx : Nat → Int} {w x : Int} (g : stN ce tx 0 w x) : x = 0 := by
  by_cases k : ink ce
  · rw [g.1 k]
    have := cn_end (q := stQ ce tx 0 w) (a := 0) (d := stM 0 w) (fun j _ _ => stQ_0 k j)
    rw [Nat.zero_add] at this
    rw [this]; rfl
  · exact g.2 k
theorem stK_0 {ce tx : Nat → Int} {w t x : Int} (g : stK ce tx 0 w t x) : x = -1000 := by
  by_cases k : ink ce
  · rw [g.1 k]
    exact kf_none (fun j _ u => by rw [stQ_0 k j] at u; exact absurd u (by decide))
  · exact g.2 k
theorem wdP_to {f g : Int → Int → Prop} (h : ∀ w x, f w x → g w x) {a : Int} : ∀ {n : Nat} {m p : Int}, wdP f a n m p → wdP g a n m p
  | 0, _, _, u => u
  | n + 1, _, _, u => by
    obtain ⟨m0, p0, x, u1, u2, u3⟩ := u
    exact ⟨m0, p0, x, wdP_to h u1, h _ _ u2, u3⟩
theorem wdP_0 {f : Int → Int → Prop} (h : ∀ w x, f w x → x = 0) {a : Int} : ∀ {n : Nat} {m p : Int}, wdP f a n m p → m = 0 ∧ p = -1
  | 0, _, _, u => u
  | n + 1, _, _, u => by
    obtain ⟨m0, p0, x, u1, u2, u3⟩ := u
    have a1 := wdP_0 h u1
    have a2 := h _ _ u2
    omega
theorem cal_stands (h : Inv I J) {b w : Int} (bb : -2147483648 ≤ b ∧ b < 2147483648) (bw : -2147483648 ≤ w ∧ w < 2147483648) : both yX11_stands kX11_stands yX12_stands kX12_stands [.int (iI b), .int (iI w)] I J := by
  have H := h.2.1
  obtain ⟨n, n1, n2, n3, n4⟩ := id h.2.2.2.2.1
  refine x11_stands bb bw (ce := rce I) (fun q hq u => (H q hq).1.2.2.1 ((H q hq).1.2.1.mp u)) n2 n1 (fun g => ?_) (fun q e1 e2 e3 e4 e5 x ex => ?_)
  · refine x12_stands bb bw n3 n1 (fun _ => sameA_mk h) (fun q e1 e2 e3 e4 e5 I' x x' ex => ?_)
    rcases g q e1 e2 ((H q e2).1.2.1.mpr e3) with u | u
    · omega
    · exact absurd e5 u
  · refine x12_stands bb bw n3 n1 (fun g => ?_) (fun q' f1 f2 f3 f4 f5 I' y x' ey => ?_)
    · rcases g q e1 e2 ((H q e2).1.2.1.mp e3) with u | u
      · omega
      · exact absurd e5 u
    · have eq : q' = q := by clear ex ey; omega
      subst eq
      exact sameA_mk2 (stN_one (stN_tx n4 ex) ey) (Inv_27 h x')
theorem cal_letter (h : Inv I J) {b w t : Int} (bb : -2147483648 ≤ b ∧ b < 2147483648) (bw : -2147483648 ≤ w ∧ w < 2147483648) (bt : -2147483648 ≤ t ∧ t < 2147483648) : both yX11_letter kX11_letter yX12_letter kX12_letter [.int (iI b), .int (iI w), .int (iI t)] I J := by
  have H := h.2.1
  obtain ⟨n, n1, n2, n3, n4⟩ := id h.2.2.2.2.1
  refine x11_letter bb bw bt (ce := rce I) (fun q hq u => (H q hq).1.2.2.1 ((H q hq).1.2.1.mp u)) n2 n1 (fun g => ?_) (fun q e1 e2 e3 e4 e5 x ex => ?_)
  · refine x12_letter bb bw bt n3 n1 (fun _ => sameA_mk h) (fun q e1 e2 e3 e4 e5 e6 I' x x' ex => ?_)
    rcases g q e1 e2 ((H q e2).1.2.1.mpr e3) with u | u
    · exact absurd e5 u
    · omega
  · by_cases n0 : n = 0
    · subst n0
      rw [stK_0 ex]
      refine x12_letter bb bw bt n3 n1 (fun _ => sameA_mk h) (fun q' f1 f2 f3 f4 => ?_)
      exact absurd f4 (Nat.lt_irrefl 0)
    · refine x12_letter bb bw bt n3 n1 (fun g => ?_) (fun q' f1 f2 f3 f4 f5 f6 I' y x' ey => ?_)
      · rcases g q e1 e2 ((H q e2).1.2.1.mp e3) with u | u | u
        · exact absurd u n0
        · exact absurd e4 u
        · omega
      · have eq : q' = q := by clear ex ey; omega
        subst eq
        exact sameA_mk2 (stK_one (stK_tx n4 ex) ey) (Inv_27 h x')
theorem cal_width (h : Inv I J) {b a z : Int} (bb : -2147483648 ≤ b ∧ b < 2147483648) (ba : -2147483648 ≤ a ∧ a < 2147483648) (bz : -2147483648 ≤ z ∧ z < 2147483648) : both yX11_width kX11_width yX12_width kX12_width [.int (iI b), .int (iI a), .int (iI z)] I J := by
  have H := h.2.1
  obtain ⟨n, n1, n2, n3, n4⟩ := id h.2.2.2.2.1
  refine x11_width bb ba bz (ce := rce I) (fun q hq u => (H q hq).1.2.2.1 ((H q hq).1.2.1.mp u)) n2 n1 (fun g => ?_) (fun q e1 e2 e3 e4 m p ex => ?_)
  · refine x12_width bb ba bz n3 n1 (fun _ => sameA_mk h) (fun q e1 e2 e3 e4 e5 I' m p x' ex => ?_)
    exact absurd ⟨e5.1, e5.2.1, by omega, e5.2.2.2⟩ (g q e1 e2 ((H q e2).1.2.1.mpr e3))
  · by_cases n0 : n = 0 ∨ z < a
    · have p1 : p = -1 := by
        rcases n0 with u | u
        · subst u
          exact (wdP_0 (fun w x g => stN_0 g) ex).2
        · rw [show (z - a + 1).toNat = 0 by omega] at ex
          exact ex.2
      rw [p1]
      refine x12_width bb ba bz n3 n1 (fun _ => sameA_mk h) (fun q' f1 f2 f3 f4 f5 => ?_)
      clear ex
      omega
    · refine x12_width bb ba bz n3 n1 (fun g => ?_) (fun q' f1 f2 f3 f4 f5 I' m' p' x' ey => ?_)
      · rcases g q e1 e2 ((H q e2).1.2.1.mp e3) with u | u
        · exact absurd (Or.inl u) n0
        · exact absurd ⟨e4.1, e4.2.1, by clear ex; omega, e4.2.2.2⟩ u
      · have eq : q' = q := by clear ex ey; omega
        subst eq
        have t1 : wdP (fun w x => stN (rce I q') (fun k => rd I 189 k) n w x) a (z - a + 1).toNat m p := wdP_to (f := fun w x => stN (rce I q') (fun k => rd I 170 k) n w x) (g := fun w x => stN (rce I q') (fun k => rd I 189 k) n w x) (fun w x g => stN_tx (ce := rce I q') (tx := fun k => rd I 170 k) (tx' := fun k => rd I 189 k) n4 g) ex
        have u := wdP_one (f := fun w x => stN (rce I q') (fun k => rd I 189 k) n w x) (fun w x y u v => stN_one (ce := rce I q') (tx := fun k => rd I 189 k) u v) t1 ey
        exact sameA_mk2 u.2 (Inv_27 h x')
theorem cal_cell (h : Inv I J) {b r c : Int} (bb : -2147483648 ≤ b ∧ b < 2147483648) (br : -2147483648 ≤ r ∧ r < 2147483648) (bc : -2147483648 ≤ c ∧ c < 2147483648) : both yX11_cell kX11_cell yX12_cell kX12_cell [.int (iI b), .int (iI r), .int (iI c)] I J := by
  have H := h.2.1
  refine x11_cell bb br bc (fun g => ?_) (fun q e1 e2 e3 e4 => ?_)
  · exact x12_cell bb br bc (fun _ => sameA_mk h) (fun q e1 e2 e3 e4 => absurd e4 (g q e1 e2 ((H q e2).1.2.1.mpr e3)))
  · refine x12_cell bb br bc (fun g => absurd e4 (g q e1 e2 ((H q e2).1.2.1.mp e3))) (fun q' f1 f2 f3 f4 => ?_)
    have eq : q' = q := by omega
    subst eq
    exact sameA_mk2 (((H q' e2).1.2.2.1 f3).1 _ (by omega)) h
end CC
