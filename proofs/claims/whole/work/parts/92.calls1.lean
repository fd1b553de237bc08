/-! both calls, one after the other: tape, roll, text -/
abbrev both (y1 : MethodName) (k1 : zK) (y2 : MethodName) (k2 : zK) (as : List Value) (I : Nat → Nat → Int32) (J : Nat → Nat → Int64) : Prop := Cl y1 k1 (.ref 0 :: as) (gM I J) (fun r m' => Cl y2 k2 (.ref 171 :: as) m' (fun r' m'' => sameA r r' m''))
def tp (id k : Nat) : Prop := (id = 1 ∧ k = 1) ∨ id = 2 ∨ (id = 171 ∧ k = 1) ∨ id = 172
def rl (id k : Nat) : Prop := (id = 167 ∧ k = 1) ∨ id = 168 ∨ (id = 171 ∧ k = 25) ∨ id = 188
def tx (id k : Nat) : Prop := (id = 169 ∧ k = 1) ∨ id = 170 ∨ (id = 171 ∧ k = 28) ∨ id = 189
theorem bI_ne {q r : Nat} (hq : q < 10) (hr : r < 13) : 4 ≤ bI q r ∧ bI q r < 134 := ⟨(bI_mod hq hr).2.1, (bI_mod hq hr).1⟩
/-- nothing but tape, roll, text, list and scratch has changed -/
theorem Inv_cf {I I' : Nat → Nat → Int32} {J J' : Nat → Nat → Int64} (h : Inv I J) (hx : ∀ id k, ¬ (tp id k ∨ rl id k ∨ tx id k ∨ (id = 134 ∧ k = 0) ∨ (id = 171 ∧ k = 12) ∨ id = 183 ∨ id = 184 ∨ id = 182 ∨ (id = 171 ∧ k = 27)) → rd I' id k = rd I id k) (h1 : tapR I') (h2 : rolR I') (h3 : txtR I') (h4 : ∃ wn, wRL I' J' wn) : Inv I' J' := by
  obtain ⟨_, b, c, _, _, _, g, i⟩ := h
  have z : ∀ id k, 173 ≤ id ∧ id ≤ 181 → rd I' id k = rd I id k := fun id k h => hx id k (by unfold tp rl tx; omega)
  have s : ∀ id k, 142 ≤ id ∧ id ≤ 150 → rd I' id k = rd I id k := fun id k h => hx id k (by unfold tp rl tx; omega)
  refine ⟨h1, fun q hq => ?_, rg_cg c (fun k => z _ _ (by omega)) (fun k => z _ _ (by omega)), h2, h3, h4, ?_, ?_⟩
  · have y : ∀ r k, r < 13 → rd I' (bI q r) k = rd I (bI q r) k := fun r k hr => hx _ _ (by have := bI_ne hq hr; unfold tp rl tx; omega)
    obtain ⟨b1, b2, b3⟩ := b q hq
    exact ⟨ceR_fr b1 (fun k _ => y 0 k (by omega)) (fun r k _ h => y r k (by omega)) (z _ _ (by omega)) (fun k => z _ _ (by omega)) (fun k => z _ _ (by omega)) (fun k => z _ _ (by omega)), lyR_fr b2 (fun k _ _ => y 0 k (by omega)) (z _ _ (by omega)) (z _ _ (by omega)) (fun _ => ⟨z _ _ (by omega), z _ _ (by omega)⟩), hoR_fr b3 (y 0 _ (by omega)) (z _ _ (by omega)) (fun k => y 12 k (by omega)) (fun k _ => z _ _ (by omega))⟩
  · exact Hs_fr g ⟨fun b _ => z _ _ (by omega), fun b _ _ => ⟨fun k _ => z _ _ (by omega), fun k _ => z _ _ (by omega), fun k _ => z _ _ (by omega), z _ _ (by omega), z _ _ (by omega)⟩⟩ (fun id k h1 h2 => s id k (by omega))
  · exact lyN_fr i (s _ _ (by omega)) (fun k _ => z _ _ (by omega))
section CA
variable {I : Nat → Nat → Int32} {J : Nat → Nat → Int64}
theorem rol_of {I' : Nat → Nat → Int32} (h : Inv I J) (hx : ∀ id k, rl id k → rd I' id k = rd I id k) : rolR I' := rolR_fr h.2.2.2.1 (hx _ _ (by unfold rl; omega)) (hx _ _ (by unfold rl; omega)) (fun k => hx _ _ (by unfold rl; omega)) (fun k => hx _ _ (by unfold rl; omega))
theorem txt_of {I' : Nat → Nat → Int32} (h : Inv I J) (hx : ∀ id k, tx id k → rd I' id k = rd I id k) : txtR I' := txtR_fr h.2.2.2.2.1 (hx _ _ (by unfold tx; omega)) (hx _ _ (by unfold tx; omega)) (fun k => hx _ _ (by unfold tx; omega)) (fun k => hx _ _ (by unfold tx; omega))
theorem tap_of {I' : Nat → Nat → Int32} (h : Inv I J) (hx : ∀ id k, tp id k → rd I' id k = rd I id k) : tapR I' := tapR_fr h.1 (hx _ _ (by unfold tp; omega)) (hx _ _ (by unfold tp; omega)) (fun k => hx _ _ (by unfold tp; omega)) (fun k => hx _ _ (by unfold tp; omega))
theorem lis_of {I' : Nat → Nat → Int32} (h : Inv I J) (hx : ∀ id k, (id = 134 ∧ k = 0) ∨ (id = 171 ∧ k = 12) ∨ id = 183 ∨ id = 184 → rd I' id k = rd I id k) : ∃ wn, wRL I' J wn := by
  obtain ⟨wn, w⟩ := h.2.2.2.2.2.1
  exact ⟨wn, wRL_fr w (hx _ _ (by omega)) (hx _ _ (by omega)) (fun k _ => hx _ _ (by omega)) (fun k _ => hx _ _ (by omega)) (fun _ _ _ _ => rfl)⟩
/-- the tape alone -/
theorem Inv_tp {I' : Nat → Nat → Int32} (h : Inv I J) (hx : ∀ id k, ¬ tp id k → rd I' id k = rd I id k) (h1 : tapR I') : Inv I' J := Inv_cf h (fun id k g => hx id k (fun u => g (Or.inl u))) h1 (rol_of h (fun id k g => hx id k (by unfold rl tp at *; omega))) (txt_of h (fun id k g => hx id k (by unfold tx tp at *; omega))) (lis_of h (fun id k g => hx id k (by unfold tp; omega)))
theorem cal_feed (h : Inv I J) (a b c d e : Int32) : both yX11_feed kX11_feed yX12_feed kX12_feed [.int a, .int b, .int c, .int d, .int e] I J := by
  obtain ⟨t, t2, t1, t3, te⟩ := id h.1
  refine x11_feed t1 t2 (fun g => ?_) (fun g I1 e1 => ?_)
  · exact x12_feed t3 t2 (fun _ => sameA_mk h) (fun g2 => absurd g2 (by omega))
  · refine x12_feed (t := t) (by rw [e1, if_neg (by omega), if_neg (by omega)]; exact t3) t2 (fun g2 => absurd g (by omega)) (fun _ I2 e2 => sameA_mk (Inv_tp h (fun id k u => ?_) ⟨t + 20, by omega, ?_, ?_, fun k hk => ?_⟩))
    · rw [e2, if_neg (by unfold tp at u; omega), if_neg (by unfold tp at u; omega), e1, if_neg (by unfold tp at u; omega), if_neg (by unfold tp at u; omega)]
    · rw [e2, if_neg (by omega), if_neg (by omega), e1, if_pos ⟨rfl, rfl⟩]; omega
    · rw [e2, if_pos ⟨rfl, rfl⟩]; omega
    · have l : rd I2 2 k = if 2 = 2 ∧ t ≤ k ∧ k < t + 20 then fby a b c d e (k - t) else rd I 2 k := by rw [e2, if_neg (by omega), if_neg (by omega), e1, if_neg (by omega)]
      have r : rd I2 172 k = if 172 = 172 ∧ t ≤ k ∧ k < t + 20 then fby a b c d e (k - t) else rd I 172 k := by
        have z : rd I1 172 k = rd I 172 k := by rw [e1, if_neg (by omega), if_neg (by omega)]
        rw [e2, if_neg (by omega), z]
      rw [l, r]
      by_cases w : t ≤ k
      · rw [if_pos ⟨rfl, w, hk⟩, if_pos ⟨rfl, w, hk⟩]
      · rw [if_neg (by omega), if_neg (by omega)]
        exact te k (by omega)
theorem cal_end (h : Inv I J) {n : Int} (bn : -2147483648 ≤ n ∧ n < 2147483648) : both yX11_end kX11_end yX12_end kX12_end [.int (iI n)] I J := by
  obtain ⟨t, t2, t1, t3, te⟩ := id h.1
  refine x11_end bn t1 (fun g => ?_) (fun g => ?_)
  · exact x12_end bn t3 (fun _ => sameA_mk h) (fun g2 => absurd g2 g)
  · refine x12_end (t := t) bn (by rw [rd_wr_row (by decide)]; exact t3) (fun g2 => absurd g g2) (fun _ => sameA_mk (Inv_tp h (fun id k u => ?_) ⟨n.toNat, by omega, ?_, ?_, fun k hk => ?_⟩))
    · rw [rd_wr_ne (by unfold tp at u; omega), rd_wr_ne (by unfold tp at u; omega)]
    · rw [rd_wr_row (by decide), rd_wr_eq (by omega) (by omega)]; omega
    · rw [rd_wr_eq (by omega) (by omega)]; omega
    · rw [rd_wr_row (by decide), rd_wr_row (by decide), rd_wr_row (by decide), rd_wr_row (by decide)]; exact te k (by omega)
theorem rP_lt {g s : Int} {c : Nat} (h : ∀ j : Nat, j + 1 < c → 1 ≤ g - s * j) : ∀ (d i : Nat), i + d + 1 < c → rP g s i < rP g s (i + d + 1)
  | 0, i, hc => by
    show rP g s i < rP g s i + (g - s * i)
    have := h i (by omega)
    omega
  | d + 1, i, hc => by
    have a := rP_lt h d i (by omega)
    show rP g s i < rP g s (i + d + 1) + (g - s * ((i + d + 1 : Nat) : Int))
    have := h (i + d + 1) (by omega)
    omega
theorem cal_roll (h : Inv I J) {g s : Int} (bg : -2147483648 ≤ g ∧ g < 2147483648) (bs : -2147483648 ≤ s ∧ s < 2147483648) : both yX11_roll kX11_roll yX12_roll kX12_roll [.int (iI g), .int (iI s)] I J := by
  refine x11_roll bg bs (fun u => ?_) (fun u1 u2 c I1 o1 ⟨e1, e2, e3⟩ => ?_)
  · exact x12_roll bg bs (fun _ => sameA_mk h) (fun v1 v2 => absurd ⟨v1, v2⟩ u)
  · refine x12_roll bg bs (fun v => absurd ⟨u1, u2⟩ v) (fun _ _ d I2 o2 ⟨d1, d2, d3⟩ => ?_)
    have ecd := rOK_one o1 o2
    subst ecd
    have bd : ∀ k, k < c → 0 ≤ rP g s k ∧ rP g s k ≤ 1000 * k := fun k hk => rP_bd (by omega) (by omega) k (fun j hj => o1.2.2.1 j (by omega))
    have x2 : ∀ id k, ¬ rl id k → rd I2 id k = rd I id k := fun id k w => by
      rw [d3 id k (by unfold rl at w; omega), e3 id k (by unfold rl at w; omega)]
    refine sameA_mk (Inv_cf h (fun id k w => x2 id k (fun z => w (Or.inr (Or.inl z)))) (tap_of h (fun id k w => x2 id k (by unfold tp rl at *; omega))) ⟨c, o1.2.1, ?_, d1, fun k hk => ?_, fun i j hij hj => ?_⟩ (txt_of h (fun id k w => x2 id k (by unfold tx rl at *; omega))) (lis_of h (fun id k w => x2 id k (by unfold rl; omega))))
    · rw [d3 _ _ (by omega)]; exact e1
    · have := bd k hk
      have c40 := o1.2.1
      rw [d3 168 _ (by omega), e2 k hk, d2 k hk]
      exact ⟨rfl, by omega, by omega⟩
    · rw [d2 i (by omega), d2 j hj]
      have := rP_lt o1.2.2.1 (j - i - 1) i (by omega)
      rw [show i + (j - i - 1) + 1 = j by omega] at this
      exact this
theorem cal_known (h : Inv I J) : both yX11_known kX11_known yX12_known kX12_known [] I J := by
  obtain ⟨t, t2, t1, t3, te⟩ := id h.1
  have lt : (∀ k, k < t → isLt (rd I 2 k)) ↔ ∀ k, k < t → isLt (rd I 172 k) := ⟨fun u k hk => by rw [← te k hk]; exact u k hk, fun u k hk => by rw [te k hk]; exact u k hk⟩
  refine x11_known t1 t2 (fun g => ?_) (fun g I1 ⟨e1, e2, e3, e4⟩ => ?_)
  · refine x12_known (t := t) (by rw [rd_wr_row (by decide)]; exact t3) t2 (fun _ => sameA_mk (Inv_tp h (fun id k u => ?_) ⟨0, by omega, ?_, ?_, fun k hk => by omega⟩)) (fun g2 => absurd ⟨g2.1, lt.mpr (fun k hk => by have := g2.2 k hk; rw [rd_wr_row (by decide)] at this; exact this)⟩ g)
    · rw [rd_wr_ne (by unfold tp at u; omega), rd_wr_ne (by unfold tp at u; omega)]
    · rw [rd_wr_row (by decide), rd_wr_eq (by decide) (by decide)]; rfl
    · rw [rd_wr_eq (by decide) (by decide)]; rfl
  · have a1 : ∀ k, rd I1 172 k = rd I 172 k := fun k => e4 _ _ (by omega)
    refine x12_known (t := t) (by rw [e4 _ _ (by omega)]; exact t3) t2 (fun g2 => absurd ⟨g.1, fun k hk => by rw [a1]; exact lt.mp g.2 k hk⟩ g2) (fun g2 I2 ⟨d1, d2, d3, d4⟩ => ?_)
    have x2 : ∀ id k, ¬ (tp id k ∨ tx id k) → rd I2 id k = rd I id k := fun id k w => by
      rw [d4 id k (by unfold tp tx at w; omega), e4 id k (by unfold tp tx at w; omega)]
    refine sameA_mk (Inv_cf h (fun id k w => x2 id k (fun z => w (z.elim Or.inl (fun z => Or.inr (Or.inr (Or.inl z)))))) ⟨0, by omega, ?_, d1, fun k hk => by omega⟩ (rol_of h (fun id k w => x2 id k (by unfold tp tx rl at *; omega))) ⟨t, t2, ?_, d2, fun k hk => ?_⟩ (lis_of h (fun id k w => x2 id k (by unfold tp tx; omega))))
    · rw [d4 _ _ (by omega)]; exact e1
    · rw [d4 _ _ (by omega)]; exact e2
    · rw [d4 _ _ (by omega), e3 k hk, d3 k hk, a1]; exact te k hk
end CA
