/-! THE LIST of the class against the reference's, and its runs -/
/-- place n of half h is a letter of a word -/
def wLN (I : Nat → Nat → Int32) (wn h n : Nat) : Prop := n < 60 ∧ 6 * h + n / 10 < wn ∧ ((n % 10 : Nat) : Int) < rd I 183 (6 * h + n / 10)
def wRL (I : Nat → Nat → Int32) (J : Nat → Nat → Int64) (wn : Nat) : Prop := (rd I 134 0 = wn) ∧ (rd I 171 12 = wn) ∧ (wn ≤ 12) ∧ (∀ w, w < wn → 1 ≤ rd I 183 w ∧ rd I 183 w ≤ 10) ∧ (∀ w p : Nat, w < wn → (p : Int) < rd I 183 w → isLt (rd I 184 (10 * w + p))) ∧ (∀ h cc n, h < 2 → cc ≤ 26 → (tb (J (136 + h) cc) n = true ↔ wLN I wn h n ∧ (cc = 26 ∨ rd I 184 (60 * h + n) = 97 + (cc : Int)))) ∧ (∀ h n, h < 2 → (tb (J 138 h) n = true ↔ wLN I wn h n ∧ n % 10 = 0)) ∧ (∀ h n, h < 2 → (tb (J 139 h) n = true ↔ wLN I wn h n ∧ ((n % 10 : Nat) : Int) + 1 = rd I 183 (6 * h + n / 10)))
theorem wRL_mk {I : Nat → Nat → Int32} {J : Nat → Nat → Int64} {wn : Nat} (h : (rd I 134 0 = wn) ∧ (rd I 171 12 = wn) ∧ (wn ≤ 12) ∧ (∀ w, w < wn → 1 ≤ rd I 183 w ∧ rd I 183 w ≤ 10) ∧ (∀ w p : Nat, w < wn → (p : Int) < rd I 183 w → isLt (rd I 184 (10 * w + p))) ∧ (∀ h cc n, h < 2 → cc ≤ 26 → (tb (J (136 + h) cc) n = true ↔ wLN I wn h n ∧ (cc = 26 ∨ rd I 184 (60 * h + n) = 97 + (cc : Int)))) ∧ (∀ h n, h < 2 → (tb (J 138 h) n = true ↔ wLN I wn h n ∧ n % 10 = 0)) ∧ (∀ h n, h < 2 → (tb (J 139 h) n = true ↔ wLN I wn h n ∧ ((n % 10 : Nat) : Int) + 1 = rd I 183 (6 * h + n / 10)))) : wRL I J wn := h
theorem wRL.c {I : Nat → Nat → Int32} {J : Nat → Nat → Int64} {wn : Nat} (h : wRL I J wn) : rd I 134 0 = wn := h.1
theorem wRL.r {I : Nat → Nat → Int32} {J : Nat → Nat → Int64} {wn : Nat} (h : wRL I J wn) : rd I 171 12 = wn := h.2.1
theorem wRL.le {I : Nat → Nat → Int32} {J : Nat → Nat → Int64} {wn : Nat} (h : wRL I J wn) : wn ≤ 12 := h.2.2.1
theorem wRL.sz {I : Nat → Nat → Int32} {J : Nat → Nat → Int64} {wn : Nat} (h : wRL I J wn) : ∀ w, w < wn → 1 ≤ rd I 183 w ∧ rd I 183 w ≤ 10 := h.2.2.2.1
theorem wRL.lt {I : Nat → Nat → Int32} {J : Nat → Nat → Int64} {wn : Nat} (h : wRL I J wn) : ∀ w p : Nat, w < wn → (p : Int) < rd I 183 w → isLt (rd I 184 (10 * w + p)) := h.2.2.2.2.1
theorem wRL.le2 {I : Nat → Nat → Int32} {J : Nat → Nat → Int64} {wn : Nat} (h : wRL I J wn) : ∀ h cc n, h < 2 → cc ≤ 26 → (tb (J (136 + h) cc) n = true ↔ wLN I wn h n ∧ (cc = 26 ∨ rd I 184 (60 * h + n) = 97 + (cc : Int))) := h.2.2.2.2.2.1
theorem wRL.st {I : Nat → Nat → Int32} {J : Nat → Nat → Int64} {wn : Nat} (h : wRL I J wn) : ∀ h n, h < 2 → (tb (J 138 h) n = true ↔ wLN I wn h n ∧ n % 10 = 0) := h.2.2.2.2.2.2.1
theorem wRL.en {I : Nat → Nat → Int32} {J : Nat → Nat → Int64} {wn : Nat} (h : wRL I J wn) : ∀ h n, h < 2 → (tb (J 139 h) n = true ↔ wLN I wn h n ∧ ((n % 10 : Nat) : Int) + 1 = rd I 183 (6 * h + n / 10)) := h.2.2.2.2.2.2.2
theorem wRL_fr {I I' : Nat → Nat → Int32} {J J' : Nat → Nat → Int64} {wn : Nat} (h : wRL I J wn) (h1 : rd I' 134 0 = rd I 134 0) (h2 : rd I' 171 12 = rd I 171 12) (h3 : ∀ w, w < 12 → rd I' 183 w = rd I 183 w) (h4 : ∀ k, k < 120 → rd I' 184 k = rd I 184 k) (hj : ∀ id k, id ≠ 140 → id ≠ 141 → J' id k = J id k) : wRL I' J' wn := by
  have ln : ∀ h n, h < 2 → (wLN I' wn h n ↔ wLN I wn h n) := fun hh n hh2 => by
    have := h.le
    unfold wLN
    constructor
    · rintro ⟨a, b, c⟩
      rw [h3 _ (by omega)] at c
      exact ⟨a, b, c⟩
    · rintro ⟨a, b, c⟩
      rw [← h3 _ (by omega)] at c
      exact ⟨a, b, c⟩
  have le := h.le
  refine wRL_mk ⟨by rw [h1]; exact h.c, by rw [h2]; exact h.r, h.le, fun w hw => by rw [h3 w (by omega)]; exact h.sz w hw, fun w p hw hp => ?_, fun hh cc n a b => ?_, fun hh n a => ?_, fun hh n a => ?_⟩
  · rw [h3 w (by omega)] at hp
    have := h.sz w hw
    rw [h4 _ (by omega)]
    exact h.lt w p hw hp
  · rw [hj _ _ (by omega) (by omega), h.le2 hh cc n a b, ln hh n a]
    constructor
    · rintro ⟨c, d⟩
      refine ⟨c, ?_⟩
      rw [h4 _ (by have := c.1; omega)]; exact d
    · rintro ⟨c, d⟩
      refine ⟨c, ?_⟩
      rw [h4 _ (by have := c.1; omega)] at d; exact d
  · rw [hj _ _ (by decide) (by decide), h.st hh n a, ln hh n a]
  · rw [hj _ _ (by decide) (by decide), h.en hh n a, ln hh n a]
    constructor
    · rintro ⟨c, d⟩
      refine ⟨c, ?_⟩
      rw [h3 _ (by have := c.2.1; omega)]; exact d
    · rintro ⟨c, d⟩
      refine ⟨c, ?_⟩
      rw [h3 _ (by have := c.2.1; omega)] at d; exact d
/-- what both do with a word -/
theorem wRL_word {I I' : Nat → Nat → Int32} {J J' : Nat → Nat → Int64} {wn t : Nat} {tp : Nat → Int} (h : wRL I J wn) (h12 : wn < 12) (t1 : 1 ≤ t) (t2 : t ≤ 10) (tl : ∀ k, k < t → isLt (tp k)) (e1 : rd I' 134 0 = (wn : Int) + 1) (e2 : rd I' 171 12 = (wn : Int) + 1) (e3 : rd I' 183 wn = t) (e4 : ∀ k, k < t → rd I' 184 (10 * wn + k) = tp k) (e5 : ∀ w, w ≠ wn → w < 12 → rd I' 183 w = rd I 183 w) (e6 : ∀ k, k < 120 → ¬ (10 * wn ≤ k ∧ k < 10 * wn + 10) → rd I' 184 k = rd I 184 k)
    (p1 : ∀ c n, c ≤ 26 → tb (J' (136 + (wn / 6)) c) n = (tb (J (136 + (wn / 6)) c) n || decide (10 * (wn % 6) ≤ n ∧ n < 10 * (wn % 6) + t ∧ (c = 26 ∨ tp (n - 10 * (wn % 6)) = 97 + (c : Int)))))
    (p2 : ∀ n, tb (J' 138 (wn / 6)) n = (tb (J 138 (wn / 6)) n || decide (n = 10 * (wn % 6)))) (p3 : ∀ n, tb (J' 139 (wn / 6)) n = (tb (J 139 (wn / 6)) n || decide (n + 1 = 10 * (wn % 6) + t)))
    (p4 : ∀ id k, id ≠ 136 + (wn / 6) → ¬ (id = 138 ∧ k = wn / 6) → ¬ (id = 139 ∧ k = wn / 6) → J' id k = J id k) : wRL I' J' (wn + 1) := by
  have ln : ∀ hh n, hh < 2 → (wLN I' (wn + 1) hh n ↔ wLN I wn hh n ∨ (hh = wn / 6 ∧ 10 * (wn % 6) ≤ n ∧ n < 10 * (wn % 6) + t)) := fun hh n hh2 => by
    unfold wLN
    by_cases g : 6 * hh + n / 10 = wn
    · rw [g, e3]; omega
    · constructor
      · rintro ⟨a, b, c⟩
        rw [e5 _ g (by omega)] at c
        exact Or.inl ⟨a, by omega, c⟩
      · rintro (⟨a, b, c⟩ | q)
        · rw [← e5 _ g (by omega)] at c
          exact ⟨a, by omega, c⟩
        · omega
  refine wRL_mk ⟨e1, e2, by omega, fun w hw => ?_, fun w p hw hp => ?_, fun hh cc n a b => ?_, fun hh n a => ?_, fun hh n a => ?_⟩
  · by_cases g : w = wn
    · rw [g, e3]; omega
    · rw [e5 w g (by omega)]; exact h.sz w (by omega)
  · by_cases g : w = wn
    · rw [g, e3] at hp
      rw [g, e4 p (by omega)]; exact tl p (by omega)
    · rw [e5 w g (by omega)] at hp
      have := h.sz w (by omega)
      rw [e6 _ (by omega) (by omega)]; exact h.lt w p (by omega) hp
  · rw [ln hh n a]
    by_cases g : hh = wn / 6
    · subst g
      rw [p1 cc n b, Bool.or_eq_true, decide_eq_true_eq, h.le2 _ cc n a b]
      constructor
      · rintro (⟨c, d⟩ | ⟨c, d, e⟩)
        · refine ⟨Or.inl c, ?_⟩
          have c1 := c.1; have c2 := c.2.1
          rw [e6 _ (by omega) (by omega)]; exact d
        · refine ⟨Or.inr ⟨rfl, c, d⟩, ?_⟩
          rw [show 60 * (wn / 6) + n = 10 * wn + (n - 10 * (wn % 6)) by omega, e4 _ (by omega)]; exact e
      · rintro ⟨c | c, d⟩
        · refine Or.inl ⟨c, ?_⟩
          have c1 := c.1; have c2 := c.2.1
          rw [e6 _ (by omega) (by omega)] at d; exact d
        · refine Or.inr ⟨c.2.1, c.2.2, ?_⟩
          rw [show 60 * (wn / 6) + n = 10 * wn + (n - 10 * (wn % 6)) by omega, e4 _ (by omega)] at d; exact d
    · rw [p4 _ _ (by omega) (by omega) (by omega), h.le2 hh cc n a b]
      constructor
      · rintro ⟨c, d⟩
        refine ⟨Or.inl c, ?_⟩
        have c1 := c.1; have c2 := c.2.1
        rw [e6 _ (by omega) (by omega)]; exact d
      · rintro ⟨c | c, d⟩
        · refine ⟨c, ?_⟩
          have c1 := c.1; have c2 := c.2.1
          rw [e6 _ (by omega) (by omega)] at d; exact d
        · exact absurd c.1 g
  · rw [ln hh n a]
    by_cases g : hh = wn / 6
    · subst g
      rw [p2 n, Bool.or_eq_true, decide_eq_true_eq, h.st _ n a]
      constructor
      · rintro (⟨c, d⟩ | d)
        · exact ⟨Or.inl c, d⟩
        · exact ⟨Or.inr ⟨rfl, by omega, by omega⟩, by omega⟩
      · rintro ⟨c | c, d⟩
        · exact Or.inl ⟨c, d⟩
        · exact Or.inr (by omega)
    · rw [p4 _ _ (by omega) (by omega) (by omega), h.st hh n a]
      constructor
      · rintro ⟨c, d⟩; exact ⟨Or.inl c, d⟩
      · rintro ⟨c | c, d⟩
        · exact ⟨c, d⟩
        · exact absurd c.1 g
  · rw [ln hh n a]
    by_cases g : hh = wn / 6
    · subst g
      rw [p3 n, Bool.or_eq_true, decide_eq_true_eq, h.en _ n a]
      constructor
      · rintro (⟨c, d⟩ | d)
        · refine ⟨Or.inl c, ?_⟩
          have c1 := c.1; have c2 := c.2.1
          rw [e5 _ (by omega) (by omega)]; exact d
        · refine ⟨Or.inr ⟨rfl, by omega, by omega⟩, ?_⟩
          rw [show 6 * (wn / 6) + n / 10 = wn by omega, e3]; omega
      · rintro ⟨c | c, d⟩
        · refine Or.inl ⟨c, ?_⟩
          have c1 := c.1; have c2 := c.2.1
          rw [e5 _ (by omega) (by omega)] at d; exact d
        · rw [show 6 * (wn / 6) + n / 10 = wn by omega, e3] at d
          exact Or.inr (by omega)
    · rw [p4 _ _ (by omega) (by omega) (by omega), h.en hh n a]
      constructor
      · rintro ⟨c, d⟩
        refine ⟨Or.inl c, ?_⟩
        have c1 := c.1; have c2 := c.2.1
        rw [e5 _ (by omega) (by omega)]; exact d
      · rintro ⟨c | c, d⟩
        · refine ⟨c, ?_⟩
          have c1 := c.1; have c2 := c.2.1
          rw [e5 _ (by omega) (by omega)] at d; exact d
        · exact absurd c.1 g
/-- n signs of a run end at place m of half h -/
def wNM (I : Nat → Nat → Int32) (wn : Nat) (sg : Nat → Int) (c1 : Int) (n h m : Nat) : Prop := wLN I wn h m ∧ n ≤ m % 10 + 1 ∧ (c1 ≠ 0 → n = m % 10 + 1) ∧ ∀ j, j < n → isLt (sg j) → rd I 184 (60 * h + (m + 1 - n) + j) = sg j
/-- the class has read n signs of a run -/
def wRS (I : Nat → Nat → Int32) (J J' : Nat → Nat → Int64) (wn : Nat) (sg : Nat → Int) (c1 : Int) (n : Nat) : Prop := (1 ≤ n → ∀ h m, h < 2 → (tb (J' 141 h) m = true ↔ wNM I wn sg c1 n h m)) ∧ (n = 0 → ∀ h m, h < 2 → wLN I wn h m → (tb (J' 140 h) m = true ↔ (c1 ≠ 0 → m % 10 = 0))) ∧ (1 ≤ n → ∀ h m, h < 2 → wLN I wn h m → (tb (J' 140 h) m = true ↔ m % 10 ≠ 0 ∧ wNM I wn sg c1 n h (m - 1))) ∧ (∀ id k, id ≠ 140 → id ≠ 141 → J' id k = J id k)
theorem wRS_mk {I : Nat → Nat → Int32} {J J' : Nat → Nat → Int64} {wn : Nat} {sg : Nat → Int} {c1 : Int} {n : Nat} (h : (1 ≤ n → ∀ h m, h < 2 → (tb (J' 141 h) m = true ↔ wNM I wn sg c1 n h m)) ∧ (n = 0 → ∀ h m, h < 2 → wLN I wn h m → (tb (J' 140 h) m = true ↔ (c1 ≠ 0 → m % 10 = 0))) ∧ (1 ≤ n → ∀ h m, h < 2 → wLN I wn h m → (tb (J' 140 h) m = true ↔ m % 10 ≠ 0 ∧ wNM I wn sg c1 n h (m - 1))) ∧ (∀ id k, id ≠ 140 → id ≠ 141 → J' id k = J id k)) : wRS I J J' wn sg c1 n := h
theorem wRS.m {I : Nat → Nat → Int32} {J J' : Nat → Nat → Int64} {wn : Nat} {sg : Nat → Int} {c1 : Int} {n : Nat} (h : wRS I J J' wn sg c1 n) : 1 ≤ n → ∀ h m, h < 2 → (tb (J' 141 h) m = true ↔ wNM I wn sg c1 n h m) := h.1
theorem wRS.e0 {I : Nat → Nat → Int32} {J J' : Nat → Nat → Int64} {wn : Nat} {sg : Nat → Int} {c1 : Int} {n : Nat} (h : wRS I J J' wn sg c1 n) : n = 0 → ∀ h m, h < 2 → wLN I wn h m → (tb (J' 140 h) m = true ↔ (c1 ≠ 0 → m % 10 = 0)) := h.2.1
theorem wRS.e1 {I : Nat → Nat → Int32} {J J' : Nat → Nat → Int64} {wn : Nat} {sg : Nat → Int} {c1 : Int} {n : Nat} (h : wRS I J J' wn sg c1 n) : 1 ≤ n → ∀ h m, h < 2 → wLN I wn h m → (tb (J' 140 h) m = true ↔ m % 10 ≠ 0 ∧ wNM I wn sg c1 n h (m - 1)) := h.2.2.1
theorem wRS.f {I : Nat → Nat → Int32} {J J' : Nat → Nat → Int64} {wn : Nat} {sg : Nat → Int} {c1 : Int} {n : Nat} (h : wRS I J J' wn sg c1 n) : ∀ id k, id ≠ 140 → id ≠ 141 → J' id k = J id k := h.2.2.2
theorem wRS_begin {I : Nat → Nat → Int32} {J J0 J' : Nat → Nat → Int64} {wn : Nat} {sg : Nat → Int} {c1 : Int} (h : wRL I J wn) (hf : ∀ id k, id ≠ 140 → id ≠ 141 → J0 id k = J id k) (hj : ∀ id k, J' id k = if id = 140 ∧ k < 2 then (if c1 = 0 then J0 (136 + k) 26 else J0 138 k) else J0 id k) : wRS I J J' wn sg c1 0 := by
  refine wRS_mk ⟨fun q => by omega, fun _ hh m a b => ?_, fun q => by omega, fun id k g1 g2 => ?_⟩
  · rw [hj, if_pos ⟨rfl, a⟩]
    by_cases g : c1 = 0
    · rw [if_pos g, hf _ _ (by omega) (by omega), h.le2 hh 26 m a (by decide)]
      exact ⟨fun _ q => absurd g q, fun _ => ⟨b, Or.inl rfl⟩⟩
    · rw [if_neg g, hf _ _ (by omega) (by omega), h.st hh m a]
      exact ⟨fun q _ => q.2, fun q => ⟨b, q g⟩⟩
  · rw [hj, if_neg (fun q => g1 q.1)]; exact hf id k g1 g2
theorem wRS_next {I : Nat → Nat → Int32} {J J1 J' : Nat → Nat → Int64} {wn : Nat} {sg : Nat → Int} {c1 : Int} {n : Nat} {x : Int} (h : wRL I J wn) (r : wRS I J J1 wn sg c1 n) (x0 : 0 ≤ x) (x1 : x ≤ 26) (hx : isLt (sg n) → x = sg n - 97) (hx2 : ¬ isLt (sg n) → x = 26) (hj : ∀ id k, J' id k = if id = 141 ∧ k < 2 then J1 140 k &&& J1 (136 + k) x.toNat else if id = 140 ∧ k < 2 then ((J1 140 k &&& J1 (136 + k) x.toNat) <<< ((iI 1).toInt64 &&& 63)) &&& (J1 138 k ^^^ (-1)) else J1 id k) : wRS I J J' wn sg c1 (n + 1) := by
  have hle := h.le
  have key : ∀ hh m, hh < 2 → (tb (J1 140 hh &&& J1 (136 + hh) x.toNat) m = true ↔ wNM I wn sg c1 (n + 1) hh m) := fun hh m a => by
    rw [tb_and, Bool.and_eq_true, r.f (136 + hh) _ (by omega) (by omega), h.le2 hh x.toNat m a (by omega)]
    have lx : wLN I wn hh m → ((x.toNat = 26 ∨ rd I 184 (60 * hh + m) = 97 + (x.toNat : Int)) ↔ (isLt (sg n) → rd I 184 (60 * hh + m) = sg n)) := fun ln => by
      by_cases g : isLt (sg n)
      · have e := hx g
        have g' : 97 ≤ sg n ∧ sg n ≤ 122 := g
        constructor
        · intro q _; omega
        · intro q; have := q g; omega
      · have e := hx2 g
        exact ⟨fun _ q => absurd q g, fun _ => Or.inl (by omega)⟩
    by_cases n0 : n = 0
    · subst n0
      constructor
      · rintro ⟨p, ln, q⟩
        have p' := (r.e0 rfl hh m a ln).mp p
        refine ⟨ln, by omega, fun g => by have := p' g; omega, fun j hj il => ?_⟩
        have : j = 0 := by omega
        subst this
        exact (lx ln).mp q il
      · rintro ⟨ln, q1, q2, q3⟩
        refine ⟨(r.e0 rfl hh m a ln).mpr (fun g => by have := q2 g; omega), ln, (lx ln).mpr fun il => ?_⟩
        exact q3 0 (by omega) il
    · constructor
      · rintro ⟨p, ln, q⟩
        obtain ⟨p0, p1, p2, p3, p4⟩ := (r.e1 (by omega) hh m a ln).mp p
        refine ⟨ln, by omega, fun g => by have := p3 g; omega, fun j hj il => ?_⟩
        by_cases g : j = n
        · subst g
          rw [show 60 * hh + (m + 1 - (j + 1)) + j = 60 * hh + m by omega]
          exact (lx ln).mp q il
        · rw [← p4 j (by omega) il]; congr 1; omega
      · rintro ⟨ln, q1, q2, q3⟩
        refine ⟨(r.e1 (by omega) hh m a ln).mpr ⟨by omega, ⟨by have := ln.1; omega, ?_, ?_⟩, by omega, fun g => by have := q2 g; omega, fun j hj il => ?_⟩, ln, (lx ln).mpr fun il => ?_⟩
        · rw [show (m - 1) / 10 = m / 10 by omega]; exact ln.2.1
        · rw [show (m - 1) / 10 = m / 10 by omega]; have := ln.2.2; omega
        · rw [← q3 j (by omega) il]; congr 1; omega
        · rw [← q3 n (by omega) il]; congr 1; omega
  refine wRS_mk ⟨fun _ hh m a => ?_, fun q => by omega, fun _ hh m a ln => ?_, fun id k g1 g2 => ?_⟩
  · rw [hj, if_pos ⟨rfl, a⟩]; exact key hh m a
  · rw [hj, if_neg (by omega), if_pos ⟨rfl, a⟩, tb_and, tb_xor, tb_m1 (by have := ln.1; omega)]
    have s1 := tb_shl (J1 140 hh &&& J1 (136 + hh) x.toNat) (k := 1) (by decide) m
    rw [show ((1 : Nat) : Int) = 1 from rfl] at s1
    rw [s1, r.f 138 hh (by decide) (by decide)]
    have st := h.st hh m a
    have kk := key hh (m - 1) a
    have l1 := ln.1
    by_cases g : m % 10 = 0
    · have : tb (J 138 hh) m = true := st.mpr ⟨ln, g⟩
      rw [this]
      simp [g]
    · have : tb (J 138 hh) m = false := by
        cases e : tb (J 138 hh) m
        · rfl
        · exact absurd (st.mp e).2 g
      rw [this, decide_eq_true (show 1 ≤ m ∧ m < 64 by omega)]
      simp only [Bool.true_and, Bool.false_xor, Bool.and_true]
      rw [kk]
      exact ⟨fun q => ⟨g, q⟩, fun q => q.2⟩
  · rw [hj, if_neg (fun q => g2 q.1), if_neg (fun q => g1 q.1)]; exact r.f id k g1 g2
/-- a run of n signs may be word w -/
def cB (I : Nat → Nat → Int32) (sg : Nat → Int) (n : Nat) (c1 c2 : Int) (w : Nat) : Prop := ∃ i : Nat, ((i + n : Nat) : Int) ≤ rd I 183 w ∧ (c1 ≠ 0 → i = 0) ∧ (c2 ≠ 0 → ((i + n : Nat) : Int) = rd I 183 w) ∧ ∀ j, j < n → isLt (sg j) → rd I 184 (10 * w + i + j) = sg j
/-- the class has read a run of n signs to its end -/
def wRE (I : Nat → Nat → Int32) (J J' : Nat → Nat → Int64) (wn : Nat) (sg : Nat → Int) (c1 c2 : Int) (n : Nat) : Prop := (∀ w, w < wn → ((∃ p, p < 10 ∧ tb (J' 141 (w / 6)) (10 * (w % 6) + p) = true) ↔ cB I sg n c1 c2 w)) ∧ ((J' 141 0 ≠ 0 ∨ J' 141 1 ≠ 0) ↔ ∃ w, w < wn ∧ cB I sg n c1 c2 w) ∧ (∀ id k, id ≠ 140 → id ≠ 141 → J' id k = J id k)
theorem wRE_mk {I : Nat → Nat → Int32} {J J' : Nat → Nat → Int64} {wn : Nat} {sg : Nat → Int} {c1 c2 : Int} {n : Nat} (h : (∀ w, w < wn → ((∃ p, p < 10 ∧ tb (J' 141 (w / 6)) (10 * (w % 6) + p) = true) ↔ cB I sg n c1 c2 w)) ∧ ((J' 141 0 ≠ 0 ∨ J' 141 1 ≠ 0) ↔ ∃ w, w < wn ∧ cB I sg n c1 c2 w) ∧ (∀ id k, id ≠ 140 → id ≠ 141 → J' id k = J id k)) : wRE I J J' wn sg c1 c2 n := h
theorem wRE.b {I : Nat → Nat → Int32} {J J' : Nat → Nat → Int64} {wn : Nat} {sg : Nat → Int} {c1 c2 : Int} {n : Nat} (h : wRE I J J' wn sg c1 c2 n) : ∀ w, w < wn → ((∃ p, p < 10 ∧ tb (J' 141 (w / 6)) (10 * (w % 6) + p) = true) ↔ cB I sg n c1 c2 w) := h.1
theorem wRE.a {I : Nat → Nat → Int32} {J J' : Nat → Nat → Int64} {wn : Nat} {sg : Nat → Int} {c1 c2 : Int} {n : Nat} (h : wRE I J J' wn sg c1 c2 n) : (J' 141 0 ≠ 0 ∨ J' 141 1 ≠ 0) ↔ ∃ w, w < wn ∧ cB I sg n c1 c2 w := h.2.1
theorem wRE.f {I : Nat → Nat → Int32} {J J' : Nat → Nat → Int64} {wn : Nat} {sg : Nat → Int} {c1 c2 : Int} {n : Nat} (h : wRE I J J' wn sg c1 c2 n) : ∀ id k, id ≠ 140 → id ≠ 141 → J' id k = J id k := h.2.2
theorem wRS_end {I : Nat → Nat → Int32} {J J1 J' : Nat → Nat → Int64} {wn : Nat} {sg : Nat → Int} {c1 c2 : Int} {n : Nat} (h : wRL I J wn) (r : wRS I J J1 wn sg c1 n) (hn : 1 ≤ n) (hj : ∀ id k, J' id k = if id = 141 ∧ k < 2 ∧ c2 ≠ 0 then J1 141 k &&& J1 139 k else J1 id k) : wRE I J J' wn sg c1 c2 n := by
  have hle := h.le
  have key : ∀ hh m, hh < 2 → (tb (J' 141 hh) m = true ↔ wNM I wn sg c1 n hh m ∧ (c2 ≠ 0 → ((m % 10 : Nat) : Int) + 1 = rd I 183 (6 * hh + m / 10))) := fun hh m a => by
    rw [hj]
    by_cases g : c2 = 0
    · rw [if_neg (fun q => q.2.2 g), r.m hn hh m a]
      exact ⟨fun q => ⟨q, fun u => absurd g u⟩, fun q => q.1⟩
    · rw [if_pos ⟨rfl, a, g⟩, tb_and, Bool.and_eq_true, r.m hn hh m a, r.f 139 hh (by decide) (by decide), h.en hh m a]
      exact ⟨fun q => ⟨q.1, fun _ => q.2.2⟩, fun q => ⟨q.1, q.1.1, q.2 g⟩⟩
  have cb : ∀ hh m, hh < 2 → tb (J' 141 hh) m = true → 6 * hh + m / 10 < wn ∧ cB I sg n c1 c2 (6 * hh + m / 10) := fun hh m a q => by
    obtain ⟨⟨q1, q2, q3, q4⟩, q5⟩ := (key hh m a).mp q
    have l1 := q1.1
    have l3 := q1.2.2
    refine ⟨q1.2.1, m % 10 + 1 - n, by omega, fun g => by have := q3 g; omega, fun g => by have := q5 g; omega, fun j hj il => ?_⟩
    rw [← q4 j hj il]; congr 1; omega
  have bc : ∀ w, w < wn → cB I sg n c1 c2 w → ∃ p, p < 10 ∧ tb (J' 141 (w / 6)) (10 * (w % 6) + p) = true := fun w hw q => by
    obtain ⟨i, q1, q2, q3, q4⟩ := q
    have sz := h.sz w hw
    refine ⟨i + n - 1, by omega, (key _ _ (by omega)).mpr ⟨⟨⟨by omega, by omega, ?_⟩, by omega, fun g => by have := q2 g; omega, fun j hj il => ?_⟩, fun g => ?_⟩⟩
    · rw [show 6 * (w / 6) + (10 * (w % 6) + (i + n - 1)) / 10 = w by omega]; omega
    · rw [← q4 j hj il]; congr 1; omega
    · rw [show 6 * (w / 6) + (10 * (w % 6) + (i + n - 1)) / 10 = w by omega]; have := q3 g; omega
  refine wRE_mk ⟨fun w hw => ⟨?_, bc w hw⟩, ⟨?_, ?_⟩, fun id k g1 g2 => ?_⟩
  · rintro ⟨p, p1, p2⟩
    have := (cb _ _ (by omega) p2).2
    rw [show 6 * (w / 6) + (10 * (w % 6) + p) / 10 = w by omega] at this
    exact this
  · rintro (q | q)
    · obtain ⟨m, _, q2⟩ := tb_ne.mp q
      exact ⟨_, cb 0 m (by decide) q2⟩
    · obtain ⟨m, _, q2⟩ := tb_ne.mp q
      exact ⟨_, cb 1 m (by decide) q2⟩
  · rintro ⟨w, w1, w2⟩
    obtain ⟨p, p1, p2⟩ := bc w w1 w2
    rcases (show w / 6 = 0 ∨ w / 6 = 1 by omega) with e | e
    · rw [e] at p2; exact Or.inl (tb_ne.mpr ⟨_, by omega, p2⟩)
    · rw [e] at p2; exact Or.inr (tb_ne.mpr ⟨_, by omega, p2⟩)
  · rw [hj, if_neg (fun q => g2 q.1)]; exact r.f id k g1 g2
theorem wRE_canBe {I : Nat → Nat → Int32} {J J' : Nat → Nat → Int64} {wn : Nat} {sg : Nat → Int} {c1 c2 : Int} {n k : Nat} (r : wRE I J J' wn sg c1 c2 n) (hk : k < wn) : (((J' 141 (k / 6)).toUInt64 >>> ((iI (((k % 6 : Nat) : Int) * 10)).toInt64.toUInt64 &&& Int64.toUInt64 63)).toInt64 &&& 1023 ≠ 0) ↔ cB I sg n c1 c2 k := by
  rw [tb_canBe _ (by omega)]; exact r.b k hk
