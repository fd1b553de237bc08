/-! places by their numbers -/
abbrev pn (R C : Int) : Int := 64 * (R + 5) + (C + 10)
theorem pn_rc {R C : Int} (h : -5 < R ∧ R < 16 ∧ -10 < C ∧ C < 32) : plR (pn R C) = R ∧ plC (pn R C) = C ∧ nx (pn R C) := by
  unfold plR plC pn nx
  omega
theorem pn_pl {p : Int} (h : nx p) : pn (plR p) (plC p) = p := by
  have nn : -4 ≤ p / 64 - 5 ∧ p / 64 - 5 ≤ 15 ∧ -9 ≤ p % 64 - 10 ∧ p % 64 - 10 ≤ 31 := h
  unfold plR plC pn
  omega
theorem nx_rg {p : Int} (h : nx p) : -5 < plR p ∧ plR p < 16 ∧ -10 < plC p ∧ plC p < 32 := by
  have nn : -4 ≤ p / 64 - 5 ∧ p / 64 - 5 ≤ 15 ∧ -9 ≤ p % 64 - 10 ∧ p % 64 - 10 ≤ 31 := h
  unfold plR plC
  omega
def SP (I : Nat → Nat → Int32) (a b n1 n2 wn : Nat) (ca cb : Nat → Int) (x y : Int) : Prop := (nx x ∧ nx y) ∧ (plS I a ca n1 wn 0 (plR x) (plC x) ∧ plS I b cb n2 wn 0 (plR y) (plC y)) ∧ (0 < sdC I a n1 (plR x) (plC x) ∨ 0 < sdC I b n2 (plR y) (plC y)) ∧ gW I a b n1 n2 ca (plR x) (plC x) (plR y) (plC y) ≠ -1 ∧ cW I wn ca cb (plR x) (plC x) (plR y) (plC y)
theorem BS_pl {I I0 : Nat → Nat → Int32} {a b n1 n2 m1 m2 wn : Nat} {ca cb : Nat → Int} {g x y : Int} (hQ : sQ I I0 a b n1 n2 m1 m2 wn ca cb) (h : BS g x y (PI I I0 a b n1 n2 m1 m2 wn ca cb) (wI I I0 a b n1 n2 ca)) : BS g (pn (rd I0 153 x.toNat) (rd I0 154 x.toNat)) (pn (rd I0 158 y.toNat) (rd I0 159 y.toNat)) (SP I a b n1 n2 wn ca cb) (fun x y => gW I a b n1 n2 ca (plR x) (plC x) (plR y) (plC y)) := by
  have key : ∀ x' y', SP I a b n1 n2 wn ca cb x' y' → ∃ i k : Nat, PI I I0 a b n1 n2 m1 m2 wn ca cb i k ∧ i < m1 ∧ k < m2 ∧ x' = pn (rd I0 153 i) (rd I0 154 i) ∧ y' = pn (rd I0 158 k) (rd I0 159 k) ∧ (plR x' = rd I0 153 i ∧ plC x' = rd I0 154 i) ∧ plR y' = rd I0 158 k ∧ plC y' = rd I0 159 k := fun x' y' ⟨⟨s1, s2⟩, ⟨s3, s4⟩, s5, s6, s7⟩ => by
    obtain ⟨i, hi, i1, i2⟩ := hQ.2.1.2.2.2.2 _ _ s3
    obtain ⟨k, hk, k1, k2⟩ := hQ.2.2.1.2.2.2.2 _ _ s4
    have q := sQ_at hQ hi hk
    have i1' : rd I0 153 i = plR x' := i1
    have i2' : rd I0 154 i = plC x' := i2
    have k1' : rd I0 158 k = plR y' := k1
    have k2' : rd I0 159 k = plC y' := k2
    refine ⟨i, k, ⟨i, k, rfl, rfl, hi, hk, ?_, ?_⟩, hi, hk, by rw [i1', i2', pn_pl s1], by rw [k1', k2', pn_pl s2], ⟨i1'.symm, i2'.symm⟩, k1'.symm, k2'.symm⟩
    · rw [q.2.2.2.1, q.2.2.2.2, i1', i2', k1', k2']
      rcases s5 with u | u
      · left; rw [if_pos u]; decide
      · right; rw [if_pos u]; decide
    · unfold gO
      rw [i1', i2', k1', k2']
      exact ⟨s6, s7⟩
  have back : ∀ x y, PI I I0 a b n1 n2 m1 m2 wn ca cb x y → ∃ i k : Nat, x = i ∧ y = k ∧ i < m1 ∧ k < m2 ∧ SP I a b n1 n2 wn ca cb (pn (rd I0 153 i) (rd I0 154 i)) (pn (rd I0 158 k) (rd I0 159 k)) := fun x y ⟨i, k, e1, e2, hi, hk, t, G⟩ => by
    have q := sQ_at hQ hi hk
    have p1 := pn_rc q.1.1
    have p2 := pn_rc q.1.2
    refine ⟨i, k, e1, e2, hi, hk, ⟨p1.2.2, p2.2.2⟩, ?_⟩
    rw [p1.1, p1.2.1, p2.1, p2.2.1]
    refine ⟨⟨(hQ.2.1.2.2.1 i hi).1, (hQ.2.2.1.2.2.1 k hk).1⟩, ?_, G.1, G.2⟩
    rw [q.2.2.2.1, q.2.2.2.2] at t
    rcases t with u | u
    · left
      exact Classical.byContradiction fun v => u (if_neg v)
    · right
      exact Classical.byContradiction fun v => u (if_neg v)
  obtain ⟨h0, h1, h2⟩ := h
  refine ⟨h0, fun e x' y' s => ?_, fun e => ?_⟩
  · obtain ⟨i, k, u, _⟩ := key x' y' s
    exact h1 e _ _ u
  · obtain ⟨b1, b2, b3⟩ := h2 e
    obtain ⟨i0, k0, e1, e2, hi0, hk0, s0⟩ := back _ _ b1
    have q0 := sQ_at hQ hi0 hk0
    have p1 := pn_rc q0.1.1
    have p2 := pn_rc q0.1.2
    rw [e1, e2, Int.toNat_natCast, Int.toNat_natCast]
    unfold wI at b2
    rw [e1, e2, Int.toNat_natCast, Int.toNat_natCast] at b2
    refine ⟨s0, ?_, fun x' y' s => ?_⟩
    · show gW I a b n1 n2 ca (plR (pn (rd I0 153 i0) (rd I0 154 i0))) (plC (pn (rd I0 153 i0) (rd I0 154 i0))) (plR (pn (rd I0 158 k0) (rd I0 159 k0))) (plC (pn (rd I0 158 k0) (rd I0 159 k0))) = g
      rw [p1.1, p1.2.1, p2.1, p2.2.1]; exact b2
    · obtain ⟨i, k, u, hi, hk, ex, ey, ⟨x1, x2⟩, y1, y2⟩ := key x' y' s
      have t := b3 _ _ u
      unfold wI at t
      rw [Int.toNat_natCast, Int.toNat_natCast] at t
      show gW I a b n1 n2 ca (plR x') (plC x') (plR y') (plC y') < g ∨ (gW I a b n1 n2 ca (plR x') (plC x') (plR y') (plC y') = g ∧ _)
      rw [x1, x2, y1, y2]
      rcases t with t | ⟨t1, t2⟩
      · exact Or.inl t
      · refine Or.inr ⟨t1, ?_⟩
        rw [ex, ey]
        rw [e1, e2] at t2
        rcases t2 with v | ⟨v1, v2⟩
        · left
          have := hQ.2.1.2.2.2.1 i0 i (by omega) hi
          have o : 64 * rd I0 153 i0 + rd I0 154 i0 < 64 * rd I0 153 i + rd I0 154 i := this
          unfold pn; omega
        · right
          have ei : i0 = i := by omega
          refine ⟨by rw [ei], ?_⟩
          by_cases w : k0 = k
          · rw [w]; exact Int.le_refl _
          · have := hQ.2.2.1.2.2.2.1 k0 k (by omega) hk
            have o : 64 * rd I0 158 k0 + rd I0 159 k0 < 64 * rd I0 158 k + rd I0 159 k := this
            unfold pn; omega
/-- one BIT: the first greatest -/
theorem BS_1 {I I0 : Nat → Nat → Int32} {a n1 m wn i : Nat} {ca : Nat → Int} (hE : pE I0 152 m (plS I a ca n1 wn 1) (gnC I a n1) (tcC I a n1)) (hg : ∀ R C : Int, 0 ≤ gnC I a n1 R C) (hi : i < m) (h1 : ∀ j, j < m → rd I0 155 j ≤ rd I0 155 i) (h2 : ∀ j, j < i → rd I0 155 j < rd I0 155 i) : BS (rd I0 155 i) (pn (rd I0 153 i) (rd I0 154 i)) 0 (fun x y => (nx x ∧ plS I a ca n1 wn 1 (plR x) (plC x)) ∧ y = 0) (fun x _ => gnC I a n1 (plR x) (plC x)) := by
  have q := hE.2.2.1 i hi
  have g1 : rd I0 155 i = gnC I a n1 (rd I0 153 i) (rd I0 154 i) := q.2.1
  have p := pn_rc q.1.2.1.1
  refine ⟨by rw [g1]; have := hg (rd I0 153 i) (rd I0 154 i); omega, fun e => ?_, fun _ => ⟨⟨⟨p.2.2, ?_⟩, rfl⟩, ?_, fun x y ⟨⟨s1, s2⟩, s3⟩ => ?_⟩⟩
  · rw [g1] at e; have := hg (rd I0 153 i) (rd I0 154 i); omega
  · have t : plR (pn (rd I0 153 i) (rd I0 154 i)) = rd I0 153 i ∧ plC (pn (rd I0 153 i) (rd I0 154 i)) = rd I0 154 i := ⟨p.1, p.2.1⟩
    rw [t.1, t.2]; exact q.1
  · have t : plR (pn (rd I0 153 i) (rd I0 154 i)) = rd I0 153 i ∧ plC (pn (rd I0 153 i) (rd I0 154 i)) = rd I0 154 i := ⟨p.1, p.2.1⟩
    show gnC I a n1 (plR (pn (rd I0 153 i) (rd I0 154 i))) (plC (pn (rd I0 153 i) (rd I0 154 i))) = rd I0 155 i
    rw [t.1, t.2, g1]
  · obtain ⟨j, hj, j1, j2⟩ := hE.2.2.2.2 _ _ s2
    have gj : rd I0 155 j = gnC I a n1 (rd I0 153 j) (rd I0 154 j) := (hE.2.2.1 j hj).2.1
    have j1' : rd I0 153 j = plR x := j1
    have j2' : rd I0 154 j = plC x := j2
    rw [j1', j2'] at gj
    show gnC I a n1 (plR x) (plC x) < rd I0 155 i ∨ (gnC I a n1 (plR x) (plC x) = rd I0 155 i ∧ _)
    rw [← gj]
    have l1 := h1 j hj
    by_cases v : rd I0 155 j < rd I0 155 i
    · exact Or.inl v
    · refine Or.inr ⟨by omega, ?_⟩
      have ij : i ≤ j := by
        apply Classical.byContradiction
        intro w
        have := h2 j (by omega)
        omega
      have ex : x = pn (rd I0 153 j) (rd I0 154 j) := by rw [j1', j2', pn_pl s1]
      rw [ex, s3]
      by_cases w : i = j
      · right; rw [w]; exact ⟨rfl, Int.le_refl _⟩
      · left
        have := hE.2.2.2.1 i j (by omega) hj
        have o : 64 * rd I0 153 i + rd I0 154 i < 64 * rd I0 153 j + rd I0 154 j := this
        unfold pn; omega
/-- counted -/
theorem cn_en {q : Nat → Bool} {f : Nat → Nat} {m : Nat} (h2 : ∀ i j, i < j → j < m → f i < f j) (h1 : ∀ j, j < m → q (f j) = true) : ∀ (N i : Nat), i ≤ m → (∀ j, j < i → f j < N) → (∀ j, i ≤ j → j < m → N ≤ f j) → (∀ p, p < N → q p = true → ∃ j, j < m ∧ f j = p) → cn q N = i
  | 0, i, _, a, _, _ => by
    cases i with
    | zero => rfl
    | succ i => exact absurd (a i (by omega)) (Nat.not_lt_zero _)
  | N + 1, i, hi, a, b, h3 => by
    rw [cn]
    cases i with
    | zero =>
      rw [cn_en h2 h1 N 0 (by omega) (fun j hj => absurd hj (Nat.not_lt_zero _)) (fun j h0 hj => by have := b j h0 hj; omega) (fun p hp => h3 p (by omega)), if_neg]
      · rfl
      · intro g
        obtain ⟨j, hj, e⟩ := h3 N (by omega) g
        have := b j (by omega) hj
        omega
    | succ i =>
      by_cases e : f i = N
      · rw [cn_en h2 h1 N i (by omega) (fun j hj => by have := h2 j i hj (by omega); omega) (fun j h0 hj => by
          rcases Nat.eq_or_lt_of_le h0 with q | q
          · rw [← q]; omega
          · have := h2 i j q hj; omega) (fun p hp => h3 p (by omega)), if_pos (by rw [← e]; exact h1 i (by omega))]
        omega
      · have ai := a i (by omega)
        rw [cn_en h2 h1 N (i + 1) (by omega) (fun j hj => by
          rcases Nat.lt_succ_iff_lt_or_eq.mp hj with q | q
          · have := h2 j i q (by omega); omega
          · rw [q]; omega) (fun j h0 hj => by have := b j h0 hj; omega) (fun p hp => h3 p (by omega)), if_neg]
        · omega
        · intro g
          obtain ⟨j, hj, e2⟩ := h3 N (by omega) g
          by_cases q : j < i + 1
          · rcases Nat.lt_succ_iff_lt_or_eq.mp q with u | u
            · have := h2 j i u (by omega); omega
            · rw [u] at e2; exact e e2
          · have := b j (by omega) hj; omega
theorem cn_pE {I I0 : Nat → Nat → Int32} {P m : Nat} {S : Int → Int → Prop} {g t : Int → Int → Int} {Z : Int → Prop} (hE : pE I0 P m S g t) (hr : rgS S) (hz : ∀ p, Z p ↔ nx p ∧ S (plR p) (plC p)) : cn (fun p : Nat => pBo (Z (p : Int))) 1344 = m := by
  have rg : ∀ j, j < m → -5 < rd I0 (P + 1) j ∧ rd I0 (P + 1) j < 16 ∧ -10 < rd I0 (P + 2) j ∧ rd I0 (P + 2) j < 32 := fun j hj => hr _ _ (hE.2.2.1 j hj).1
  have bd : ∀ j, j < m → 0 ≤ pn (rd I0 (P + 1) j) (rd I0 (P + 2) j) ∧ pn (rd I0 (P + 1) j) (rd I0 (P + 2) j) < 1344 := fun j hj => by have := rg j hj; unfold pn; omega
  refine cn_en (f := fun j => (pn (rd I0 (P + 1) j) (rd I0 (P + 2) j)).toNat) (m := m) (fun i j hij hj => ?_) (fun j hj => ?_) 1344 m (by omega) (fun j hj => ?_) (fun j h0 hj => by omega) (fun p hp u => ?_)
  · have o := hE.2.2.2.1 i j hij hj
    have b1 := bd i (by omega)
    have b2 := bd j hj
    show (pn (rd I0 (P + 1) i) (rd I0 (P + 2) i)).toNat < (pn (rd I0 (P + 1) j) (rd I0 (P + 2) j)).toNat
    unfold pn at *
    omega
  · have b := bd j hj
    have p := pn_rc (rg j hj)
    have e : (((pn (rd I0 (P + 1) j) (rd I0 (P + 2) j)).toNat : Nat) : Int) = pn (rd I0 (P + 1) j) (rd I0 (P + 2) j) := by omega
    show pBo (Z (((pn (rd I0 (P + 1) j) (rd I0 (P + 2) j)).toNat : Nat) : Int)) = true
    rw [e]
    refine pBo_t ((hz _).mpr ⟨p.2.2, ?_⟩)
    have t : plR (pn (rd I0 (P + 1) j) (rd I0 (P + 2) j)) = rd I0 (P + 1) j ∧ plC (pn (rd I0 (P + 1) j) (rd I0 (P + 2) j)) = rd I0 (P + 2) j := ⟨p.1, p.2.1⟩
    rw [t.1, t.2]
    exact (hE.2.2.1 j hj).1
  · have b := bd j hj
    show (pn (rd I0 (P + 1) j) (rd I0 (P + 2) j)).toNat < 1344
    omega
  · have v := (hz (p : Int)).mp (pBo_iff.mp u)
    obtain ⟨j, hj, j1, j2⟩ := hE.2.2.2.2 _ _ v.2
    refine ⟨j, hj, ?_⟩
    show (pn (rd I0 (P + 1) j) (rd I0 (P + 2) j)).toNat = p
    rw [j1, j2, pn_pl v.1, Int.toNat_natCast]
