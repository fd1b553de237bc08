/-! Places of the class; what the search leaves as it was -/
abbrev fS (I I' : Nat → Nat → Int32) : Prop := ∀ id k, ¬ (151 ≤ id ∧ id ≤ 166) → rd I' id k = rd I id k
def bK (I : Nat → Nat → Int32) (b : Nat) (ce : Nat → Int) (n : Nat) : Prop := b < 10 ∧ (∀ k, k < 50 → rd I (bI b 1) k = ce k) ∧ RBc I b ce n ∧ RBe I b ce ∧ 1 ≤ n
def shK (I : Nat → Nat → Int32) : Prop := (∀ l : Nat, l < 16 → 0 ≤ rd I 147 l ∧ rd I 147 l ≤ 1000) ∧ (∀ l : Nat, l < 32 → 0 ≤ rd I 150 l ∧ rd I 150 l ≤ 1000) ∧ ∀ y x : Int, inS y x → owAt I y x = -1 → sgAt I y x = 95
def rmC (I : Nat → Nat → Int32) (ce : Nat → Int) (R C : Int) : Prop := (-5 < R ∧ R < 16 ∧ -10 < C ∧ C < 32) ∧ ∀ y x : Int, cA ce R C y x ≠ 95 → inS y x ∧ owAt I y x = -1
def sdC (I : Nat → Nat → Int32) (b n : Nat) (R C : Int) : Int := smN (fun j => sd4 I (R + rd I (bI b 2) j) (C + rd I (bI b 3) j)) n
def fwC (I : Nat → Nat → Int32) (b : Nat) (R C : Int) : Int := wLs I 147 16 (fun i : Int => tF I (bI b 7) (bI b 8) 5 i) R 5 + wLs I 150 32 (fun i : Int => tF I (bI b 10) (bI b 11) 10 i) C 10
def aC (I : Nat → Nat → Int32) (wn : Nat) : Prop := ∀ y : Nat, y < 16 → allR I wn (fun x => sgAt I y x)
def wC (I : Nat → Nat → Int32) (wn : Nat) (ce : Nat → Int) (R C : Int) : Prop := ∀ y : Nat, y < 16 → allR I wn (fun x => pS I ce R C y x)
def qLq (I : Nat → Nat → Int32) (b : Nat) (R C : Int) : Prop := qLa I b R ∨ qLd I b C
def plS (I : Nat → Nat → Int32) (b : Nat) (ce : Nat → Int) (n wn : Nat) (to : Int) (R C : Int) : Prop := aC I wn ∧ rmC I ce R C ∧ ¬ qLq I b R C ∧ (to ≠ 0 → sdC I b n R C ≠ 0) ∧ wC I wn ce R C
theorem bI_lt {b r : Nat} (hb : b < 10) (hr : r < 13) : ¬ (151 ≤ bI b r ∧ bI b r ≤ 166) := by unfold bI; omega
theorem owAt_S {I I' : Nat → Nat → Int32} (h : fS I I') (y x : Int) : owAt I' y x = owAt I y x := by unfold owAt; rw [h 144 _ (by omega)]
theorem sgAt_S {I I' : Nat → Nat → Int32} (h : fS I I') (y x : Int) : sgAt I' y x = sgAt I y x := by unfold sgAt; rw [h 143 _ (by omega)]
theorem sd4_S {I I' : Nat → Nat → Int32} (h : fS I I') (y x : Int) : sd4 I' y x = sd4 I y x := by unfold sd4 tk; simp only [owAt_S h]
theorem RBe_S {I I' : Nat → Nat → Int32} {b : Nat} {ce : Nat → Int} (hb : b < 10) (h : fS I I') (g : RBe I b ce) : RBe I' b ce := by
  unfold RBe at *
  simp only [h _ _ (bI_lt hb (show 4 < 13 by decide)), h _ _ (bI_lt hb (show 5 < 13 by decide)), h _ _ (bI_lt hb (show 8 < 13 by decide)), h _ _ (bI_lt hb (show 11 < 13 by decide))]
  exact g
theorem RBc_S {I I' : Nat → Nat → Int32} {b n : Nat} {ce : Nat → Int} (hb : b < 10) (h : fS I I') (g : RBc I b ce n) : RBc I' b ce n := RBc_fr g (h _ _ (bI_lt hb (by decide))) (fun k => h _ _ (bI_lt hb (by decide))) (fun k => h _ _ (bI_lt hb (by decide)))
theorem bK_S {I I' : Nat → Nat → Int32} {b n : Nat} {ce : Nat → Int} (h : fS I I') (g : bK I b ce n) : bK I' b ce n := ⟨g.1, fun k hk => by rw [h _ _ (bI_lt g.1 (by decide))]; exact g.2.1 k hk, RBc_S g.1 h g.2.2.1, RBe_S g.1 h g.2.2.2.1, g.2.2.2.2⟩
theorem shK_S {I I' : Nat → Nat → Int32} (h : fS I I') (g : shK I) : shK I' := by
  refine ⟨fun l hl => ?_, fun l hl => ?_, fun y x => ?_⟩
  · rw [h _ _ (by omega)]; exact g.1 l hl
  · rw [h _ _ (by omega)]; exact g.2.1 l hl
  · rw [owAt_S h, sgAt_S h]; exact g.2.2 y x
theorem tFa_S {I I' : Nat → Nat → Int32} {b : Nat} (hb : b < 10) (h : fS I I') (i : Int) : tF I' (bI b 7) (bI b 8) 5 i = tF I (bI b 7) (bI b 8) 5 i := tF_cg (fun k => h _ _ (bI_lt hb (by decide))) (fun k => h _ _ (bI_lt hb (by decide))) 5 i
theorem tFd_S {I I' : Nat → Nat → Int32} {b : Nat} (hb : b < 10) (h : fS I I') (i : Int) : tF I' (bI b 10) (bI b 11) 10 i = tF I (bI b 10) (bI b 11) 10 i := tF_cg (fun k => h _ _ (bI_lt hb (by decide))) (fun k => h _ _ (bI_lt hb (by decide))) 10 i
theorem wLs_cg {I I' : Nat → Nat → Int32} {q : Nat} {N fm : Int} {f f' : Int → Int} (h : ∀ k, rd I' q k = rd I q k) (hf : ∀ i, f' i = f i) : ∀ n : Nat, wLs I' q N f' fm n = wLs I q N f fm n
  | 0 => rfl
  | n + 1 => by
    rw [wLs, wLs, wLs_cg h hf n]
    unfold wLc
    simp only [h, hf]
theorem fwC_S {I I' : Nat → Nat → Int32} {b : Nat} (hb : b < 10) (h : fS I I') (R C : Int) : fwC I' b R C = fwC I b R C := by
  unfold fwC
  rw [wLs_cg (fun k => h 147 k (by omega)) (tFa_S hb h), wLs_cg (fun k => h 150 k (by omega)) (tFd_S hb h)]
theorem sdC_S {I I' : Nat → Nat → Int32} {b : Nat} (hb : b < 10) (h : fS I I') (n : Nat) (R C : Int) : sdC I' b n R C = sdC I b n R C := by
  unfold sdC
  simp only [sd4_S h, h _ _ (bI_lt hb (show 2 < 13 by decide)), h _ _ (bI_lt hb (show 3 < 13 by decide))]
theorem qLa_S {I I' : Nat → Nat → Int32} {b : Nat} (hb : b < 10) (h : fS I I') (R : Int) : qLa I' b R ↔ qLa I b R := by
  unfold qLa wLc
  simp only [tFa_S hb h, h 146 _ (show ¬ (151 ≤ 146 ∧ 146 ≤ 166) by omega), h 147 _ (show ¬ (151 ≤ 147 ∧ 147 ≤ 166) by omega)]
theorem qLd_S {I I' : Nat → Nat → Int32} {b : Nat} (hb : b < 10) (h : fS I I') (R : Int) : qLd I' b R ↔ qLd I b R := by
  unfold qLd wLc
  simp only [tFd_S hb h, h 149 _ (show ¬ (151 ≤ 149 ∧ 149 ≤ 166) by omega), h 150 _ (show ¬ (151 ≤ 150 ∧ 150 ≤ 166) by omega)]
theorem qLq_S {I I' : Nat → Nat → Int32} {b : Nat} (hb : b < 10) (h : fS I I') {R C : Int} : (qLa I' b R ∨ qLd I' b C) ↔ qLq I b R C := by
  unfold qLq
  rw [qLa_S hb h, qLd_S hb h]
theorem allR_S {I I' : Nat → Nat → Int32} (h : fS I I') {wn : Nat} {s : Int → Int} : allR I' wn s ↔ allR I wn s := allR_I (fun k => h 183 k (by omega)) (fun k => h 184 k (by omega))
theorem pS_S {I I' : Nat → Nat → Int32} (h : fS I I') (ce : Nat → Int) (R C y x : Int) : pS I' ce R C y x = pS I ce R C y x := by unfold pS; rw [sgAt_S h]
theorem aC_S {I I' : Nat → Nat → Int32} (h : fS I I') {wn : Nat} : aC I' wn ↔ aC I wn := by
  unfold aC
  simp only [allR_S h, sgAt_S h]
theorem wC_S {I I' : Nat → Nat → Int32} (h : fS I I') {wn : Nat} {ce : Nat → Int} {R C : Int} : wC I' wn ce R C ↔ wC I wn ce R C := by
  unfold wC
  simp only [allR_S h, pS_S h]
theorem rmC_S {I I' : Nat → Nat → Int32} (h : fS I I') {ce : Nat → Int} {R C : Int} : rmC I' ce R C ↔ rmC I ce R C := by
  unfold rmC
  simp only [owAt_S h]
theorem plS_S {I I' : Nat → Nat → Int32} {b : Nat} (hb : b < 10) (h : fS I I') {ce : Nat → Int} {n wn : Nat} {to R C : Int} : plS I' b ce n wn to R C ↔ plS I b ce n wn to R C := by
  unfold plS
  rw [aC_S h, rmC_S h, show qLq I' b R C ↔ qLq I b R C from qLq_S hb h, sdC_S hb h, wC_S h]
theorem wRL_S {I I' : Nat → Nat → Int32} {J J' : Nat → Nat → Int64} {wn : Nat} (h : fS I I') (hj : ∀ id k, id ≠ 140 → id ≠ 141 → J' id k = J id k) (g : wRL I J wn) : wRL I' J' wn := wRL_fr g (h _ _ (by omega)) (h _ _ (by omega)) (fun k _ => h _ _ (by omega)) (fun k _ => h _ _ (by omega)) hj
theorem smN_bd {f : Nat → Int} {m : Int} : ∀ n : Nat, (∀ j, j < n → 0 ≤ f j ∧ f j ≤ m) → 0 ≤ smN f n ∧ smN f n ≤ n * m
  | 0, _ => by simp [smN]
  | n + 1, h => by
    have a := smN_bd n (fun j hj => h j (by omega))
    have c := h n (by omega)
    rw [smN, show ((n + 1 : Nat) : Int) * m = n * m + m by rw [Int.natCast_add]; simp [Int.add_mul]]
    omega
theorem sdC_bd {I : Nat → Nat → Int32} {b n : Nat} {ce : Nat → Int} (g : RBc I b ce n) (R C : Int) : 0 ≤ sdC I b n R C ∧ sdC I b n R C ≤ 200 := by
  have h := smN_bd (f := fun j => sd4 I (R + rd I (bI b 2) j) (C + rd I (bI b 3) j)) (m := 4) n (fun j _ => sd4_bd I _ _)
  have h2 := g.2.1
  unfold sdC
  omega
theorem fwC_bd {I : Nat → Nat → Int32} (g : shK I) (b : Nat) (R C : Int) : 0 ≤ fwC I b R C ∧ fwC I b R C ≤ 30000 := by
  have w1 := wLs_bd (I := I) (q := 147) (N := 16) (f := fun i : Int => tF I (bI b 7) (bI b 8) 5 i) (fm := R) g.1 5
  have w2 := wLs_bd (I := I) (q := 150) (N := 32) (f := fun i : Int => tF I (bI b 10) (bI b 11) 10 i) (fm := C) g.2.1 10
  unfold fwC
  constructor <;> (simp only [Int.ofNat_eq_natCast, Int.cast_ofNat_Int] at w1 w2; omega)
/-- the places of P: those of S, in their order, with gains and touching -/
def pE (I : Nat → Nat → Int32) (P m : Nat) (S : Int → Int → Prop) (g t : Int → Int → Int) : Prop := m ≤ 512 ∧ rd I P 4 = m ∧ (∀ j, j < m → S (rd I (P + 1) j) (rd I (P + 2) j) ∧ rd I (P + 3) j = g (rd I (P + 1) j) (rd I (P + 2) j) ∧ rd I (P + 4) j = (if 0 < t (rd I (P + 1) j) (rd I (P + 2) j) then 1 else 0)) ∧ (∀ i j, i < j → j < m → 64 * rd I (P + 1) i + rd I (P + 2) i < 64 * rd I (P + 1) j + rd I (P + 2) j) ∧ ∀ R C, S R C → ∃ j, j < m ∧ rd I (P + 1) j = R ∧ rd I (P + 2) j = C
theorem pE_cg {I : Nat → Nat → Int32} {P m : Nat} {S S' : Int → Int → Prop} {g t : Int → Int → Int} (h : pE I P m S g t) (hs : ∀ R C, S' R C ↔ S R C) : pE I P m S' g t := by
  have : S' = S := funext fun R => funext fun C => propext (hs R C)
  rw [this]; exact h
theorem pE_fr {I I' : Nat → Nat → Int32} {P m : Nat} {S : Int → Int → Prop} {g t : Int → Int → Int} (h : pE I P m S g t) (hx : ∀ id k, P ≤ id → id ≤ P + 4 → rd I' id k = rd I id k) : pE I' P m S g t := by
  unfold pE at *
  simp only [hx P _ (by omega) (by omega), hx (P + 1) _ (by omega) (by omega), hx (P + 2) _ (by omega) (by omega), hx (P + 3) _ (by omega) (by omega), hx (P + 4) _ (by omega) (by omega)]
  exact h
abbrev pL (S : Int → Int → Prop) (r c : Int) : Int → Int → Prop := fun R C => S R C ∧ 64 * R + C < 64 * r + c
abbrev rgS (S : Int → Int → Prop) : Prop := ∀ R C, S R C → -5 < R ∧ R < 16 ∧ -10 < C ∧ C < 32
theorem pE_skip {I : Nat → Nat → Int32} {P m : Nat} {S : Int → Int → Prop} {g t : Int → Int → Int} {r c : Int} (hr : rgS S) (h : pE I P m (pL S r c) g t) (hc : -10 < c ∧ c < 32) (hn : ¬ S r c) : pE I P m (pL S r (c + 1)) g t := by
  refine pE_cg h (fun R C => ?_)
  constructor
  · rintro ⟨a, b⟩
    refine ⟨a, ?_⟩
    have q := hr R C a
    apply Classical.byContradiction
    intro u
    have e1 : R = r := by omega
    have e2 : C = c := by omega
    rw [e1, e2] at a
    exact hn a
  · rintro ⟨a, b⟩
    exact ⟨a, by omega⟩
theorem pE_row {I : Nat → Nat → Int32} {P m : Nat} {S : Int → Int → Prop} {g t : Int → Int → Int} {r c : Int} (hr : rgS S) (h : pE I P m (pL S r c) g t) (hc : c = 32) : pE I P m (pL S (r + 1) (-9)) g t := by
  refine pE_cg h (fun R C => ?_)
  constructor
  · rintro ⟨a, b⟩
    have q := hr R C a
    exact ⟨a, by omega⟩
  · rintro ⟨a, b⟩
    exact ⟨a, by omega⟩
theorem pE_end {I : Nat → Nat → Int32} {P m : Nat} {S : Int → Int → Prop} {g t : Int → Int → Int} {r c : Int} (hr : rgS S) (h : pE I P m (pL S r c) g t) (hc : r = 16) (h9 : -9 ≤ c) : pE I P m S g t := by
  refine pE_cg h (fun R C => ?_)
  constructor
  · intro a
    have q := hr R C a
    exact ⟨a, by omega⟩
  · rintro ⟨a, b⟩
    exact a
def nB (y x : Int) : Int := if y < 0 then 0 else if 16 ≤ y then 512 else if x < 0 then 32 * y else if 32 ≤ x then 32 * y + 32 else 32 * y + x
theorem nB_nx (y x : Int) : nB y x ≤ nB y (x + 1) := by
  unfold nB
  repeat' split
  all_goals omega
theorem nB_ad {y x : Int} (h : inS y x) : nB y x < 512 ∧ nB y x + 1 ≤ nB y (x + 1) := by
  have h2 : 0 ≤ y ∧ y < 16 ∧ 0 ≤ x ∧ x < 32 := h
  unfold nB
  repeat' split
  all_goals omega
theorem nB_ro (y x x' : Int) : nB y x ≤ nB (y + 1) x' := by
  unfold nB
  repeat' split
  all_goals omega
theorem nB_le (y x : Int) : 0 ≤ nB y x ∧ nB y x ≤ 512 := by
  unfold nB
  repeat' split
  all_goals omega
abbrev pW (I : Nat → Nat → Int32) (P m : Nat) (R C g t : Int) : Nat → Nat → Int32 := wr (wr (wr (wr (wr I (P + 1) m R) (P + 2) m C) (P + 3) m g) (P + 4) m t) P 4 ((m : Int) + 1)
theorem pW_rd {I : Nat → Nat → Int32} {P m : Nat} {R C g t : Int} (bR : -2147483648 ≤ R ∧ R < 2147483648) (bC : -2147483648 ≤ C ∧ C < 2147483648) (bg : -2147483648 ≤ g ∧ g < 2147483648) (bt : -2147483648 ≤ t ∧ t < 2147483648) (bm : m ≤ 1000) (id k : Nat) : rd (pW I P m R C g t) id k = if id = P ∧ k = 4 then (m : Int) + 1 else if id = P + 4 ∧ k = m then t else if id = P + 3 ∧ k = m then g else if id = P + 2 ∧ k = m then C else if id = P + 1 ∧ k = m then R else rd I id k := by
  unfold pW
  rw [rd_wr (by omega) (by omega), rd_wr bt.1 bt.2, rd_wr bg.1 bg.2, rd_wr bC.1 bC.2, rd_wr bR.1 bR.2]
theorem pE_add {I : Nat → Nat → Int32} {P m : Nat} {S : Int → Int → Prop} {g t : Int → Int → Int} {r c gv tv : Int} (hr : rgS S) (h : pE I P m (pL S r c) g t) (hc : -10 < c ∧ c < 32) (hrr : -5 < r ∧ r < 16) (hs : S r c) (hm : m < 512) (hg : gv = g r c) (ht : tv = if 0 < t r c then 1 else 0) (bg : -2147483648 ≤ gv ∧ gv < 2147483648) : pE (pW I P m r c gv tv) P (m + 1) (pL S r (c + 1)) g t := by
  obtain ⟨h1, h2, h3, h4, h5⟩ := h
  have bt : -2147483648 ≤ tv ∧ tv < 2147483648 := by rw [ht]; split <;> omega
  have e := pW_rd (I := I) (P := P) (m := m) (R := r) (C := c) (g := gv) (t := tv) (by omega) (by omega) bg bt (by omega)
  have e1 : ∀ j, rd (pW I P m r c gv tv) (P + 1) j = if j = m then r else rd I (P + 1) j := fun j => by
    rw [e, if_neg (by omega), if_neg (by omega), if_neg (by omega), if_neg (by omega)]
    by_cases q : j = m
    · rw [if_pos ⟨rfl, q⟩, if_pos q]
    · rw [if_neg (by omega), if_neg q]
  have e2 : ∀ j, rd (pW I P m r c gv tv) (P + 2) j = if j = m then c else rd I (P + 2) j := fun j => by
    rw [e, if_neg (by omega), if_neg (by omega), if_neg (by omega)]
    by_cases q : j = m
    · rw [if_pos ⟨rfl, q⟩, if_pos q]
    · rw [if_neg (by omega), if_neg (by omega), if_neg q]
  have e3 : ∀ j, rd (pW I P m r c gv tv) (P + 3) j = if j = m then gv else rd I (P + 3) j := fun j => by
    rw [e, if_neg (by omega), if_neg (by omega)]
    by_cases q : j = m
    · rw [if_pos ⟨rfl, q⟩, if_pos q]
    · rw [if_neg (by omega), if_neg (by omega), if_neg (by omega), if_neg q]
  have e4 : ∀ j, rd (pW I P m r c gv tv) (P + 4) j = if j = m then tv else rd I (P + 4) j := fun j => by
    rw [e, if_neg (by omega)]
    by_cases q : j = m
    · rw [if_pos ⟨rfl, q⟩, if_pos q]
    · rw [if_neg (by omega), if_neg (by omega), if_neg (by omega), if_neg (by omega), if_neg q]
  refine ⟨by omega, by rw [e, if_pos ⟨rfl, rfl⟩]; omega, fun j hj => ?_, fun i j hij hj => ?_, fun R C hS => ?_⟩
  · rw [e1, e2, e3, e4]
    by_cases q : j = m
    · simp only [if_pos q]
      exact ⟨⟨hs, by omega⟩, hg, ht⟩
    · simp only [if_neg q]
      have a := h3 j (by omega)
      exact ⟨⟨a.1.1, by have := a.1.2; omega⟩, a.2⟩
  · rw [e1, e2, e1, e2]
    have qi : ¬ i = m := by omega
    by_cases q : j = m
    · simp only [if_pos q, if_neg qi]
      have a := h3 i (by omega)
      exact a.1.2
    · simp only [if_neg q, if_neg qi]
      exact h4 i j hij (by omega)
  · by_cases q : 64 * R + C < 64 * r + c
    · obtain ⟨j, a, b, d⟩ := h5 R C ⟨hS.1, q⟩
      refine ⟨j, by omega, ?_, ?_⟩
      · rw [e1, if_neg (by omega)]; exact b
      · rw [e2, if_neg (by omega)]; exact d
    · have u := hr R C hS.1
      have v := hS.2
      refine ⟨m, by omega, ?_, ?_⟩
      · rw [e1, if_pos rfl]; omega
      · rw [e2, if_pos rfl]; omega
theorem plS_rg {I : Nat → Nat → Int32} {b : Nat} {ce : Nat → Int} {n wn : Nat} {to : Int} : rgS (plS I b ce n wn to) := fun R C h => h.2.1.1
abbrev gnC (I : Nat → Nat → Int32) (b n : Nat) : Int → Int → Int := fun R C => fwC I b R C + sdC I b n R C
abbrev tcC (I : Nat → Nat → Int32) (b n : Nat) : Int → Int → Int := fun R C => sdC I b n R C
theorem x5_add_a {I : Nat → Nat → Int32} {J : Nat → Nat → Int64} {F : Option Value → zM → Prop} {R C g t : Int} (bR : -2147483648 ≤ R ∧ R < 2147483648) (bC : -2147483648 ≤ C ∧ C < 2147483648) (bg : -2147483648 ≤ g ∧ g < 2147483648) (ht : t = 0 ∨ t = 1) {m : Nat} (hc : rd I 152 4 = m) (hm : m < 512) (h : F none (gM (pW I 152 m R C g t) J)) : Cl yX5_add kX5_add [.ref 152, .int (iI R), .int (iI C), .int (iI g), .int (iI t)] (gM I J) F := by
  refine cl_s (by decide) (by decide) (Nat.le_of_ble_eq_true rfl) rt_v ?_
  show Wp _ F 0 [(0, .ref 152), (1, .int (iI R)), (2, .int (iI C)), (3, .int (iI g)), (4, .int (iI t))] [] _
  refine w_aload_n dX5_add_0 rfl ?_
  refine v_getI dX5_add_1 fX5_25 ⟨by decide, rfl⟩ (Or.inl rfl) (fun z1 e1 b1 => ?_)
  have f1 : z1 = m := by rw [e1]; exact hc
  refine w_sipush (v := iI 512) dX5_add_4 (by decide) ?_
  refine v_icmp_ge 61 dX5_add_7 (by decide) (by omega) (by omega) (fun c7 => ?_) (fun c7 => ?_)
  · refine v_vret dX5_add_61 rfl ⟨rfl, rfl⟩ ?_
    first
      | (exfalso; omega)
      | (rw [show z15.toNat = m by omega, show z25.toNat = m by omega, show z35.toNat = m by omega, show z45.toNat = m by omega, f53]; exact h)
  · refine w_aload_n dX5_add_10 rfl ?_
    refine v_getR (j := 153) dX5_add_11 fX5_9 ⟨by decide, rfl⟩ rfl rfl ?_
    refine w_aload_n dX5_add_14 rfl ?_
    refine v_getI dX5_add_15 fX5_25 ⟨by decide, rfl⟩ (Or.inl rfl) (fun z15 e15 b15 => ?_)
    have f15 : z15 = m := by rw [e15]; exact hc
    refine w_iload_n dX5_add_18 rfl ?_
    refine v_iast dX5_add_19 ⟨by decide, rfl⟩ (by omega) (by omega) (by decide) ?_
    refine w_aload_n dX5_add_20 rfl ?_
    refine v_getR (j := 154) dX5_add_21 fX5_15 ⟨by decide, rfl⟩ rfl rfl ?_
    refine w_aload_n dX5_add_24 rfl ?_
    refine v_getI dX5_add_25 fX5_25 ⟨by decide, rfl⟩ (Or.inl rfl) (fun z25 e25 b25 => ?_)
    have f25 : z25 = m := by rw [e25, rd_wr_row (by decide)]; exact hc
    refine w_iload_n dX5_add_28 rfl ?_
    refine v_iast dX5_add_29 ⟨by decide, rfl⟩ (by omega) (by omega) (by decide) ?_
    refine w_aload_n dX5_add_30 rfl ?_
    refine v_getR (j := 155) dX5_add_31 fX5_18 ⟨by decide, rfl⟩ rfl rfl ?_
    refine w_aload_n dX5_add_34 rfl ?_
    refine v_getI dX5_add_35 fX5_25 ⟨by decide, rfl⟩ (Or.inl rfl) (fun z35 e35 b35 => ?_)
    have f35 : z35 = m := by rw [e35, rd_wr_row (by decide), rd_wr_row (by decide)]; exact hc
    refine w_iload_n dX5_add_38 rfl ?_
    refine v_iast dX5_add_39 ⟨by decide, rfl⟩ (by omega) (by omega) (by decide) ?_
    refine w_aload_n dX5_add_40 rfl ?_
    refine v_getR (j := 156) dX5_add_41 fX5_21 ⟨by decide, rfl⟩ rfl rfl ?_
    refine w_aload_n dX5_add_44 rfl ?_
    refine v_getI dX5_add_45 fX5_25 ⟨by decide, rfl⟩ (Or.inl rfl) (fun z45 e45 b45 => ?_)
    have f45 : z45 = m := by rw [e45, rd_wr_row (by decide), rd_wr_row (by decide), rd_wr_row (by decide)]; exact hc
    refine w_iload dX5_add_48 rfl ?_
    refine v_zast dX5_add_50 ⟨by decide, rfl⟩ (by omega) (by omega) (by decide) (by omega) ?_
    refine w_aload_n dX5_add_51 rfl ?_
    refine w_dup dX5_add_52 rfl ?_
    refine v_getI dX5_add_53 fX5_25 ⟨by decide, rfl⟩ (Or.inl rfl) (fun z53 e53 b53 => ?_)
    have f53 : z53 = m := by rw [e53, rd_wr_row (by decide), rd_wr_row (by decide), rd_wr_row (by decide), rd_wr_row (by decide)]; exact hc
    refine w_iconst (v := iI 1) dX5_add_56 rfl ?_
    refine v_iadd dX5_add_57 ?_
    refine v_putI dX5_add_58 fX5_25 ⟨by decide, rfl⟩ rfl (Or.inl rfl) ?_
    refine v_vret dX5_add_61 rfl ⟨rfl, rfl⟩ ?_
    first
      | (exfalso; omega)
      | (rw [show z15.toNat = m by omega, show z25.toNat = m by omega, show z35.toNat = m by omega, show z45.toNat = m by omega, f53]; exact h)
theorem first_in {I : Nat → Nat → Int32} {b n : Nat} {ce : Nat → Int} {R C : Int} {X : Int → Int → Prop} (hK : bK I b ce n) (h : ∀ y x : Int, cA ce R C y x ≠ 95 → inS y x ∧ X y x) : inS (R + rd I (bI b 2) 0) (C + rd I (bI b 3) 0) := by
  obtain ⟨r, c, h1, h2, h3, h4, h5, h6⟩ := cp_rc hK.2.2.1 (show 0 < n from hK.2.2.2.2)
  have q := cA_at (ce := ce) (R := R) (C := C) h6
  have e1 : cp I b 0 / 10 = r := by omega
  have e2 : cp I b 0 % 10 = c := by omega
  rw [e1, e2] at q
  rw [h3, h4]
  exact (h _ _ (by rw [q]; exact (hK.2.2.1.2.2.1 0 hK.2.2.2.2).2.2.2.2)).1
theorem x5_collect_a_l {I : Nat → Nat → Int32} {J : Nat → Nat → Int64} {F : Option Value → zM → Prop} {b n wn : Nat} {ce : Nat → Int} (hK : bK I b ce n) (hs : shK I) (hL : wRL I J wn) {to : Int} (hto : to = 0 ∨ to = 1) (h : ∀ (I' : Nat → Nat → Int32) (J' : Nat → Nat → Int64) (m : Nat), (∀ id k, ¬ (152 ≤ id ∧ id ≤ 156) → rd I' id k = rd I id k) → (∀ id k, id ≠ 140 → id ≠ 141 → J' id k = J id k) → pE I' 152 m (plS I b ce n wn to) (gnC I b n) (tcC I b n) → F none (gM I' J')) (ha : aC I wn) : ∀ (nz : Nat) (row : Int) (col : Int) (m : Nat) (I' : Nat → Nat → Int32) (J' : Nat → Nat → Int64), (16 - row).toNat * 64 + (32 - col).toNat < nz → -4 ≤ row ∧ row ≤ 15 → -9 ≤ col → col ≤ 32 → (∀ id k, ¬ (152 ≤ id ∧ id ≤ 156) → rd I' id k = rd I id k) → (∀ id k, id ≠ 140 → id ≠ 141 → J' id k = J id k) → pE I' 152 m (pL (plS I b ce n wn to) row col) (gnC I b n) (tcC I b n) → ((m : Int) ≤ nB (row + rd I (bI b 2) 0) (col + rd I (bI b 3) 0)) → Wp (sE kX5_collect RX5) F 30 [(0, .ref 152), (1, .ref (bI b 0)), (2, .int (iI to)), (3, .ref 142), (4, .ref 134), (5, .int (iI row)), (6, .int (iI col))] [] (gM I' J') := by
  intro nz
  induction nz with
  | zero =>
    intro row col m I' J' hmz hr hc hc2 hx hJ hp hnb
    exact absurd hmz (Nat.not_lt_zero _)
  | succ nz ih =>
    intro row col m I' J' hmz hr hc hc2 hx hJ hp hnb
    have fx : fS I I' := fun id k g => hx id k (by omega)
    have r0 := hK.2.2.1.2.2.1 0 (by have := hK.2.2.2.2; omega)
    refine w_iload dX5_collect_30 rfl ?_
    refine w_bipush (v := iI 32) dX5_collect_32 (by decide) ?_
    refine v_icmp_ge 135 dX5_collect_34 (by decide) (by omega) (by omega) (fun c34 => ?_) (fun c34 => ?_)
    · refine v_iinc dX5_collect_135 rfl rfl rfl ?_
      refine w_goto 19 dX5_collect_138 (by decide) ?_
      refine w_iload dX5_collect_19 rfl ?_
      refine w_bipush (v := iI 16) dX5_collect_21 (by decide) ?_
      refine v_icmp_ge 141 dX5_collect_23 (by decide) (by omega) (by omega) (fun c23 => ?_) (fun c23 => ?_)
      · refine v_vret dX5_collect_141 rfl ⟨rfl, rfl⟩ ?_
        exact h I' J' m hx hJ (pE_end plS_rg (pE_row plS_rg hp (by omega)) (by omega) (by omega))
      · refine w_bipush (v := iI (-9)) dX5_collect_26 (by decide) ?_
        refine w_istore dX5_collect_28 rfl rfl ?_
        refine w_keep 7 ?_
        refine ih (row + 1) (-9) m I' J' (by omega) (by omega) (by omega) (by omega) hx hJ (pE_row plS_rg hp (by omega)) (by have := nB_ro (row + rd I (bI b 2) 0) (col + rd I (bI b 3) 0) (-9 + rd I (bI b 3) 0); rw [show row + 1 + rd I (bI b 2) 0 = row + rd I (bI b 2) 0 + 1 by omega]; omega)
    · refine w_aload_n dX5_collect_37 rfl ?_
      refine w_aload_n dX5_collect_38 rfl ?_
      refine w_iload dX5_collect_39 rfl ?_
      refine w_iload dX5_collect_41 rfl ?_
      refine v_callV3 dX5_collect_43 lX5_35 vX8_hasRoom (by decide) rfl rfl ⟨by decide, rfl⟩ (by decide) rfl (Nat.le_of_ble_eq_true rfl) ?_
      refine x8_hasRoom hK.1 (RBc_S hK.1 fx hK.2.2.1) (by omega) (by omega) (fun q43 => ?_) (fun q43 => ?_)
      all_goals (have q43' := q43; simp only [owAt_S fx] at q43'; clear q43)
      · refine v_if_ne 52 dX5_collect_46 (by decide) (by decide) (fun _ => ?_) (fun q => absurd q (by decide))
        refine w_aload_n dX5_collect_52 rfl ?_
        refine w_aload_n dX5_collect_53 rfl ?_
        refine w_iload dX5_collect_54 rfl ?_
        refine w_iload dX5_collect_56 rfl ?_
        refine v_callV3 dX5_collect_58 lX5_39 vX8_sidesOf (by decide) rfl rfl ⟨by decide, rfl⟩ (by decide) rfl (Nat.le_of_ble_eq_true rfl) ?_
        refine x8_sidesOf hK.1 (RBc_S hK.1 fx hK.2.2.1) (by omega) (by omega) ?_
        have s1 : smN (fun j => sd4 I' (row + rd I' (bI b 2) j) (col + rd I' (bI b 3) j)) n = sdC I b n row col := sdC_S hK.1 fx n row col
        rw [s1]
        have s2 := sdC_bd hK.2.2.1 row col
        have hin : inS (row + rd I (bI b 2) 0) (col + rd I (bI b 3) 0) := first_in hK q43'.2
        refine w_istore dX5_collect_61 rfl rfl ?_
        refine w_aload_n dX5_collect_63 rfl ?_
        refine w_aload_n dX5_collect_64 rfl ?_
        refine w_iload dX5_collect_65 rfl ?_
        refine w_iload dX5_collect_67 rfl ?_
        refine v_callV3 dX5_collect_69 lX5_43 vX8_fibreWorth (by decide) rfl rfl ⟨by decide, rfl⟩ (by decide) rfl (Nat.le_of_ble_eq_true rfl) ?_
        refine x8_fibreWorth hK.1 (shK_S fx hs).1 (shK_S fx hs).2.1 (by omega) (by omega) (fun qf => ?_) (fun qf => ?_)
        all_goals rw [qLq_S hK.1 fx] at qf
        rotate_left
        rw [show wLs I' 147 16 (fun i : Int => tF I' (bI b 7) (bI b 8) 5 i) row 5 + wLs I' 150 32 (fun i : Int => tF I' (bI b 10) (bI b 11) 10 i) col 10 = fwC I b row col from fwC_S hK.1 fx row col]
        have f2 := fwC_bd hs b row col
        rotate_left
        · refine w_istore dX5_collect_72 rfl rfl ?_
          refine w_iload dX5_collect_74 rfl ?_
          refine w_iconst (v := iI (-1)) dX5_collect_76 rfl ?_
          refine v_icmp_eq 129 dX5_collect_77 (by decide) (by decide) (by decide) (fun _ => ?_) (fun q => absurd q (by decide))
          refine v_iinc dX5_collect_129 rfl rfl rfl ?_
          refine w_goto 30 dX5_collect_132 (by decide) ?_
          refine w_keep 7 ?_
          refine ih row (col + 1) m I' J' (by omega) (by omega) (by omega) (by omega) hx hJ (pE_skip plS_rg hp (by omega) (fun g => ?_)) (by have := nB_nx (row + rd I (bI b 2) 0) (col + rd I (bI b 3) 0); rw [show col + 1 + rd I (bI b 3) 0 = col + rd I (bI b 3) 0 + 1 by omega]; omega)
          exact g.2.2.1 qf
        · refine w_istore dX5_collect_72 rfl rfl ?_
          refine w_iload dX5_collect_74 rfl ?_
          refine w_iconst (v := iI (-1)) dX5_collect_76 rfl ?_
          refine v_icmp_eq 129 dX5_collect_77 (by decide) (by omega) (by omega) (fun c77 => ?_) (fun c77 => ?_)
          · refine v_iinc dX5_collect_129 rfl rfl rfl ?_
            refine w_goto 30 dX5_collect_132 (by decide) ?_
            refine w_keep 7 ?_
            refine ih row (col + 1) (m + 1) _ J1 (by omega) (by omega) (by omega) (by omega) (fun id k u => ?_) j2 (pE_add plS_rg hp (by omega) (by omega) ⟨ha, q43', qf, ?_, qr'.mp qr⟩ (by have := nB_ad hin; omega) rfl ?_ (by omega)) (by have := nB_ad hin; rw [show col + 1 + rd I (bI b 3) 0 = col + rd I (bI b 3) 0 + 1 by omega]; omega)
            · rw [pW_rd (by omega) (by omega) (by omega) (by omega) (by have := hp.1; omega), if_neg (by omega), if_neg (by omega), if_neg (by omega), if_neg (by omega), if_neg (by omega)]
              exact hx id k u
            · intro g; omega
            · show _ = if 0 < sdC I b n row col then (1 : Int) else 0
              first | rw [if_pos (by omega)] | rw [if_neg (by omega)]
          · refine w_iload_n dX5_collect_80 rfl ?_
            refine v_if_eq 92 dX5_collect_81 (by decide) (by omega) (fun c81 => ?_) (fun c81 => ?_)
            · refine w_aload_n dX5_collect_92 rfl ?_
              refine w_aload_n dX5_collect_93 rfl ?_
              refine w_iload dX5_collect_94 rfl ?_
              refine w_iload dX5_collect_96 rfl ?_
              refine w_aload dX5_collect_98 rfl ?_
              refine v_callV4 dX5_collect_100 lX5_46 vX8_runsCanWith (by decide) rfl rfl ⟨by decide, rfl⟩ (by decide) rfl (Nat.le_of_ble_eq_true rfl) ?_
              refine x8_runsCanWith (wn := wn) hK.1 (wRL_S fx hJ hL) (bK_S fx hK).2.1 (RBc_S hK.1 fx hK.2.2.1) (RBe_S hK.1 fx hK.2.2.2.1) (by omega) (by omega) (fun y x g => ⟨(q43'.2 y x g).1, by rw [sgAt_S fx]; exact hs.2.2 y x (q43'.2 y x g).1 (q43'.2 y x g).2⟩) ((aC_S fx).mpr ha) (fun qr J1 j1 => ?_) (fun qr J1 j1 => ?_)
              all_goals (have qr' : _ := (wC_S fx (wn := wn) (ce := ce) (R := row) (C := col)); have j2 : ∀ id k, id ≠ 140 → id ≠ 141 → J1 id k = J id k := fun id k u1 u2 => by rw [j1 id k u1 u2]; exact hJ id k u1 u2)
              · refine v_if_eq 129 dX5_collect_103 (by decide) (by decide) (fun q => absurd q (by decide)) (fun _ => ?_)
                refine w_aload_n dX5_collect_106 rfl ?_
                refine w_iload dX5_collect_107 rfl ?_
                refine w_iload dX5_collect_109 rfl ?_
                refine w_iload dX5_collect_111 rfl ?_
                refine w_iload dX5_collect_113 rfl ?_
                refine v_iadd dX5_collect_115 ?_
                refine w_iload dX5_collect_116 rfl ?_
                refine v_if_le 125 dX5_collect_118 (by decide) (by omega) (fun c118 => ?_) (fun c118 => ?_)
                · refine w_iconst (v := iI 0) dX5_collect_125 rfl ?_
                  refine v_callV4 dX5_collect_126 lX5_50 vX5_add (by decide) rfl rfl ⟨by decide, rfl⟩ (by decide) rfl (Nat.le_of_ble_eq_true rfl) ?_
                  refine x5_add_a (by omega) (by omega) (by omega) (by omega) hp.2.1 (by have := nB_ad hin; omega) ?_
                  refine v_iinc dX5_collect_129 rfl rfl rfl ?_
                  refine w_goto 30 dX5_collect_132 (by decide) ?_
                  refine w_keep 7 ?_
                  refine ih row (col + 1) (m + 1) _ J1 (by omega) (by omega) (by omega) (by omega) (fun id k u => ?_) j2 (pE_add plS_rg hp (by omega) (by omega) ⟨ha, q43', qf, ?_, qr'.mp qr⟩ (by have := nB_ad hin; omega) rfl ?_ (by omega)) (by have := nB_ad hin; rw [show col + 1 + rd I (bI b 3) 0 = col + rd I (bI b 3) 0 + 1 by omega]; omega)
                  · rw [pW_rd (by omega) (by omega) (by omega) (by omega) (by have := hp.1; omega), if_neg (by omega), if_neg (by omega), if_neg (by omega), if_neg (by omega), if_neg (by omega)]
                    exact hx id k u
                  · intro g; omega
                  · show _ = if 0 < sdC I b n row col then (1 : Int) else 0
                    first | rw [if_pos (by omega)] | rw [if_neg (by omega)]
                · refine w_iconst (v := iI 1) dX5_collect_121 rfl ?_
                  refine w_goto 126 dX5_collect_122 (by decide) ?_
                  refine v_callV4 dX5_collect_126 lX5_50 vX5_add (by decide) rfl rfl ⟨by decide, rfl⟩ (by decide) rfl (Nat.le_of_ble_eq_true rfl) ?_
                  refine x5_add_a (by omega) (by omega) (by omega) (by omega) hp.2.1 (by have := nB_ad hin; omega) ?_
                  refine v_iinc dX5_collect_129 rfl rfl rfl ?_
                  refine w_goto 30 dX5_collect_132 (by decide) ?_
                  refine w_keep 7 ?_
                  refine ih row (col + 1) (m + 1) _ J1 (by omega) (by omega) (by omega) (by omega) (fun id k u => ?_) j2 (pE_add plS_rg hp (by omega) (by omega) ⟨ha, q43', qf, ?_, qr'.mp qr⟩ (by have := nB_ad hin; omega) rfl ?_ (by omega)) (by have := nB_ad hin; rw [show col + 1 + rd I (bI b 3) 0 = col + rd I (bI b 3) 0 + 1 by omega]; omega)
                  · rw [pW_rd (by omega) (by omega) (by omega) (by omega) (by have := hp.1; omega), if_neg (by omega), if_neg (by omega), if_neg (by omega), if_neg (by omega), if_neg (by omega)]
                    exact hx id k u
                  · intro g; omega
                  · show _ = if 0 < sdC I b n row col then (1 : Int) else 0
                    first | rw [if_pos (by omega)] | rw [if_neg (by omega)]
              · refine v_if_eq 129 dX5_collect_103 (by decide) (by decide) (fun _ => ?_) (fun q => absurd q (by decide))
                refine v_iinc dX5_collect_129 rfl rfl rfl ?_
                refine w_goto 30 dX5_collect_132 (by decide) ?_
                refine w_keep 7 ?_
                refine ih row (col + 1) m I' J1 (by omega) (by omega) (by omega) (by omega) hx j2 (pE_skip plS_rg hp (by omega) (fun g => ?_)) (by have := nB_nx (row + rd I (bI b 2) 0) (col + rd I (bI b 3) 0); rw [show col + 1 + rd I (bI b 3) 0 = col + rd I (bI b 3) 0 + 1 by omega]; omega)
                exact qr (qr'.mpr g.2.2.2.2)
            · refine w_iload dX5_collect_84 rfl ?_
              refine v_if_ne 92 dX5_collect_86 (by decide) (by omega) (fun c86 => ?_) (fun c86 => ?_)
              · refine w_aload_n dX5_collect_92 rfl ?_
                refine w_aload_n dX5_collect_93 rfl ?_
                refine w_iload dX5_collect_94 rfl ?_
                refine w_iload dX5_collect_96 rfl ?_
                refine w_aload dX5_collect_98 rfl ?_
                refine v_callV4 dX5_collect_100 lX5_46 vX8_runsCanWith (by decide) rfl rfl ⟨by decide, rfl⟩ (by decide) rfl (Nat.le_of_ble_eq_true rfl) ?_
                refine x8_runsCanWith (wn := wn) hK.1 (wRL_S fx hJ hL) (bK_S fx hK).2.1 (RBc_S hK.1 fx hK.2.2.1) (RBe_S hK.1 fx hK.2.2.2.1) (by omega) (by omega) (fun y x g => ⟨(q43'.2 y x g).1, by rw [sgAt_S fx]; exact hs.2.2 y x (q43'.2 y x g).1 (q43'.2 y x g).2⟩) ((aC_S fx).mpr ha) (fun qr J1 j1 => ?_) (fun qr J1 j1 => ?_)
                all_goals (have qr' : _ := (wC_S fx (wn := wn) (ce := ce) (R := row) (C := col)); have j2 : ∀ id k, id ≠ 140 → id ≠ 141 → J1 id k = J id k := fun id k u1 u2 => by rw [j1 id k u1 u2]; exact hJ id k u1 u2)
                · refine v_if_eq 129 dX5_collect_103 (by decide) (by decide) (fun q => absurd q (by decide)) (fun _ => ?_)
                  refine w_aload_n dX5_collect_106 rfl ?_
                  refine w_iload dX5_collect_107 rfl ?_
                  refine w_iload dX5_collect_109 rfl ?_
                  refine w_iload dX5_collect_111 rfl ?_
                  refine w_iload dX5_collect_113 rfl ?_
                  refine v_iadd dX5_collect_115 ?_
                  refine w_iload dX5_collect_116 rfl ?_
                  refine v_if_le 125 dX5_collect_118 (by decide) (by omega) (fun c118 => ?_) (fun c118 => ?_)
                  · refine w_iconst (v := iI 0) dX5_collect_125 rfl ?_
                    refine v_callV4 dX5_collect_126 lX5_50 vX5_add (by decide) rfl rfl ⟨by decide, rfl⟩ (by decide) rfl (Nat.le_of_ble_eq_true rfl) ?_
                    refine x5_add_a (by omega) (by omega) (by omega) (by omega) hp.2.1 (by have := nB_ad hin; omega) ?_
                    refine v_iinc dX5_collect_129 rfl rfl rfl ?_
                    refine w_goto 30 dX5_collect_132 (by decide) ?_
                    refine w_keep 7 ?_
                    refine ih row (col + 1) (m + 1) _ J1 (by omega) (by omega) (by omega) (by omega) (fun id k u => ?_) j2 (pE_add plS_rg hp (by omega) (by omega) ⟨ha, q43', qf, ?_, qr'.mp qr⟩ (by have := nB_ad hin; omega) rfl ?_ (by omega)) (by have := nB_ad hin; rw [show col + 1 + rd I (bI b 3) 0 = col + rd I (bI b 3) 0 + 1 by omega]; omega)
                    · rw [pW_rd (by omega) (by omega) (by omega) (by omega) (by have := hp.1; omega), if_neg (by omega), if_neg (by omega), if_neg (by omega), if_neg (by omega), if_neg (by omega)]
                      exact hx id k u
                    · intro g; omega
                    · show _ = if 0 < sdC I b n row col then (1 : Int) else 0
                      first | rw [if_pos (by omega)] | rw [if_neg (by omega)]
                  · refine w_iconst (v := iI 1) dX5_collect_121 rfl ?_
                    refine w_goto 126 dX5_collect_122 (by decide) ?_
                    refine v_callV4 dX5_collect_126 lX5_50 vX5_add (by decide) rfl rfl ⟨by decide, rfl⟩ (by decide) rfl (Nat.le_of_ble_eq_true rfl) ?_
                    refine x5_add_a (by omega) (by omega) (by omega) (by omega) hp.2.1 (by have := nB_ad hin; omega) ?_
                    refine v_iinc dX5_collect_129 rfl rfl rfl ?_
                    refine w_goto 30 dX5_collect_132 (by decide) ?_
                    refine w_keep 7 ?_
                    refine ih row (col + 1) (m + 1) _ J1 (by omega) (by omega) (by omega) (by omega) (fun id k u => ?_) j2 (pE_add plS_rg hp (by omega) (by omega) ⟨ha, q43', qf, ?_, qr'.mp qr⟩ (by have := nB_ad hin; omega) rfl ?_ (by omega)) (by have := nB_ad hin; rw [show col + 1 + rd I (bI b 3) 0 = col + rd I (bI b 3) 0 + 1 by omega]; omega)
                    · rw [pW_rd (by omega) (by omega) (by omega) (by omega) (by have := hp.1; omega), if_neg (by omega), if_neg (by omega), if_neg (by omega), if_neg (by omega), if_neg (by omega)]
                      exact hx id k u
                    · intro g; omega
                    · show _ = if 0 < sdC I b n row col then (1 : Int) else 0
                      first | rw [if_pos (by omega)] | rw [if_neg (by omega)]
                · refine v_if_eq 129 dX5_collect_103 (by decide) (by decide) (fun _ => ?_) (fun q => absurd q (by decide))
                  refine v_iinc dX5_collect_129 rfl rfl rfl ?_
                  refine w_goto 30 dX5_collect_132 (by decide) ?_
                  refine w_keep 7 ?_
                  refine ih row (col + 1) m I' J1 (by omega) (by omega) (by omega) (by omega) hx j2 (pE_skip plS_rg hp (by omega) (fun g => ?_)) (by have := nB_nx (row + rd I (bI b 2) 0) (col + rd I (bI b 3) 0); rw [show col + 1 + rd I (bI b 3) 0 = col + rd I (bI b 3) 0 + 1 by omega]; omega)
                  exact qr (qr'.mpr g.2.2.2.2)
              · refine w_goto 129 dX5_collect_89 (by decide) ?_
                refine v_iinc dX5_collect_129 rfl rfl rfl ?_
                refine w_goto 30 dX5_collect_132 (by decide) ?_
                refine w_keep 7 ?_
                refine ih row (col + 1) m I' J' (by omega) (by omega) (by omega) (by omega) hx hJ (pE_skip plS_rg hp (by omega) (fun g => ?_)) (by have := nB_nx (row + rd I (bI b 2) 0) (col + rd I (bI b 3) 0); rw [show col + 1 + rd I (bI b 3) 0 = col + rd I (bI b 3) 0 + 1 by omega]; omega)
                exact g.2.2.2.1 (by omega) (by omega)
      · refine v_if_ne 52 dX5_collect_46 (by decide) (by decide) (fun q => absurd q (by decide)) (fun _ => ?_)
        refine w_goto 129 dX5_collect_49 (by decide) ?_
        refine v_iinc dX5_collect_129 rfl rfl rfl ?_
        refine w_goto 30 dX5_collect_132 (by decide) ?_
        refine w_keep 7 ?_
        refine ih row (col + 1) m I' J' (by omega) (by omega) (by omega) (by omega) hx hJ (pE_skip plS_rg hp (by omega) (fun g => ?_)) (by have := nB_nx (row + rd I (bI b 2) 0) (col + rd I (bI b 3) 0); rw [show col + 1 + rd I (bI b 3) 0 = col + rd I (bI b 3) 0 + 1 by omega]; omega)
        exact q43' g.2.1
theorem x5_collect_a {I : Nat → Nat → Int32} {J : Nat → Nat → Int64} {F : Option Value → zM → Prop} {b n wn : Nat} {ce : Nat → Int} (hK : bK I b ce n) (hs : shK I) (hL : wRL I J wn) {to : Int} (hto : to = 0 ∨ to = 1) (h : ∀ (I' : Nat → Nat → Int32) (J' : Nat → Nat → Int64) (m : Nat), (∀ id k, ¬ (152 ≤ id ∧ id ≤ 156) → rd I' id k = rd I id k) → (∀ id k, id ≠ 140 → id ≠ 141 → J' id k = J id k) → pE I' 152 m (plS I b ce n wn to) (gnC I b n) (tcC I b n) → F none (gM I' J')) : Cl yX5_collect kX5_collect [.ref 152, .ref (bI b 0), .int (iI to), .ref 142, .ref 134] (gM I J) F := by
  refine cl_s (by decide) (by decide) (Nat.le_of_ble_eq_true rfl) rt_v ?_
  show Wp _ F 0 [(0, .ref 152), (1, .ref (bI b 0)), (2, .int (iI to)), (3, .ref 142), (4, .ref 134)] [] _
  refine w_aload_n dX5_collect_0 rfl ?_
  refine w_iconst (v := iI 0) dX5_collect_1 rfl ?_
  refine v_putI dX5_collect_2 fX5_25 ⟨by decide, rfl⟩ rfl (Or.inl rfl) ?_
  refine w_aload_n dX5_collect_5 rfl ?_
  refine w_aload dX5_collect_6 rfl ?_
  refine v_callV1 dX5_collect_8 lX5_29 vX8_allRunsCan (by decide) rfl rfl ⟨by decide, rfl⟩ (by decide) rfl (Nat.le_of_ble_eq_true rfl) ?_
  have fx : ∀ id k, ¬ (152 ≤ id ∧ id ≤ 156) → rd (wr I 152 4 0) id k = rd I id k := fun id k g => rd_wr_row (by omega)
  have fx2 : fS I (wr I 152 4 0) := fun id k g => fx id k (by omega)
  refine x8_allRunsCan (wRL_S fx2 (fun _ _ _ _ => rfl) hL) (fun ha J1 j1 => ?_) (fun ha J1 j1 => ?_)
  all_goals have hac : aC (wr I 152 4 0) wn ↔ aC I wn := aC_S fx2
  · refine v_if_ne 15 dX5_collect_11 (by decide) (by decide) (fun _ => ?_) (fun q => absurd q (by decide))
    refine w_bipush (v := iI (-4)) dX5_collect_15 (by decide) ?_
    refine w_istore dX5_collect_17 rfl rfl ?_
    refine w_iload dX5_collect_19 rfl ?_
    refine w_bipush (v := iI 16) dX5_collect_21 (by decide) ?_
    refine v_icmp_ge 141 dX5_collect_23 (by decide) (by decide) (by decide) (fun q => absurd q (by decide)) (fun _ => ?_)
    refine w_bipush (v := iI (-9)) dX5_collect_26 (by decide) ?_
    refine w_istore dX5_collect_28 rfl rfl ?_
    refine x5_collect_a_l hK hs hL hto h (hac.mp ha) 2000 (-4) (-9) 0 _ J1 (by omega) (by omega) (by omega) (by omega) fx j1 ⟨by omega, rd_wr_eq (by decide) (by decide), fun j hj => by omega, fun i j _ hj => by omega, fun R C hS => ?_⟩ (nB_le _ _).1
    exact absurd hS.2 (by have := plS_rg R C hS.1; omega)
  · refine v_if_ne 15 dX5_collect_11 (by decide) (by decide) (fun q => absurd q (by decide)) (fun _ => ?_)
    refine v_vret dX5_collect_14 rfl ⟨rfl, rfl⟩ ?_
    refine h _ J1 0 fx j1 ⟨by omega, rd_wr_eq (by decide) (by decide), fun j hj => by omega, fun i j _ hj => by omega, fun R C hS => ?_⟩
    exact absurd (hac.mpr hS.1) ha
theorem x5_best_l {I : Nat → Nat → Int32} {J : Nat → Nat → Int64} {F : Option Value → zM → Prop} {m : Nat} (hm : m ≤ 512) (hc : rd I 152 4 = m) (hn : m = 0 → F (some (.int (iI (-1)))) (gM I J)) (hy : ∀ i : Nat, i < m → (∀ j, j < m → rd I 155 j ≤ rd I 155 i) → (∀ j, j < i → rd I 155 j < rd I 155 i) → F (some (.int (iI (i : Int)))) (gM I J)) : ∀ (nz : Nat) (k : Nat) (u : Int), m - k < nz → k ≤ m → -1 ≤ u ∧ u < k ∨ (u = -1) → (u = -1 → k = 0) → (u ≠ -1 → (∀ j, j < k → rd I 155 j ≤ rd I 155 u.toNat) ∧ ∀ j, j < u.toNat → rd I 155 j < rd I 155 u.toNat) → Wp (sE kX5_best RX5) F 4 [(0, .ref 152), (1, .int (iI u)), (2, .int (iI (k : Int)))] [] (gM I J) := by
  intro nz
  induction nz with
  | zero =>
    intro k u hmz hk hub hu0 hu1
    exact absurd hmz (Nat.not_lt_zero _)
  | succ nz ih =>
    intro k u hmz hk hub hu0 hu1
    refine w_iload_n dX5_best_4 rfl ?_
    refine w_aload_n dX5_best_5 rfl ?_
    refine v_getI dX5_best_6 fX5_25 ⟨by decide, rfl⟩ (Or.inl rfl) (fun z6 e6 b6 => ?_)
    have f6 : z6 = m := by rw [e6]; exact hc
    refine v_icmp_ge 40 dX5_best_9 (by decide) (by omega) (by omega) (fun c9 => ?_) (fun c9 => ?_)
    · refine w_iload_n dX5_best_40 rfl ?_
      refine v_iret dX5_best_41 rfl ⟨rfl, rfl⟩ ?_
      have e0 : k = m := by omega
      by_cases g : u = -1
      · rw [g]; exact hn (by have := hu0 g; omega)
      · have v := hu1 g
        have := hy u.toNat (by omega) (fun j hj => v.1 j (by omega)) v.2
        rw [show ((u.toNat : Nat) : Int) = u by omega] at this
        exact this
    · refine w_iload_n dX5_best_12 rfl ?_
      refine w_iconst (v := iI (-1)) dX5_best_13 rfl ?_
      refine v_icmp_eq 32 dX5_best_14 (by decide) (by omega) (by omega) (fun c14 => ?_) (fun c14 => ?_)
      · refine w_iload_n dX5_best_32 rfl ?_
        refine w_istore_n dX5_best_33 rfl rfl ?_
        refine v_iinc dX5_best_34 rfl rfl rfl ?_
        refine w_goto 4 dX5_best_37 (by decide) ?_
        first
          | (rw [show (k : Int) + 1 = ((k + 1 : Nat) : Int) by omega]
             refine ih (k + 1) (k : Int) (by omega) (by omega) (by omega) (fun g => by omega) (fun _ => ⟨fun j hj => ?_, fun j hj => ?_⟩)
             · rw [show ((k : Int)).toNat = k by omega]
               rcases Nat.lt_succ_iff_lt_or_eq.mp hj with g | g
               · first | (have := hu0 (by omega); omega) | (have := (hu1 (by omega)).1 j g; omega)
               · rw [g]; omega
             · rw [show ((k : Int)).toNat = k by omega]
               first | (have := hu0 (by omega); omega) | (have := (hu1 (by omega)).1 j (by omega); omega))
          | (rw [show (k : Int) + 1 = ((k + 1 : Nat) : Int) by omega]
             refine ih (k + 1) u (by omega) (by omega) (by omega) (fun g => by omega) (fun g1 => ⟨fun j hj => ?_, (hu1 g1).2⟩)
             rcases Nat.lt_succ_iff_lt_or_eq.mp hj with g | g
             · exact (hu1 g1).1 j g
             · rw [g]; omega)
      · refine w_aload_n dX5_best_17 rfl ?_
        refine v_getR (j := 155) dX5_best_18 fX5_18 ⟨by decide, rfl⟩ rfl rfl ?_
        refine w_iload_n dX5_best_21 rfl ?_
        refine v_iald dX5_best_22 ⟨by decide, rfl⟩ (by omega) (by omega) (by decide) (fun z22 e22 b22 => ?_)
        have f22 : z22 = rd I 155 k := by rw [e22]; rfl
        refine w_aload_n dX5_best_23 rfl ?_
        refine v_getR (j := 155) dX5_best_24 fX5_18 ⟨by decide, rfl⟩ rfl rfl ?_
        refine w_iload_n dX5_best_27 rfl ?_
        refine v_iald dX5_best_28 ⟨by decide, rfl⟩ (by omega) (by omega) (by decide) (fun z28 e28 b28 => ?_)
        refine v_icmp_le 34 dX5_best_29 (by decide) (by omega) (by omega) (fun c29 => ?_) (fun c29 => ?_)
        · refine v_iinc dX5_best_34 rfl rfl rfl ?_
          refine w_goto 4 dX5_best_37 (by decide) ?_
          first
            | (rw [show (k : Int) + 1 = ((k + 1 : Nat) : Int) by omega]
               refine ih (k + 1) (k : Int) (by omega) (by omega) (by omega) (fun g => by omega) (fun _ => ⟨fun j hj => ?_, fun j hj => ?_⟩)
               · rw [show ((k : Int)).toNat = k by omega]
                 rcases Nat.lt_succ_iff_lt_or_eq.mp hj with g | g
                 · first | (have := hu0 (by omega); omega) | (have := (hu1 (by omega)).1 j g; omega)
                 · rw [g]; omega
               · rw [show ((k : Int)).toNat = k by omega]
                 first | (have := hu0 (by omega); omega) | (have := (hu1 (by omega)).1 j (by omega); omega))
            | (rw [show (k : Int) + 1 = ((k + 1 : Nat) : Int) by omega]
               refine ih (k + 1) u (by omega) (by omega) (by omega) (fun g => by omega) (fun g1 => ⟨fun j hj => ?_, (hu1 g1).2⟩)
               rcases Nat.lt_succ_iff_lt_or_eq.mp hj with g | g
               · exact (hu1 g1).1 j g
               · rw [g]; omega)
        · refine w_iload_n dX5_best_32 rfl ?_
          refine w_istore_n dX5_best_33 rfl rfl ?_
          refine v_iinc dX5_best_34 rfl rfl rfl ?_
          refine w_goto 4 dX5_best_37 (by decide) ?_
          first
            | (rw [show (k : Int) + 1 = ((k + 1 : Nat) : Int) by omega]
               refine ih (k + 1) (k : Int) (by omega) (by omega) (by omega) (fun g => by omega) (fun _ => ⟨fun j hj => ?_, fun j hj => ?_⟩)
               · rw [show ((k : Int)).toNat = k by omega]
                 rcases Nat.lt_succ_iff_lt_or_eq.mp hj with g | g
                 · first | (have := hu0 (by omega); omega) | (have := (hu1 (by omega)).1 j g; omega)
                 · rw [g]; omega
               · rw [show ((k : Int)).toNat = k by omega]
                 first | (have := hu0 (by omega); omega) | (have := (hu1 (by omega)).1 j (by omega); omega))
            | (rw [show (k : Int) + 1 = ((k + 1 : Nat) : Int) by omega]
               refine ih (k + 1) u (by omega) (by omega) (by omega) (fun g => by omega) (fun g1 => ⟨fun j hj => ?_, (hu1 g1).2⟩)
               rcases Nat.lt_succ_iff_lt_or_eq.mp hj with g | g
               · exact (hu1 g1).1 j g
               · rw [g]; omega)
theorem x5_best {I : Nat → Nat → Int32} {J : Nat → Nat → Int64} {F : Option Value → zM → Prop} {m : Nat} (hm : m ≤ 512) (hc : rd I 152 4 = m) (hn : m = 0 → F (some (.int (iI (-1)))) (gM I J)) (hy : ∀ i : Nat, i < m → (∀ j, j < m → rd I 155 j ≤ rd I 155 i) → (∀ j, j < i → rd I 155 j < rd I 155 i) → F (some (.int (iI (i : Int)))) (gM I J)) : Cl yX5_best kX5_best [.ref 152] (gM I J) F := by
  refine cl_s (by decide) (by decide) (Nat.le_of_ble_eq_true rfl) rt_i ?_
  show Wp _ F 0 [(0, .ref 152)] [] _
  refine w_iconst (v := iI (-1)) dX5_best_0 rfl ?_
  refine w_istore_n dX5_best_1 rfl rfl ?_
  refine w_iconst (v := iI 0) dX5_best_2 rfl ?_
  refine w_istore_n dX5_best_3 rfl rfl ?_
  exact x5_best_l hm hc hn hy (m + 1) 0 (-1) (by omega) (by omega) (by omega) (fun _ => rfl) (fun g => absurd rfl g)
theorem x5_add_d {I : Nat → Nat → Int32} {J : Nat → Nat → Int64} {F : Option Value → zM → Prop} {R C g t : Int} (bR : -2147483648 ≤ R ∧ R < 2147483648) (bC : -2147483648 ≤ C ∧ C < 2147483648) (bg : -2147483648 ≤ g ∧ g < 2147483648) (ht : t = 0 ∨ t = 1) {m : Nat} (hc : rd I 157 4 = m) (hm : m < 512) (h : F none (gM (pW I 157 m R C g t) J)) : Cl yX5_add kX5_add [.ref 157, .int (iI R), .int (iI C), .int (iI g), .int (iI t)] (gM I J) F := by
  refine cl_s (by decide) (by decide) (Nat.le_of_ble_eq_true rfl) rt_v ?_
  show Wp _ F 0 [(0, .ref 157), (1, .int (iI R)), (2, .int (iI C)), (3, .int (iI g)), (4, .int (iI t))] [] _
  refine w_aload_n dX5_add_0 rfl ?_
  refine v_getI dX5_add_1 fX5_25 ⟨by decide, rfl⟩ (Or.inl rfl) (fun z1 e1 b1 => ?_)
  have f1 : z1 = m := by rw [e1]; exact hc
  refine w_sipush (v := iI 512) dX5_add_4 (by decide) ?_
  refine v_icmp_ge 61 dX5_add_7 (by decide) (by omega) (by omega) (fun c7 => ?_) (fun c7 => ?_)
  · refine v_vret dX5_add_61 rfl ⟨rfl, rfl⟩ ?_
    first
      | (exfalso; omega)
      | (rw [show z15.toNat = m by omega, show z25.toNat = m by omega, show z35.toNat = m by omega, show z45.toNat = m by omega, f53]; exact h)
  · refine w_aload_n dX5_add_10 rfl ?_
    refine v_getR (j := 158) dX5_add_11 fX5_9 ⟨by decide, rfl⟩ rfl rfl ?_
    refine w_aload_n dX5_add_14 rfl ?_
    refine v_getI dX5_add_15 fX5_25 ⟨by decide, rfl⟩ (Or.inl rfl) (fun z15 e15 b15 => ?_)
    have f15 : z15 = m := by rw [e15]; exact hc
    refine w_iload_n dX5_add_18 rfl ?_
    refine v_iast dX5_add_19 ⟨by decide, rfl⟩ (by omega) (by omega) (by decide) ?_
    refine w_aload_n dX5_add_20 rfl ?_
    refine v_getR (j := 159) dX5_add_21 fX5_15 ⟨by decide, rfl⟩ rfl rfl ?_
    refine w_aload_n dX5_add_24 rfl ?_
    refine v_getI dX5_add_25 fX5_25 ⟨by decide, rfl⟩ (Or.inl rfl) (fun z25 e25 b25 => ?_)
    have f25 : z25 = m := by rw [e25, rd_wr_row (by decide)]; exact hc
    refine w_iload_n dX5_add_28 rfl ?_
    refine v_iast dX5_add_29 ⟨by decide, rfl⟩ (by omega) (by omega) (by decide) ?_
    refine w_aload_n dX5_add_30 rfl ?_
    refine v_getR (j := 160) dX5_add_31 fX5_18 ⟨by decide, rfl⟩ rfl rfl ?_
    refine w_aload_n dX5_add_34 rfl ?_
    refine v_getI dX5_add_35 fX5_25 ⟨by decide, rfl⟩ (Or.inl rfl) (fun z35 e35 b35 => ?_)
    have f35 : z35 = m := by rw [e35, rd_wr_row (by decide), rd_wr_row (by decide)]; exact hc
    refine w_iload_n dX5_add_38 rfl ?_
    refine v_iast dX5_add_39 ⟨by decide, rfl⟩ (by omega) (by omega) (by decide) ?_
    refine w_aload_n dX5_add_40 rfl ?_
    refine v_getR (j := 161) dX5_add_41 fX5_21 ⟨by decide, rfl⟩ rfl rfl ?_
    refine w_aload_n dX5_add_44 rfl ?_
    refine v_getI dX5_add_45 fX5_25 ⟨by decide, rfl⟩ (Or.inl rfl) (fun z45 e45 b45 => ?_)
    have f45 : z45 = m := by rw [e45, rd_wr_row (by decide), rd_wr_row (by decide), rd_wr_row (by decide)]; exact hc
    refine w_iload dX5_add_48 rfl ?_
    refine v_zast dX5_add_50 ⟨by decide, rfl⟩ (by omega) (by omega) (by decide) (by omega) ?_
    refine w_aload_n dX5_add_51 rfl ?_
    refine w_dup dX5_add_52 rfl ?_
    refine v_getI dX5_add_53 fX5_25 ⟨by decide, rfl⟩ (Or.inl rfl) (fun z53 e53 b53 => ?_)
    have f53 : z53 = m := by rw [e53, rd_wr_row (by decide), rd_wr_row (by decide), rd_wr_row (by decide), rd_wr_row (by decide)]; exact hc
    refine w_iconst (v := iI 1) dX5_add_56 rfl ?_
    refine v_iadd dX5_add_57 ?_
    refine v_putI dX5_add_58 fX5_25 ⟨by decide, rfl⟩ rfl (Or.inl rfl) ?_
    refine v_vret dX5_add_61 rfl ⟨rfl, rfl⟩ ?_
    first
      | (exfalso; omega)
      | (rw [show z15.toNat = m by omega, show z25.toNat = m by omega, show z35.toNat = m by omega, show z45.toNat = m by omega, f53]; exact h)
theorem x5_collect_d_l {I : Nat → Nat → Int32} {J : Nat → Nat → Int64} {F : Option Value → zM → Prop} {b n wn : Nat} {ce : Nat → Int} (hK : bK I b ce n) (hs : shK I) (hL : wRL I J wn) {to : Int} (hto : to = 0 ∨ to = 1) (h : ∀ (I' : Nat → Nat → Int32) (J' : Nat → Nat → Int64) (m : Nat), (∀ id k, ¬ (157 ≤ id ∧ id ≤ 161) → rd I' id k = rd I id k) → (∀ id k, id ≠ 140 → id ≠ 141 → J' id k = J id k) → pE I' 157 m (plS I b ce n wn to) (gnC I b n) (tcC I b n) → F none (gM I' J')) (ha : aC I wn) : ∀ (nz : Nat) (row : Int) (col : Int) (m : Nat) (I' : Nat → Nat → Int32) (J' : Nat → Nat → Int64), (16 - row).toNat * 64 + (32 - col).toNat < nz → -4 ≤ row ∧ row ≤ 15 → -9 ≤ col → col ≤ 32 → (∀ id k, ¬ (157 ≤ id ∧ id ≤ 161) → rd I' id k = rd I id k) → (∀ id k, id ≠ 140 → id ≠ 141 → J' id k = J id k) → pE I' 157 m (pL (plS I b ce n wn to) row col) (gnC I b n) (tcC I b n) → ((m : Int) ≤ nB (row + rd I (bI b 2) 0) (col + rd I (bI b 3) 0)) → Wp (sE kX5_collect RX5) F 30 [(0, .ref 157), (1, .ref (bI b 0)), (2, .int (iI to)), (3, .ref 142), (4, .ref 134), (5, .int (iI row)), (6, .int (iI col))] [] (gM I' J') := by
  intro nz
  induction nz with
  | zero =>
    intro row col m I' J' hmz hr hc hc2 hx hJ hp hnb
    exact absurd hmz (Nat.not_lt_zero _)
  | succ nz ih =>
    intro row col m I' J' hmz hr hc hc2 hx hJ hp hnb
    have fx : fS I I' := fun id k g => hx id k (by omega)
    have r0 := hK.2.2.1.2.2.1 0 (by have := hK.2.2.2.2; omega)
    refine w_iload dX5_collect_30 rfl ?_
    refine w_bipush (v := iI 32) dX5_collect_32 (by decide) ?_
    refine v_icmp_ge 135 dX5_collect_34 (by decide) (by omega) (by omega) (fun c34 => ?_) (fun c34 => ?_)
    · refine v_iinc dX5_collect_135 rfl rfl rfl ?_
      refine w_goto 19 dX5_collect_138 (by decide) ?_
      refine w_iload dX5_collect_19 rfl ?_
      refine w_bipush (v := iI 16) dX5_collect_21 (by decide) ?_
      refine v_icmp_ge 141 dX5_collect_23 (by decide) (by omega) (by omega) (fun c23 => ?_) (fun c23 => ?_)
      · refine v_vret dX5_collect_141 rfl ⟨rfl, rfl⟩ ?_
        exact h I' J' m hx hJ (pE_end plS_rg (pE_row plS_rg hp (by omega)) (by omega) (by omega))
      · refine w_bipush (v := iI (-9)) dX5_collect_26 (by decide) ?_
        refine w_istore dX5_collect_28 rfl rfl ?_
        refine w_keep 7 ?_
        refine ih (row + 1) (-9) m I' J' (by omega) (by omega) (by omega) (by omega) hx hJ (pE_row plS_rg hp (by omega)) (by have := nB_ro (row + rd I (bI b 2) 0) (col + rd I (bI b 3) 0) (-9 + rd I (bI b 3) 0); rw [show row + 1 + rd I (bI b 2) 0 = row + rd I (bI b 2) 0 + 1 by omega]; omega)
    · refine w_aload_n dX5_collect_37 rfl ?_
      refine w_aload_n dX5_collect_38 rfl ?_
      refine w_iload dX5_collect_39 rfl ?_
      refine w_iload dX5_collect_41 rfl ?_
      refine v_callV3 dX5_collect_43 lX5_35 vX8_hasRoom (by decide) rfl rfl ⟨by decide, rfl⟩ (by decide) rfl (Nat.le_of_ble_eq_true rfl) ?_
      refine x8_hasRoom hK.1 (RBc_S hK.1 fx hK.2.2.1) (by omega) (by omega) (fun q43 => ?_) (fun q43 => ?_)
      all_goals (have q43' := q43; simp only [owAt_S fx] at q43'; clear q43)
      · refine v_if_ne 52 dX5_collect_46 (by decide) (by decide) (fun _ => ?_) (fun q => absurd q (by decide))
        refine w_aload_n dX5_collect_52 rfl ?_
        refine w_aload_n dX5_collect_53 rfl ?_
        refine w_iload dX5_collect_54 rfl ?_
        refine w_iload dX5_collect_56 rfl ?_
        refine v_callV3 dX5_collect_58 lX5_39 vX8_sidesOf (by decide) rfl rfl ⟨by decide, rfl⟩ (by decide) rfl (Nat.le_of_ble_eq_true rfl) ?_
        refine x8_sidesOf hK.1 (RBc_S hK.1 fx hK.2.2.1) (by omega) (by omega) ?_
        have s1 : smN (fun j => sd4 I' (row + rd I' (bI b 2) j) (col + rd I' (bI b 3) j)) n = sdC I b n row col := sdC_S hK.1 fx n row col
        rw [s1]
        have s2 := sdC_bd hK.2.2.1 row col
        have hin : inS (row + rd I (bI b 2) 0) (col + rd I (bI b 3) 0) := first_in hK q43'.2
        refine w_istore dX5_collect_61 rfl rfl ?_
        refine w_aload_n dX5_collect_63 rfl ?_
        refine w_aload_n dX5_collect_64 rfl ?_
        refine w_iload dX5_collect_65 rfl ?_
        refine w_iload dX5_collect_67 rfl ?_
        refine v_callV3 dX5_collect_69 lX5_43 vX8_fibreWorth (by decide) rfl rfl ⟨by decide, rfl⟩ (by decide) rfl (Nat.le_of_ble_eq_true rfl) ?_
        refine x8_fibreWorth hK.1 (shK_S fx hs).1 (shK_S fx hs).2.1 (by omega) (by omega) (fun qf => ?_) (fun qf => ?_)
        all_goals rw [qLq_S hK.1 fx] at qf
        rotate_left
        rw [show wLs I' 147 16 (fun i : Int => tF I' (bI b 7) (bI b 8) 5 i) row 5 + wLs I' 150 32 (fun i : Int => tF I' (bI b 10) (bI b 11) 10 i) col 10 = fwC I b row col from fwC_S hK.1 fx row col]
        have f2 := fwC_bd hs b row col
        rotate_left
        · refine w_istore dX5_collect_72 rfl rfl ?_
          refine w_iload dX5_collect_74 rfl ?_
          refine w_iconst (v := iI (-1)) dX5_collect_76 rfl ?_
          refine v_icmp_eq 129 dX5_collect_77 (by decide) (by decide) (by decide) (fun _ => ?_) (fun q => absurd q (by decide))
          refine v_iinc dX5_collect_129 rfl rfl rfl ?_
          refine w_goto 30 dX5_collect_132 (by decide) ?_
          refine w_keep 7 ?_
          refine ih row (col + 1) m I' J' (by omega) (by omega) (by omega) (by omega) hx hJ (pE_skip plS_rg hp (by omega) (fun g => ?_)) (by have := nB_nx (row + rd I (bI b 2) 0) (col + rd I (bI b 3) 0); rw [show col + 1 + rd I (bI b 3) 0 = col + rd I (bI b 3) 0 + 1 by omega]; omega)
          exact g.2.2.1 qf
        · refine w_istore dX5_collect_72 rfl rfl ?_
          refine w_iload dX5_collect_74 rfl ?_
          refine w_iconst (v := iI (-1)) dX5_collect_76 rfl ?_
          refine v_icmp_eq 129 dX5_collect_77 (by decide) (by omega) (by omega) (fun c77 => ?_) (fun c77 => ?_)
          · refine v_iinc dX5_collect_129 rfl rfl rfl ?_
            refine w_goto 30 dX5_collect_132 (by decide) ?_
            refine w_keep 7 ?_
            refine ih row (col + 1) (m + 1) _ J1 (by omega) (by omega) (by omega) (by omega) (fun id k u => ?_) j2 (pE_add plS_rg hp (by omega) (by omega) ⟨ha, q43', qf, ?_, qr'.mp qr⟩ (by have := nB_ad hin; omega) rfl ?_ (by omega)) (by have := nB_ad hin; rw [show col + 1 + rd I (bI b 3) 0 = col + rd I (bI b 3) 0 + 1 by omega]; omega)
            · rw [pW_rd (by omega) (by omega) (by omega) (by omega) (by have := hp.1; omega), if_neg (by omega), if_neg (by omega), if_neg (by omega), if_neg (by omega), if_neg (by omega)]
              exact hx id k u
            · intro g; omega
            · show _ = if 0 < sdC I b n row col then (1 : Int) else 0
              first | rw [if_pos (by omega)] | rw [if_neg (by omega)]
          · refine w_iload_n dX5_collect_80 rfl ?_
            refine v_if_eq 92 dX5_collect_81 (by decide) (by omega) (fun c81 => ?_) (fun c81 => ?_)
            · refine w_aload_n dX5_collect_92 rfl ?_
              refine w_aload_n dX5_collect_93 rfl ?_
              refine w_iload dX5_collect_94 rfl ?_
              refine w_iload dX5_collect_96 rfl ?_
              refine w_aload dX5_collect_98 rfl ?_
              refine v_callV4 dX5_collect_100 lX5_46 vX8_runsCanWith (by decide) rfl rfl ⟨by decide, rfl⟩ (by decide) rfl (Nat.le_of_ble_eq_true rfl) ?_
              refine x8_runsCanWith (wn := wn) hK.1 (wRL_S fx hJ hL) (bK_S fx hK).2.1 (RBc_S hK.1 fx hK.2.2.1) (RBe_S hK.1 fx hK.2.2.2.1) (by omega) (by omega) (fun y x g => ⟨(q43'.2 y x g).1, by rw [sgAt_S fx]; exact hs.2.2 y x (q43'.2 y x g).1 (q43'.2 y x g).2⟩) ((aC_S fx).mpr ha) (fun qr J1 j1 => ?_) (fun qr J1 j1 => ?_)
              all_goals (have qr' : _ := (wC_S fx (wn := wn) (ce := ce) (R := row) (C := col)); have j2 : ∀ id k, id ≠ 140 → id ≠ 141 → J1 id k = J id k := fun id k u1 u2 => by rw [j1 id k u1 u2]; exact hJ id k u1 u2)
              · refine v_if_eq 129 dX5_collect_103 (by decide) (by decide) (fun q => absurd q (by decide)) (fun _ => ?_)
                refine w_aload_n dX5_collect_106 rfl ?_
                refine w_iload dX5_collect_107 rfl ?_
                refine w_iload dX5_collect_109 rfl ?_
                refine w_iload dX5_collect_111 rfl ?_
                refine w_iload dX5_collect_113 rfl ?_
                refine v_iadd dX5_collect_115 ?_
                refine w_iload dX5_collect_116 rfl ?_
                refine v_if_le 125 dX5_collect_118 (by decide) (by omega) (fun c118 => ?_) (fun c118 => ?_)
                · refine w_iconst (v := iI 0) dX5_collect_125 rfl ?_
                  refine v_callV4 dX5_collect_126 lX5_50 vX5_add (by decide) rfl rfl ⟨by decide, rfl⟩ (by decide) rfl (Nat.le_of_ble_eq_true rfl) ?_
                  refine x5_add_d (by omega) (by omega) (by omega) (by omega) hp.2.1 (by have := nB_ad hin; omega) ?_
                  refine v_iinc dX5_collect_129 rfl rfl rfl ?_
                  refine w_goto 30 dX5_collect_132 (by decide) ?_
                  refine w_keep 7 ?_
                  refine ih row (col + 1) (m + 1) _ J1 (by omega) (by omega) (by omega) (by omega) (fun id k u => ?_) j2 (pE_add plS_rg hp (by omega) (by omega) ⟨ha, q43', qf, ?_, qr'.mp qr⟩ (by have := nB_ad hin; omega) rfl ?_ (by omega)) (by have := nB_ad hin; rw [show col + 1 + rd I (bI b 3) 0 = col + rd I (bI b 3) 0 + 1 by omega]; omega)
                  · rw [pW_rd (by omega) (by omega) (by omega) (by omega) (by have := hp.1; omega), if_neg (by omega), if_neg (by omega), if_neg (by omega), if_neg (by omega), if_neg (by omega)]
                    exact hx id k u
                  · intro g; omega
                  · show _ = if 0 < sdC I b n row col then (1 : Int) else 0
                    first | rw [if_pos (by omega)] | rw [if_neg (by omega)]
                · refine w_iconst (v := iI 1) dX5_collect_121 rfl ?_
                  refine w_goto 126 dX5_collect_122 (by decide) ?_
                  refine v_callV4 dX5_collect_126 lX5_50 vX5_add (by decide) rfl rfl ⟨by decide, rfl⟩ (by decide) rfl (Nat.le_of_ble_eq_true rfl) ?_
                  refine x5_add_d (by omega) (by omega) (by omega) (by omega) hp.2.1 (by have := nB_ad hin; omega) ?_
                  refine v_iinc dX5_collect_129 rfl rfl rfl ?_
                  refine w_goto 30 dX5_collect_132 (by decide) ?_
                  refine w_keep 7 ?_
                  refine ih row (col + 1) (m + 1) _ J1 (by omega) (by omega) (by omega) (by omega) (fun id k u => ?_) j2 (pE_add plS_rg hp (by omega) (by omega) ⟨ha, q43', qf, ?_, qr'.mp qr⟩ (by have := nB_ad hin; omega) rfl ?_ (by omega)) (by have := nB_ad hin; rw [show col + 1 + rd I (bI b 3) 0 = col + rd I (bI b 3) 0 + 1 by omega]; omega)
                  · rw [pW_rd (by omega) (by omega) (by omega) (by omega) (by have := hp.1; omega), if_neg (by omega), if_neg (by omega), if_neg (by omega), if_neg (by omega), if_neg (by omega)]
                    exact hx id k u
                  · intro g; omega
                  · show _ = if 0 < sdC I b n row col then (1 : Int) else 0
                    first | rw [if_pos (by omega)] | rw [if_neg (by omega)]
              · refine v_if_eq 129 dX5_collect_103 (by decide) (by decide) (fun _ => ?_) (fun q => absurd q (by decide))
                refine v_iinc dX5_collect_129 rfl rfl rfl ?_
                refine w_goto 30 dX5_collect_132 (by decide) ?_
                refine w_keep 7 ?_
                refine ih row (col + 1) m I' J1 (by omega) (by omega) (by omega) (by omega) hx j2 (pE_skip plS_rg hp (by omega) (fun g => ?_)) (by have := nB_nx (row + rd I (bI b 2) 0) (col + rd I (bI b 3) 0); rw [show col + 1 + rd I (bI b 3) 0 = col + rd I (bI b 3) 0 + 1 by omega]; omega)
                exact qr (qr'.mpr g.2.2.2.2)
            · refine w_iload dX5_collect_84 rfl ?_
              refine v_if_ne 92 dX5_collect_86 (by decide) (by omega) (fun c86 => ?_) (fun c86 => ?_)
              · refine w_aload_n dX5_collect_92 rfl ?_
                refine w_aload_n dX5_collect_93 rfl ?_
                refine w_iload dX5_collect_94 rfl ?_
                refine w_iload dX5_collect_96 rfl ?_
                refine w_aload dX5_collect_98 rfl ?_
                refine v_callV4 dX5_collect_100 lX5_46 vX8_runsCanWith (by decide) rfl rfl ⟨by decide, rfl⟩ (by decide) rfl (Nat.le_of_ble_eq_true rfl) ?_
                refine x8_runsCanWith (wn := wn) hK.1 (wRL_S fx hJ hL) (bK_S fx hK).2.1 (RBc_S hK.1 fx hK.2.2.1) (RBe_S hK.1 fx hK.2.2.2.1) (by omega) (by omega) (fun y x g => ⟨(q43'.2 y x g).1, by rw [sgAt_S fx]; exact hs.2.2 y x (q43'.2 y x g).1 (q43'.2 y x g).2⟩) ((aC_S fx).mpr ha) (fun qr J1 j1 => ?_) (fun qr J1 j1 => ?_)
                all_goals (have qr' : _ := (wC_S fx (wn := wn) (ce := ce) (R := row) (C := col)); have j2 : ∀ id k, id ≠ 140 → id ≠ 141 → J1 id k = J id k := fun id k u1 u2 => by rw [j1 id k u1 u2]; exact hJ id k u1 u2)
                · refine v_if_eq 129 dX5_collect_103 (by decide) (by decide) (fun q => absurd q (by decide)) (fun _ => ?_)
                  refine w_aload_n dX5_collect_106 rfl ?_
                  refine w_iload dX5_collect_107 rfl ?_
                  refine w_iload dX5_collect_109 rfl ?_
                  refine w_iload dX5_collect_111 rfl ?_
                  refine w_iload dX5_collect_113 rfl ?_
                  refine v_iadd dX5_collect_115 ?_
                  refine w_iload dX5_collect_116 rfl ?_
                  refine v_if_le 125 dX5_collect_118 (by decide) (by omega) (fun c118 => ?_) (fun c118 => ?_)
                  · refine w_iconst (v := iI 0) dX5_collect_125 rfl ?_
                    refine v_callV4 dX5_collect_126 lX5_50 vX5_add (by decide) rfl rfl ⟨by decide, rfl⟩ (by decide) rfl (Nat.le_of_ble_eq_true rfl) ?_
                    refine x5_add_d (by omega) (by omega) (by omega) (by omega) hp.2.1 (by have := nB_ad hin; omega) ?_
                    refine v_iinc dX5_collect_129 rfl rfl rfl ?_
                    refine w_goto 30 dX5_collect_132 (by decide) ?_
                    refine w_keep 7 ?_
                    refine ih row (col + 1) (m + 1) _ J1 (by omega) (by omega) (by omega) (by omega) (fun id k u => ?_) j2 (pE_add plS_rg hp (by omega) (by omega) ⟨ha, q43', qf, ?_, qr'.mp qr⟩ (by have := nB_ad hin; omega) rfl ?_ (by omega)) (by have := nB_ad hin; rw [show col + 1 + rd I (bI b 3) 0 = col + rd I (bI b 3) 0 + 1 by omega]; omega)
                    · rw [pW_rd (by omega) (by omega) (by omega) (by omega) (by have := hp.1; omega), if_neg (by omega), if_neg (by omega), if_neg (by omega), if_neg (by omega), if_neg (by omega)]
                      exact hx id k u
                    · intro g; omega
                    · show _ = if 0 < sdC I b n row col then (1 : Int) else 0
                      first | rw [if_pos (by omega)] | rw [if_neg (by omega)]
                  · refine w_iconst (v := iI 1) dX5_collect_121 rfl ?_
                    refine w_goto 126 dX5_collect_122 (by decide) ?_
                    refine v_callV4 dX5_collect_126 lX5_50 vX5_add (by decide) rfl rfl ⟨by decide, rfl⟩ (by decide) rfl (Nat.le_of_ble_eq_true rfl) ?_
                    refine x5_add_d (by omega) (by omega) (by omega) (by omega) hp.2.1 (by have := nB_ad hin; omega) ?_
                    refine v_iinc dX5_collect_129 rfl rfl rfl ?_
                    refine w_goto 30 dX5_collect_132 (by decide) ?_
                    refine w_keep 7 ?_
                    refine ih row (col + 1) (m + 1) _ J1 (by omega) (by omega) (by omega) (by omega) (fun id k u => ?_) j2 (pE_add plS_rg hp (by omega) (by omega) ⟨ha, q43', qf, ?_, qr'.mp qr⟩ (by have := nB_ad hin; omega) rfl ?_ (by omega)) (by have := nB_ad hin; rw [show col + 1 + rd I (bI b 3) 0 = col + rd I (bI b 3) 0 + 1 by omega]; omega)
                    · rw [pW_rd (by omega) (by omega) (by omega) (by omega) (by have := hp.1; omega), if_neg (by omega), if_neg (by omega), if_neg (by omega), if_neg (by omega), if_neg (by omega)]
                      exact hx id k u
                    · intro g; omega
                    · show _ = if 0 < sdC I b n row col then (1 : Int) else 0
                      first | rw [if_pos (by omega)] | rw [if_neg (by omega)]
                · refine v_if_eq 129 dX5_collect_103 (by decide) (by decide) (fun _ => ?_) (fun q => absurd q (by decide))
                  refine v_iinc dX5_collect_129 rfl rfl rfl ?_
                  refine w_goto 30 dX5_collect_132 (by decide) ?_
                  refine w_keep 7 ?_
                  refine ih row (col + 1) m I' J1 (by omega) (by omega) (by omega) (by omega) hx j2 (pE_skip plS_rg hp (by omega) (fun g => ?_)) (by have := nB_nx (row + rd I (bI b 2) 0) (col + rd I (bI b 3) 0); rw [show col + 1 + rd I (bI b 3) 0 = col + rd I (bI b 3) 0 + 1 by omega]; omega)
                  exact qr (qr'.mpr g.2.2.2.2)
              · refine w_goto 129 dX5_collect_89 (by decide) ?_
                refine v_iinc dX5_collect_129 rfl rfl rfl ?_
                refine w_goto 30 dX5_collect_132 (by decide) ?_
                refine w_keep 7 ?_
                refine ih row (col + 1) m I' J' (by omega) (by omega) (by omega) (by omega) hx hJ (pE_skip plS_rg hp (by omega) (fun g => ?_)) (by have := nB_nx (row + rd I (bI b 2) 0) (col + rd I (bI b 3) 0); rw [show col + 1 + rd I (bI b 3) 0 = col + rd I (bI b 3) 0 + 1 by omega]; omega)
                exact g.2.2.2.1 (by omega) (by omega)
      · refine v_if_ne 52 dX5_collect_46 (by decide) (by decide) (fun q => absurd q (by decide)) (fun _ => ?_)
        refine w_goto 129 dX5_collect_49 (by decide) ?_
        refine v_iinc dX5_collect_129 rfl rfl rfl ?_
        refine w_goto 30 dX5_collect_132 (by decide) ?_
        refine w_keep 7 ?_
        refine ih row (col + 1) m I' J' (by omega) (by omega) (by omega) (by omega) hx hJ (pE_skip plS_rg hp (by omega) (fun g => ?_)) (by have := nB_nx (row + rd I (bI b 2) 0) (col + rd I (bI b 3) 0); rw [show col + 1 + rd I (bI b 3) 0 = col + rd I (bI b 3) 0 + 1 by omega]; omega)
        exact q43' g.2.1
theorem x5_collect_d {I : Nat → Nat → Int32} {J : Nat → Nat → Int64} {F : Option Value → zM → Prop} {b n wn : Nat} {ce : Nat → Int} (hK : bK I b ce n) (hs : shK I) (hL : wRL I J wn) {to : Int} (hto : to = 0 ∨ to = 1) (h : ∀ (I' : Nat → Nat → Int32) (J' : Nat → Nat → Int64) (m : Nat), (∀ id k, ¬ (157 ≤ id ∧ id ≤ 161) → rd I' id k = rd I id k) → (∀ id k, id ≠ 140 → id ≠ 141 → J' id k = J id k) → pE I' 157 m (plS I b ce n wn to) (gnC I b n) (tcC I b n) → F none (gM I' J')) : Cl yX5_collect kX5_collect [.ref 157, .ref (bI b 0), .int (iI to), .ref 142, .ref 134] (gM I J) F := by
  refine cl_s (by decide) (by decide) (Nat.le_of_ble_eq_true rfl) rt_v ?_
  show Wp _ F 0 [(0, .ref 157), (1, .ref (bI b 0)), (2, .int (iI to)), (3, .ref 142), (4, .ref 134)] [] _
  refine w_aload_n dX5_collect_0 rfl ?_
  refine w_iconst (v := iI 0) dX5_collect_1 rfl ?_
  refine v_putI dX5_collect_2 fX5_25 ⟨by decide, rfl⟩ rfl (Or.inl rfl) ?_
  refine w_aload_n dX5_collect_5 rfl ?_
  refine w_aload dX5_collect_6 rfl ?_
  refine v_callV1 dX5_collect_8 lX5_29 vX8_allRunsCan (by decide) rfl rfl ⟨by decide, rfl⟩ (by decide) rfl (Nat.le_of_ble_eq_true rfl) ?_
  have fx : ∀ id k, ¬ (157 ≤ id ∧ id ≤ 161) → rd (wr I 157 4 0) id k = rd I id k := fun id k g => rd_wr_row (by omega)
  have fx2 : fS I (wr I 157 4 0) := fun id k g => fx id k (by omega)
  refine x8_allRunsCan (wRL_S fx2 (fun _ _ _ _ => rfl) hL) (fun ha J1 j1 => ?_) (fun ha J1 j1 => ?_)
  all_goals have hac : aC (wr I 157 4 0) wn ↔ aC I wn := aC_S fx2
  · refine v_if_ne 15 dX5_collect_11 (by decide) (by decide) (fun _ => ?_) (fun q => absurd q (by decide))
    refine w_bipush (v := iI (-4)) dX5_collect_15 (by decide) ?_
    refine w_istore dX5_collect_17 rfl rfl ?_
    refine w_iload dX5_collect_19 rfl ?_
    refine w_bipush (v := iI 16) dX5_collect_21 (by decide) ?_
    refine v_icmp_ge 141 dX5_collect_23 (by decide) (by decide) (by decide) (fun q => absurd q (by decide)) (fun _ => ?_)
    refine w_bipush (v := iI (-9)) dX5_collect_26 (by decide) ?_
    refine w_istore dX5_collect_28 rfl rfl ?_
    refine x5_collect_d_l hK hs hL hto h (hac.mp ha) 2000 (-4) (-9) 0 _ J1 (by omega) (by omega) (by omega) (by omega) fx j1 ⟨by omega, rd_wr_eq (by decide) (by decide), fun j hj => by omega, fun i j _ hj => by omega, fun R C hS => ?_⟩ (nB_le _ _).1
    exact absurd hS.2 (by have := plS_rg R C hS.1; omega)
  · refine v_if_ne 15 dX5_collect_11 (by decide) (by decide) (fun q => absurd q (by decide)) (fun _ => ?_)
    refine v_vret dX5_collect_14 rfl ⟨rfl, rfl⟩ ?_
    refine h _ J1 0 fx j1 ⟨by omega, rd_wr_eq (by decide) (by decide), fun j hj => by omega, fun i j _ hj => by omega, fun R C hS => ?_⟩
    exact absurd (hac.mpr hS.1) ha
/-- the touching places' numbers in cell 162 -/
def tE (I : Nat → Nat → Int32) (f m : Nat) : Prop := f ≤ m ∧ (∀ t, t < f → 0 ≤ rd I 162 t ∧ rd I 162 t < m ∧ rd I 161 (rd I 162 t).toNat ≠ 0) ∧ (∀ s t, s < t → t < f → rd I 162 s < rd I 162 t) ∧ ∀ i : Nat, i < m → rd I 161 i ≠ 0 → ∃ t, t < f ∧ rd I 162 t = i
theorem x5_listTouching_l {I : Nat → Nat → Int32} {J : Nat → Nat → Int64} {F : Option Value → zM → Prop} {m : Nat} (hm : m ≤ 512) (hc : rd I 157 4 = m) (h : ∀ (I' : Nat → Nat → Int32) (f : Nat), (∀ id k, id ≠ 162 → rd I' id k = rd I id k) → tE I' f m → F (some (.int (iI (f : Int)))) (gM I' J)) : ∀ (nz : Nat) (k : Nat) (f : Nat) (I' : Nat → Nat → Int32), m - k < nz → k ≤ m → (∀ id k, id ≠ 162 → rd I' id k = rd I id k) → tE I' f k → Wp (sE kX5_listTouching RX5) F 4 [(0, .ref 157), (1, .ref 162), (2, .int (iI (f : Int))), (3, .int (iI (k : Int)))] [] (gM I' J) := by
  intro nz
  induction nz with
  | zero =>
    intro k f I' hmz hk hx ht
    exact absurd hmz (Nat.not_lt_zero _)
  | succ nz ih =>
    intro k f I' hmz hk hx ht
    refine w_iload_n dX5_listTouching_4 rfl ?_
    refine w_aload_n dX5_listTouching_5 rfl ?_
    refine v_getI dX5_listTouching_6 fX5_25 ⟨by decide, rfl⟩ (Or.inl rfl) (fun z6 e6 b6 => ?_)
    have f6 : z6 = m := by rw [e6, hx _ _ (by decide)]; exact hc
    refine v_icmp_ge 40 dX5_listTouching_9 (by decide) (by first | omega | (have := ht.1; omega)) (by first | omega | (have := ht.1; omega)) (fun c9 => ?_) (fun c9 => ?_)
    · refine w_iload_n dX5_listTouching_40 rfl ?_
      refine v_iret dX5_listTouching_41 rfl ⟨rfl, rfl⟩ ?_
      first
        | (have e0 : k = m := by omega
           rw [e0] at ht
           exact h I' f hx ht)
        | (exfalso; have := ht.1; omega)
    · refine w_iload_n dX5_listTouching_12 rfl ?_
      refine w_aload_n dX5_listTouching_13 rfl ?_
      refine v_alen0 dX5_listTouching_14 ⟨by decide, rfl⟩ ?_
      refine v_icmp_ge 40 dX5_listTouching_15 (by decide) (by first | omega | (have := ht.1; omega)) (by first | omega | (have := ht.1; omega)) (fun c15 => ?_) (fun c15 => ?_)
      · refine w_iload_n dX5_listTouching_40 rfl ?_
        refine v_iret dX5_listTouching_41 rfl ⟨rfl, rfl⟩ ?_
        first
          | (have e0 : k = m := by omega
             rw [e0] at ht
             exact h I' f hx ht)
          | (exfalso; have := ht.1; omega)
      · refine w_aload_n dX5_listTouching_18 rfl ?_
        refine v_getR (j := 161) dX5_listTouching_19 fX5_21 ⟨by decide, rfl⟩ rfl rfl ?_
        refine w_iload_n dX5_listTouching_22 rfl ?_
        refine v_zald dX5_listTouching_23 ⟨by decide, rfl⟩ (by first | omega | (have := ht.1; omega)) (by first | omega | (have := ht.1; omega)) (by decide) (fun z23 e23 b23 => ?_)
        have f23 : z23 = rd I 161 k := by rw [e23, hx _ _ (by decide)]; rfl
        refine v_if_eq 34 dX5_listTouching_24 (by decide) (by first | omega | (have := ht.1; omega)) (fun c24 => ?_) (fun c24 => ?_)
        · refine v_iinc dX5_listTouching_34 rfl rfl rfl ?_
          refine w_goto 4 dX5_listTouching_37 (by decide) ?_
          rw [show (k : Int) + 1 = ((k + 1 : Nat) : Int) by omega]
          have w3 : ∀ t, rd I' 161 t = rd I 161 t := fun t => hx _ _ (by decide)
          refine ih (k + 1) f I' (by omega) (by omega) hx ?_
          obtain ⟨t1, t2, t3, t4⟩ := ht
          refine ⟨by omega, fun t hf => ?_, t3, fun i hi g => ?_⟩
          · have := t2 t hf; omega
          · rcases Nat.lt_succ_iff_lt_or_eq.mp hi with u | u
            · exact t4 i u g
            · rw [u, w3, ← f23] at g; omega
        · refine w_aload_n dX5_listTouching_27 rfl ?_
          refine w_iload_n dX5_listTouching_28 rfl ?_
          refine w_iload_n dX5_listTouching_29 rfl ?_
          refine v_iast dX5_listTouching_30 ⟨by decide, rfl⟩ (by have := ht.1; omega) (by have := ht.1; omega) (by decide) ?_
          refine v_iinc dX5_listTouching_31 rfl rfl rfl ?_
          refine v_iinc dX5_listTouching_34 rfl rfl rfl ?_
          refine w_goto 4 dX5_listTouching_37 (by decide) ?_
          rw [show (k : Int) + 1 = ((k + 1 : Nat) : Int) by omega]
          rw [show (f : Int) + 1 = ((f + 1 : Nat) : Int) by omega]
          have w1 : ∀ t, rd (wr I' 162 f k) 162 t = if t = f then (k : Int) else rd I' 162 t := fun t => by
            rw [rd_wr (by omega) (by omega)]
            by_cases g : t = f
            · rw [if_pos ⟨rfl, g⟩, if_pos g]
            · rw [if_neg (fun q => g q.2), if_neg g]
          have w2 : ∀ t, rd (wr I' 162 f k) 161 t = rd I' 161 t := fun t => rd_wr_row (by decide)
          have w3 : ∀ t, rd I' 161 t = rd I 161 t := fun t => hx _ _ (by decide)
          refine ih (k + 1) (f + 1) _ (by omega) (by omega) (fun id k' g => by rw [rd_wr_row g]; exact hx id k' g) ?_
          obtain ⟨t1, t2, t3, t4⟩ := ht
          refine ⟨by omega, fun t hf => ?_, fun s t h1 h2 => ?_, fun i hi g => ?_⟩
          · rw [w1, w2]
            by_cases g : t = f
            · rw [if_pos g, show ((k : Int)).toNat = k by omega, w3, ← f23]; omega
            · rw [if_neg g]; have := t2 t (by omega); omega
          · rw [w1, w1, if_neg (show ¬ s = f by omega)]
            by_cases g : t = f
            · rw [if_pos g]; exact (t2 s (by omega)).2.1
            · rw [if_neg g]; exact t3 s t h1 (by omega)
          · rw [w2] at g
            rcases Nat.lt_succ_iff_lt_or_eq.mp hi with u | u
            · obtain ⟨t, v1, v2⟩ := t4 i u g
              exact ⟨t, by omega, by rw [w1, if_neg (by omega)]; exact v2⟩
            · exact ⟨f, by omega, by rw [w1, if_pos rfl, u]⟩
theorem x5_listTouching {I : Nat → Nat → Int32} {J : Nat → Nat → Int64} {F : Option Value → zM → Prop} {m : Nat} (hm : m ≤ 512) (hc : rd I 157 4 = m) (h : ∀ (I' : Nat → Nat → Int32) (f : Nat), (∀ id k, id ≠ 162 → rd I' id k = rd I id k) → tE I' f m → F (some (.int (iI (f : Int)))) (gM I' J)) : Cl yX5_listTouching kX5_listTouching [.ref 157, .ref 162] (gM I J) F := by
  refine cl_s (by decide) (by decide) (Nat.le_of_ble_eq_true rfl) rt_i ?_
  show Wp _ F 0 [(0, .ref 157), (1, .ref 162)] [] _
  refine w_iconst (v := iI 0) dX5_listTouching_0 rfl ?_
  refine w_istore_n dX5_listTouching_1 rfl rfl ?_
  refine w_iconst (v := iI 0) dX5_listTouching_2 rfl ?_
  refine w_istore_n dX5_listTouching_3 rfl rfl ?_
  exact x5_listTouching_l hm hc h (m + 1) 0 0 I (by omega) (by omega) (fun _ _ _ => rfl) ⟨by omega, fun t g => by omega, fun s t _ g => by omega, fun i g => by omega⟩
