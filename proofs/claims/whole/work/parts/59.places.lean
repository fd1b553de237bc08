/-! Places of the class; what the search leaves as it was -/
abbrev fS (I I' : Nat → Nat → Int32) : Prop := ∀ id k, ¬ (151 ≤ id ∧ id ≤ 166) → rd I' id k = rd I id k
def bK (I : Nat → Nat → Int32) (b : Nat) (ce : Nat → Int) (n : Nat) : Prop := b < 10 ∧ (∀ k, k < 50 → rd I (bI b 1) k = ce k) ∧ RBc I b ce n ∧ RBe I b ce ∧ 1 ≤ n
def shK (I : Nat → Nat → Int32) : Prop := (∀ l : Nat, l < 16 → 0 ≤ rd I 147 l ∧ rd I 147 l ≤ 1000) ∧ (∀ l : Nat, l < 32 → 0 ≤ rd I 150 l ∧ rd I 150 l ≤ 1000) ∧ ∀ y x : Int, inS y x → owAt I y x = -1 → sgAt I y x = 95
def rmC (I : Nat → Nat → Int32) (ce : Nat → Int) (R C : Int) : Prop := (-5 < R ∧ R < 16 ∧ -10 < C ∧ C < 32) ∧ ∀ y x : Int, cA ce R C y x ≠ 95 → inS y x ∧ owAt I y x = -1
def sdC (I : Nat → Nat → Int32) (b n : Nat) (R C : Int) : Int := smN (fun j => sd4 I (R + rd I (bI b 2) j) (C + rd I (bI b 3) j)) n
def fwC (I : Nat → Nat → Int32) (b : Nat) (R C : Int) : Int := wLs I 147 16 (fun i : Int => tF I (bI b 7) (bI b 8) 5 i) R 5 + wLs I 150 32 (fun i : Int => tF I (bI b 10) (bI b 11) 10 i) C 10
def aC (I : Nat → Nat → Int32) (wn : Nat) : Prop := ∀ y : Nat, y < 16 → allR I wn (fun x => sgAt I y x)
def wC (I : Nat → Nat → Int32) (wn : Nat) (ce : Nat → Int) (R C : Int) : Prop := ∀ y : Nat, y < 16 → allR I wn (fun x => pS I ce R C y x)
def qLq (I : Nat → Nat → Int32) (b : Nat) (R C : Int) : Prop := qLa I b R ∨ qLd I b C
def plS (I : Nat → Nat → Int32) (b : Nat) (ce : Nat → Int) (n wn : Nat) (to : Int) (R C : Int) : Prop := aC I wn ∧ rmC I ce R C ∧ ¬ qLq I b R C ∧ (to ≠ 0 → sdC I b n R C ≠ 0) ∧ wC I wn ce R C
theorem bI_lt {b r : Nat} (hb : b < 10) (hr : r < 13) : ¬ (151 ≤ bI b r ∧ bI b r ≤ 166) := by unfold bI; omega
theorem owAt_S {I I' : Nat → Nat → Int32} (h : fS I I') (y x : Int) : owAt I' y x = owAt I y x := by unfold owAt; rw [h 144 _ (by omega)]
theorem sgAt_S {I I' : Nat → Nat → Int32} (h : fS I I') (y x : Int) : sgAt I' y x = sgAt I y x := by unfold sgAt; rw [h 143 _ (by omega)]
theorem sd4_S {I I' : Nat → Nat → Int32} (h : fS I I') (y x : Int) : sd4 I' y x = sd4 I y x := by unfold sd4 tk; simp only [owAt_S h]
theorem RBe_S {I I' : Nat → Nat → Int32} {b : Nat} {ce : Nat → Int} (hb : b < 10) (h : fS I I') (g : RBe I b ce) : RBe I' b ce := by
  unfold RBe at *
  simp only [h _ _ (bI_lt hb (show 4 < 13 by decide)), h _ _ (bI_lt hb (show 5 < 13 by decide)), h _ _ (bI_lt hb (show 8 < 13 by decide)), h _ _ (bI_lt hb (show 11 < 13 by decide))]
  exact g
theorem RBc_S {I I' : Nat → Nat → Int32} {b n : Nat} {ce : Nat → Int} (hb : b < 10) (h : fS I I') (g : RBc I b ce n) : RBc I' b ce n := RBc_fr g (h _ _ (bI_lt hb (by decide))) (fun k => h _ _ (bI_lt hb (by decide))) (fun k => h _ _ (bI_lt hb (by decide)))
theorem bK_S {I I' : Nat → Nat → Int32} {b n : Nat} {ce : Nat → Int} (h : fS I I') (g : bK I b ce n) : bK I' b ce n := ⟨g.1, fun k hk => by rw [h _ _ (bI_lt g.1 (by decide))]; exact g.2.1 k hk, RBc_S g.1 h g.2.2.1, RBe_S g.1 h g.2.2.2.1, g.2.2.2.2⟩
theorem shK_S {I I' : Nat → Nat → Int32} (h : fS I I') (g : shK I) : shK I' := by
  refine ⟨fun l hl => ?_, fun l hl => ?_, fun y x => ?_⟩
  · rw [h _ _ (by omega)]; exact g.1 l hl
  · rw [h _ _ (by omega)]; exact g.2.1 l hl
  · rw [owAt_S h, sgAt_S h]; exact g.2.2 y x
theorem tFa_S {I I' : Nat → Nat → Int32} {b : Nat} (hb : b < 10) (h : fS I I') (i : Int) : tF I' (bI b 7) (bI b 8) 5 i = tF I (bI b 7) (bI b 8) 5 i := tF_cg (fun k => h _ _ (bI_lt hb (by decide))) (fun k => h _ _ (bI_lt hb (by decide))) 5 i
theorem tFd_S {I I' : Nat → Nat → Int32} {b : Nat} (hb : b < 10) (h : fS I I') (i : Int) : tF I' (bI b 10) (bI b 11) 10 i = tF I (bI b 10) (bI b 11) 10 i := tF_cg (fun k => h _ _ (bI_lt hb (by decide))) (fun k => h _ _ (bI_lt hb (by decide))) 10 i
theorem wLs_cg {I I' : Nat → Nat → Int32} {q : Nat} {N fm : Int} {f f' : Int → Int} (h : ∀ k, rd I' q k = rd I q k) (hf : ∀ i, f' i = f i) : ∀ n : Nat, wLs I' q N f' fm n = wLs I q N f fm n
  | 0 => rfl
  | n + 1 => by
    rw [wLs, wLs, wLs_cg h hf n]
    unfold wLc
    simp only [h, hf]
theorem fwC_S {I I' : Nat → Nat → Int32} {b : Nat} (hb : b < 10) (h : fS I I') (R C : Int) : fwC I' b R C = fwC I b R C := by
  unfold fwC
  rw [wLs_cg (fun k => h 147 k (by omega)) (tFa_S hb h), wLs_cg (fun k => h 150 k (by omega)) (tFd_S hb h)]
theorem sdC_S {I I' : Nat → Nat → Int32} {b : Nat} (hb : b < 10) (h : fS I I') (n : Nat) (R C : Int) : sdC I' b n R C = sdC I b n R C := by
  unfold sdC
  simp only [sd4_S h, h _ _ (bI_lt hb (show 2 < 13 by decide)), h _ _ (bI_lt hb (show 3 < 13 by decide))]
theorem qLa_S {I I' : Nat → Nat → Int32} {b : Nat} (hb : b < 10) (h : fS I I') (R : Int) : qLa I' b R ↔ qLa I b R := by
  unfold qLa wLc
  simp only [tFa_S hb h, h 146 _ (show ¬ (151 ≤ 146 ∧ 146 ≤ 166) by omega), h 147 _ (show ¬ (151 ≤ 147 ∧ 147 ≤ 166) by omega)]
theorem qLd_S {I I' : Nat → Nat → Int32} {b : Nat} (hb : b < 10) (h : fS I I') (R : Int) : qLd I' b R ↔ qLd I b R := by
  unfold qLd wLc
  simp only [tFd_S hb h, h 149 _ (show ¬ (151 ≤ 149 ∧ 149 ≤ 166) by omega), h 150 _ (show ¬ (151 ≤ 150 ∧ 150 ≤ 166) by omega)]
theorem qLq_S {I I' : Nat → Nat → Int32} {b : Nat} (hb : b < 10) (h : fS I I') {R C : Int} : (qLa I' b R ∨ qLd I' b C) ↔ qLq I b R C := by
  unfold qLq
  rw [qLa_S hb h, qLd_S hb h]
theorem allR_S {I I' : Nat → Nat → Int32} (h : fS I I') {wn : Nat} {s : Int → Int} : allR I' wn s ↔ allR I wn s := allR_I (fun k => h 183 k (by omega)) (fun k => h 184 k (by omega))
theorem pS_S {I I' : Nat → Nat → Int32} (h : fS I I') (ce : Nat → Int) (R C y x : Int) : pS I' ce R C y x = pS I ce R C y x := by unfold pS; rw [sgAt_S h]
theorem aC_S {I I' : Nat → Nat → Int32} (h : fS I I') {wn : Nat} : aC I' wn ↔ aC I wn := by
  unfold aC
  simp only [allR_S h, sgAt_S h]
theorem wC_S {I I' : Nat → Nat → Int32} (h : fS I I') {wn : Nat} {ce : Nat → Int} {R C : Int} : wC I' wn ce R C ↔ wC I wn ce R C := by
  unfold wC
  simp only [allR_S h, pS_S h]
theorem rmC_S {I I' : Nat → Nat → Int32} (h : fS I I') {ce : Nat → Int} {R C : Int} : rmC I' ce R C ↔ rmC I ce R C := by
  unfold rmC
  simp only [owAt_S h]
theorem plS_S {I I' : Nat → Nat → Int32} {b : Nat} (hb : b < 10) (h : fS I I') {ce : Nat → Int} {n wn : Nat} {to R C : Int} : plS I' b ce n wn to R C ↔ plS I b ce n wn to R C := by
  unfold plS
  rw [aC_S h, rmC_S h, show qLq I' b R C ↔ qLq I b R C from qLq_S hb h, sdC_S hb h, wC_S h]
theorem wRL_S {I I' : Nat → Nat → Int32} {J J' : Nat → Nat → Int64} {wn : Nat} (h : fS I I') (hj : ∀ id k, id ≠ 140 → id ≠ 141 → J' id k = J id k) (g : wRL I J wn) : wRL I' J' wn := wRL_fr g (h _ _ (by omega)) (h _ _ (by omega)) (fun k _ => h _ _ (by omega)) (fun k _ => h _ _ (by omega)) hj
theorem smN_bd {f : Nat → Int} {m : Int} : ∀ n : Nat, (∀ j, j < n → 0 ≤ f j ∧ f j ≤ m) → 0 ≤ smN f n ∧ smN f n ≤ n * m
  | 0, _ => by simp [smN]
  | n + 1, h => by
    have a := smN_bd n (fun j hj => h j (by omega))
    have c := h n (by omega)
    rw [smN, show ((n + 1 : Nat) : Int) * m = n * m + m by rw [Int.natCast_add]; simp [Int.add_mul]]
    omega
theorem sdC_bd {I : Nat → Nat → Int32} {b n : Nat} {ce : Nat → Int} (g : RBc I b ce n) (R C : Int) : 0 ≤ sdC I b n R C ∧ sdC I b n R C ≤ 200 := by
  have h := smN_bd (f := fun j => sd4 I (R + rd I (bI b 2) j) (C + rd I (bI b 3) j)) (m := 4) n (fun j _ => sd4_bd I _ _)
  have h2 := g.2.1
  unfold sdC
  omega
theorem fwC_bd {I : Nat → Nat → Int32} (g : shK I) (b : Nat) (R C : Int) : 0 ≤ fwC I b R C ∧ fwC I b R C ≤ 30000 := by
  have w1 := wLs_bd (I := I) (q := 147) (N := 16) (f := fun i : Int => tF I (bI b 7) (bI b 8) 5 i) (fm := R) g.1 5
  have w2 := wLs_bd (I := I) (q := 150) (N := 32) (f := fun i : Int => tF I (bI b 10) (bI b 11) 10 i) (fm := C) g.2.1 10
  unfold fwC
  constructor <;> (simp only [Int.ofNat_eq_natCast, Int.cast_ofNat_Int] at w1 w2; omega)
/-- the places of P: those of S, in their order, with gains and touching -/
def pE (I : Nat → Nat → Int32) (P m : Nat) (S : Int → Int → Prop) (g t : Int → Int → Int) : Prop := m ≤ 512 ∧ rd I P 4 = m ∧ (∀ j, j < m → S (rd I (P + 1) j) (rd I (P + 2) j) ∧ rd I (P + 3) j = g (rd I (P + 1) j) (rd I (P + 2) j) ∧ rd I (P + 4) j = (if 0 < t (rd I (P + 1) j) (rd I (P + 2) j) then 1 else 0)) ∧ (∀ i j, i < j → j < m → 64 * rd I (P + 1) i + rd I (P + 2) i < 64 * rd I (P + 1) j + rd I (P + 2) j) ∧ ∀ R C, S R C → ∃ j, j < m ∧ rd I (P + 1) j = R ∧ rd I (P + 2) j = C
theorem pE_cg {I : Nat → Nat → Int32} {P m : Nat} {S S' : Int → Int → Prop} {g t : Int → Int → Int} (h : pE I P m S g t) (hs : ∀ R C, S' R C ↔ S R C) : pE I P m S' g t := by
  have : S' = S := funext fun R => funext fun C => propext (hs R C)
  rw [this]; exact h
theorem pE_fr {I I' : Nat → Nat → Int32} {P m : Nat} {S : Int → Int → Prop} {g t : Int → Int → Int} (h : pE I P m S g t) (hx : ∀ id k, P ≤ id → id ≤ P + 4 → rd I' id k = rd I id k) : pE I' P m S g t := by
  unfold pE at *
  simp only [hx P _ (by omega) (by omega), hx (P + 1) _ (by omega) (by omega), hx (P + 2) _ (by omega) (by omega), hx (P + 3) _ (by omega) (by omega), hx (P + 4) _ (by omega) (by omega)]
  exact h
abbrev pL (S : Int → Int → Prop) (r c : Int) : Int → Int → Prop := fun R C => S R C ∧ 64 * R + C < 64 * r + c
abbrev rgS (S : Int → Int → Prop) : Prop := ∀ R C, S R C → -5 < R ∧ R < 16 ∧ -10 < C ∧ C < 32
theorem pE_skip {I : Nat → Nat → Int32} {P m : Nat} {S : Int → Int → Prop} {g t : Int → Int → Int} {r c : Int} (hr : rgS S) (h : pE I P m (pL S r c) g t) (hc : -10 < c ∧ c < 32) (hn : ¬ S r c) : pE I P m (pL S r (c + 1)) g t := by
  refine pE_cg h (fun R C => ?_)
  constructor
  · rintro ⟨a, b⟩
    refine ⟨a, ?_⟩
    have q := hr R C a
    apply Classical.byContradiction
    intro u
    have e1 : R = r := by omega
    have e2 : C = c := by omega
    rw [e1, e2] at a
    exact hn a
  · rintro ⟨a, b⟩
    exact ⟨a, by omega⟩
theorem pE_row {I : Nat → Nat → Int32} {P m : Nat} {S : Int → Int → Prop} {g t : Int → Int → Int} {r c : Int} (hr : rgS S) (h : pE I P m (pL S r c) g t) (hc : c = 32) : pE I P m (pL S (r + 1) (-9)) g t := by
  refine pE_cg h (fun R C => ?_)
  constructor
  · rintro ⟨a, b⟩
    have q := hr R C a
    exact ⟨a, by omega⟩
  · rintro ⟨a, b⟩
    exact ⟨a, by omega⟩
theorem pE_end {I : Nat → Nat → Int32} {P m : Nat} {S : Int → Int → Prop} {g t : Int → Int → Int} {r c : Int} (hr : rgS S) (h : pE I P m (pL S r c) g t) (hc : r = 16) (h9 : -9 ≤ c) : pE I P m S g t := by
  refine pE_cg h (fun R C => ?_)
  constructor
  · intro a
    have q := hr R C a
    exact ⟨a, by omega⟩
  · rintro ⟨a, b⟩
    exact a
def nB (y x : Int) : Int := if y < 0 then 0 else if 16 ≤ y then 512 else if x < 0 then 32 * y else if 32 ≤ x then 32 * y + 32 else 32 * y + x
theorem nB_nx (y x : Int) : nB y x ≤ nB y (x + 1) := by
  unfold nB
  repeat' split
  all_goals omega
theorem nB_ad {y x : Int} (h : inS y x) : nB y x < 512 ∧ nB y x + 1 ≤ nB y (x + 1) := by
  have h2 : 0 ≤ y ∧ y < 16 ∧ 0 ≤ x ∧ x < 32 := h
  unfold nB
  repeat' split
  all_goals omega
theorem nB_ro (y x x' : Int) : nB y x ≤ nB (y + 1) x' := by
  unfold nB
  repeat' split
  all_goals omega
theorem nB_le (y x : Int) : 0 ≤ nB y x ∧ nB y x ≤ 512 := by
  unfold nB
  repeat' split
  all_goals omega
abbrev pW (I : Nat → Nat → Int32) (P m : Nat) (R C g t : Int) : Nat → Nat → Int32 := wr (wr (wr (wr (wr I (P + 1) m R) (P + 2) m C) (P + 3) m g) (P + 4) m t) P 4 ((m : Int) + 1)
theorem pW_rd {I : Nat → Nat → Int32} {P m : Nat} {R C g t : Int} (bR : -2147483648 ≤ R ∧ R < 2147483648) (bC : -2147483648 ≤ C ∧ C < 2147483648) (bg : -2147483648 ≤ g ∧ g < 2147483648) (bt : -2147483648 ≤ t ∧ t < 2147483648) (bm : m ≤ 1000) (id k : Nat) : rd (pW I P m R C g t) id k = if id = P ∧ k = 4 then (m : Int) + 1 else if id = P + 4 ∧ k = m then t else if id = P + 3 ∧ k = m then g else if id = P + 2 ∧ k = m then C else if id = P + 1 ∧ k = m then R else rd I id k := by
  unfold pW
  rw [rd_wr (by omega) (by omega), rd_wr bt.1 bt.2, rd_wr bg.1 bg.2, rd_wr bC.1 bC.2, rd_wr bR.1 bR.2]
theorem pE_add {I : Nat → Nat → Int32} {P m : Nat} {S : Int → Int → Prop} {g t : Int → Int → Int} {r c gv tv : Int} (hr : rgS S) (h : pE I P m (pL S r c) g t) (hc : -10 < c ∧ c < 32) (hrr : -5 < r ∧ r < 16) (hs : S r c) (hm : m < 512) (hg : gv = g r c) (ht : tv = if 0 < t r c then 1 else 0) (bg : -2147483648 ≤ gv ∧ gv < 2147483648) : pE (pW I P m r c gv tv) P (m + 1) (pL S r (c + 1)) g t := by
  obtain ⟨h1, h2, h3, h4, h5⟩ := h
  have bt : -2147483648 ≤ tv ∧ tv < 2147483648 := by rw [ht]; split <;> omega
  have e := pW_rd (I := I) (P := P) (m := m) (R := r) (C := c) (g := gv) (t := tv) (by omega) (by omega) bg bt (by omega)
  have e1 : ∀ j, rd (pW I P m r c gv tv) (P + 1) j = if j = m then r else rd I (P + 1) j := fun j => by
    rw [e, if_neg (by omega), if_neg (by omega), if_neg (by omega), if_neg (by omega)]
    by_cases q : j = m
    · rw [if_pos ⟨rfl, q⟩, if_pos q]
    · rw [if_neg (by omega), if_neg q]
  have e2 : ∀ j, rd (pW I P m r c gv tv) (P + 2) j = if j = m then c else rd I (P + 2) j := fun j => by
    rw [e, if_neg (by omega), if_neg (by omega), if_neg (by omega)]
    by_cases q : j = m
    · rw [if_pos ⟨rfl, q⟩, if_pos q]
    · rw [if_neg (by omega), if_neg (by omega), if_neg q]
  have e3 : ∀ j, rd (pW I P m r c gv tv) (P + 3) j = if j = m then gv else rd I (P + 3) j := fun j => by
    rw [e, if_neg (by omega), if_neg (by omega)]
    by_cases q : j = m
    · rw [if_pos ⟨rfl, q⟩, if_pos q]
    · rw [if_neg (by omega), if_neg (by omega), if_neg (by omega), if_neg q]
  have e4 : ∀ j, rd (pW I P m r c gv tv) (P + 4) j = if j = m then tv else rd I (P + 4) j := fun j => by
    rw [e, if_neg (by omega)]
    by_cases q : j = m
    · rw [if_pos ⟨rfl, q⟩, if_pos q]
    · rw [if_neg (by omega), if_neg (by omega), if_neg (by omega), if_neg (by omega), if_neg q]
  refine ⟨by omega, by rw [e, if_pos ⟨rfl, rfl⟩]; omega, fun j hj => ?_, fun i j hij hj => ?_, fun R C hS => ?_⟩
  · rw [e1, e2, e3, e4]
    by_cases q : j = m
    · simp only [if_pos q]
      exact ⟨⟨hs, by omega⟩, hg, ht⟩
    · simp only [if_neg q]
      have a := h3 j (by omega)
      exact ⟨⟨a.1.1, by have := a.1.2; omega⟩, a.2⟩
  · rw [e1, e2, e1, e2]
    have qi : ¬ i = m := by omega
    by_cases q : j = m
    · simp only [if_pos q, if_neg qi]
      have a := h3 i (by omega)
      exact a.1.2
    · simp only [if_neg q, if_neg qi]
      exact h4 i j hij (by omega)
  · by_cases q : 64 * R + C < 64 * r + c
    · obtain ⟨j, a, b, d⟩ := h5 R C ⟨hS.1, q⟩
      refine ⟨j, by omega, ?_, ?_⟩
      · rw [e1, if_neg (by omega)]; exact b
      · rw [e2, if_neg (by omega)]; exact d
    · have u := hr R C hS.1
      have v := hS.2
      refine ⟨m, by omega, ?_, ?_⟩
      · rw [e1, if_pos rfl]; omega
      · rw [e2, if_pos rfl]; omega
theorem plS_rg {I : Nat → Nat → Int32} {b : Nat} {ce : Nat → Int} {n wn : Nat} {to : Int} : rgS (plS I b ce n wn to) := fun R C h => h.2.1.1
abbrev gnC (I : Nat → Nat → Int32) (b n : Nat) : Int → Int → Int := fun R C => fwC I b R C + sdC I b n R C
abbrev tcC (I : Nat → Nat → Int32) (b n : Nat) : Int → Int → Int := fun R C => sdC I b n R C
theorem first_in {I : Nat → Nat → Int32} {b n : Nat} {ce : Nat → Int} {R C : Int} {X : Int → Int → Prop} (hK : bK I b ce n) (h : ∀ y x : Int, cA ce R C y x ≠ 95 → inS y x ∧ X y x) : inS (R + rd I (bI b 2) 0) (C + rd I (bI b 3) 0) := by
  obtain ⟨r, c, h1, h2, h3, h4, h5, h6⟩ := cp_rc hK.2.2.1 (show 0 < n from hK.2.2.2.2)
  have q := cA_at (ce := ce) (R := R) (C := C) h6
  have e1 : cp I b 0 / 10 = r := by omega
  have e2 : cp I b 0 % 10 = c := by omega
  rw [e1, e2] at q
  rw [h3, h4]
  exact (h _ _ (by rw [q]; exact (hK.2.2.1.2.2.1 0 hK.2.2.2.2).2.2.2.2)).1
/-- the touching places' numbers in cell 162 -/
def tE (I : Nat → Nat → Int32) (f m : Nat) : Prop := f ≤ m ∧ (∀ t, t < f → 0 ≤ rd I 162 t ∧ rd I 162 t < m ∧ rd I 161 (rd I 162 t).toNat ≠ 0) ∧ (∀ s t, s < t → t < f → rd I 162 s < rd I 162 t) ∧ ∀ i : Nat, i < m → rd I 161 i ≠ 0 → ∃ t, t < f ∧ rd I 162 t = i
