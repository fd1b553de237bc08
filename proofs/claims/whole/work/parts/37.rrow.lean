/-! RUNS of a ROW (s x: the sign at column x, 95 outside) -/
def isRun (s : Int → Int) (a e : Int) : Prop := a < e ∧ (∀ x, a ≤ x → x < e → isTx (s x)) ∧ ¬ isTx (s (a - 1)) ∧ ¬ isTx (s e)
def sB (s : Int → Int) : Prop := ∀ x, x < 0 ∨ 32 ≤ x → s x = 95
def c44 (v : Int) : Int := if v = 44 then 1 else 0
theorem c44_ne {v : Int} : c44 v ≠ 0 ↔ v = 44 := by
  unfold c44; by_cases h : v = 44 <;> simp [h]
def okR (I : Nat → Nat → Int32) (wn : Nat) (s : Int → Int) (a e : Int) : Prop := wn = 0 ∨ ∃ w, w < wn ∧ cB I (fun j => s (a + j)) (e - a).toNat (c44 (s (a - 1))) (c44 (s e)) w
theorem tx95 {v : Int} (h : isTx v) : v ≠ 95 := by
  intro e; rw [e] at h; exact absurd h (by decide)
theorem tx44 {v : Int} (h : v = 44) : ¬ isTx v := by rw [h]; decide
theorem sB_in {s : Int → Int} (h : sB s) {x : Int} (ht : isTx (s x)) : 0 ≤ x ∧ x < 32 := by
  by_cases g : x < 0 ∨ 32 ≤ x
  · exact absurd (h x g) (tx95 ht)
  · omega
theorem run_up {s : Int → Int} (h : sB s) : ∀ (n : Nat) (x : Int), 32 - x < n → isTx (s x) → ∃ e, x < e ∧ (∀ y, x ≤ y → y < e → isTx (s y)) ∧ ¬ isTx (s e)
  | 0, x, hm, ht => by have := sB_in h ht; omega
  | n + 1, x, hm, ht => by
    by_cases g : isTx (s (x + 1))
    · obtain ⟨e, e1, e2, e3⟩ := run_up h n (x + 1) (by omega) g
      refine ⟨e, by omega, fun y y1 y2 => ?_, e3⟩
      by_cases q : y = x
      · rw [q]; exact ht
      · exact e2 y (by omega) y2
    · refine ⟨x + 1, by omega, fun y y1 y2 => ?_, g⟩
      rw [show y = x by omega]; exact ht
theorem run_dn {s : Int → Int} (h : sB s) : ∀ (n : Nat) (x : Int), x < n → isTx (s x) → ∃ a, a ≤ x ∧ (∀ y, a ≤ y → y ≤ x → isTx (s y)) ∧ ¬ isTx (s (a - 1))
  | 0, x, hm, ht => by have := sB_in h ht; omega
  | n + 1, x, hm, ht => by
    by_cases g : isTx (s (x - 1))
    · obtain ⟨e, e1, e2, e3⟩ := run_dn h n (x - 1) (by omega) g
      refine ⟨e, by omega, fun y y1 y2 => ?_, e3⟩
      by_cases q : y = x
      · rw [q]; exact ht
      · exact e2 y (by omega) (by omega)
    · refine ⟨x, by omega, fun y y1 y2 => ?_, g⟩
      rw [show y = x by omega]; exact ht
theorem run_ex {s : Int → Int} (h : sB s) {x : Int} (ht : isTx (s x)) : ∃ a e, isRun s a e ∧ a ≤ x ∧ x < e := by
  have b := sB_in h ht
  obtain ⟨e, e1, e2, e3⟩ := run_up h 33 x (by omega) ht
  obtain ⟨a, a1, a2, a3⟩ := run_dn h 33 x (by omega) ht
  refine ⟨a, e, ⟨by omega, fun y y1 y2 => ?_, a3, e3⟩, a1, e1⟩
  by_cases q : y ≤ x
  · exact a2 y y1 q
  · exact e2 y (by omega) y2
theorem run_uni {s : Int → Int} {a e a' e' x : Int} (h : isRun s a e) (h' : isRun s a' e') (x1 : a ≤ x) (x2 : x < e) (y1 : a' ≤ x) (y2 : x < e') : a = a' ∧ e = e' := by
  obtain ⟨p1, p2, p3, p4⟩ := h
  obtain ⟨q1, q2, q3, q4⟩ := h'
  constructor
  · rcases Int.lt_trichotomy a a' with g | g | g
    · exact absurd (p2 (a' - 1) (by omega) (by omega)) q3
    · exact g
    · exact absurd (q2 (a - 1) (by omega) (by omega)) p3
  · rcases Int.lt_trichotomy e e' with g | g | g
    · exact absurd (q2 e (by omega) (by omega)) p4
    · exact g
    · exact absurd (p2 e' (by omega) (by omega)) q4
theorem okR_cong {I : Nat → Nat → Int32} {wn : Nat} {s s' : Int → Int} {a e : Int} (h : ∀ x, a - 1 ≤ x → x ≤ e → s' x = s x) (ae : a < e) : okR I wn s' a e ↔ okR I wn s a e := by
  unfold okR
  rw [h (a - 1) (by omega) (by omega), h e (by omega) (by omega)]
  have e1 : ∀ w, (cB I (fun j => s' (a + (j : Nat))) (e - a).toNat (c44 (s (a - 1))) (c44 (s e)) w ↔ cB I (fun j => s (a + (j : Nat))) (e - a).toNat (c44 (s (a - 1))) (c44 (s e)) w) := fun w => by
    unfold cB
    constructor
    · rintro ⟨i, i1, i2, i3, i4⟩
      refine ⟨i, i1, i2, i3, fun j hj il => ?_⟩
      have q := h (a + j) (by omega) (by omega)
      have := i4 j hj (by (try dsimp only); rw [q]; exact il)
      (try dsimp only at this)
      rw [this, q]
    · rintro ⟨i, i1, i2, i3, i4⟩
      refine ⟨i, i1, i2, i3, fun j hj il => ?_⟩
      have q := h (a + j) (by omega) (by omega)
      (try dsimp only at il)
      rw [q] at il
      (try dsimp only)
      rw [q]
      exact i4 j hj il
  constructor
  · rintro (q | ⟨w, w1, w2⟩)
    · exact Or.inl q
    · exact Or.inr ⟨w, w1, (e1 w).mp w2⟩
  · rintro (q | ⟨w, w1, w2⟩)
    · exact Or.inl q
    · exact Or.inr ⟨w, w1, (e1 w).mpr w2⟩
/-- all RUNS of a ROW can be words -/
def allR (I : Nat → Nat → Int32) (wn : Nat) (s : Int → Int) : Prop := ∀ a e, isRun s a e → okR I wn s a e
/-- those that a stretch touches -/
def tchR (I : Nat → Nat → Int32) (wn : Nat) (s : Int → Int) (f l : Int) : Prop := ∀ a e, isRun s a e → f ≤ e → a ≤ l + 1 → okR I wn s a e
theorem allR_mono {I : Nat → Nat → Int32} {wn : Nat} {s s' : Int → Int} (hb : sB s') (h : ∀ x, s x ≠ 95 → s' x = s x) (ha : allR I wn s') : allR I wn s := by
  intro a e hr
  obtain ⟨r1, r2, r3, r4⟩ := hr
  have t1 : ∀ x, a ≤ x → x < e → s' x = s x := fun x x1 x2 => h x (tx95 (r2 x x1 x2))
  have tx : isTx (s' a) := by rw [t1 a (by omega) r1]; exact r2 a (by omega) r1
  obtain ⟨a', e', q, qa, qe⟩ := run_ex hb tx
  obtain ⟨q1, q2, q3, q4⟩ := q
  have ee : e ≤ e' := by
    apply Classical.byContradiction
    intro g
    have := r2 e' (by omega) (by omega)
    rw [← t1 e' (by omega) (by omega)] at this
    exact q4 this
  rcases ha a' e' ⟨q1, q2, q3, q4⟩ with g | ⟨w, w1, i, i1, i2, i3, i4⟩
  · exact Or.inl g
  · have ca : s (a - 1) = 44 → a' = a ∧ s' (a' - 1) = 44 := fun g => by
      have g2 : s' (a - 1) = 44 := by rw [h (a - 1) (by rw [g]; decide), g]
      have g3 : a' = a := by
        apply Classical.byContradiction
        intro g4
        exact absurd (q2 (a - 1) (by omega) (by omega)) (tx44 g2)
      exact ⟨g3, by rw [g3]; exact g2⟩
    have ce : s e = 44 → e' = e ∧ s' e' = 44 := fun g => by
      have g2 : s' e = 44 := by rw [h e (by rw [g]; decide), g]
      have g3 : e' = e := by
        apply Classical.byContradiction
        intro g4
        exact absurd (q2 e (by omega) (by omega)) (tx44 g2)
      exact ⟨g3, by rw [g3]; exact g2⟩
    refine Or.inr ⟨w, w1, i + (a - a').toNat, by omega, fun g => ?_, fun g => ?_, fun j hj il => ?_⟩
    · have := ca (c44_ne.mp g)
      have := i2 (c44_ne.mpr this.2)
      omega
    · have := ce (c44_ne.mp g)
      have := i3 (c44_ne.mpr this.2)
      omega
    · have x1 := t1 (a + j) (by omega) (by omega)
      have x2 : a' + ((((a - a').toNat + j : Nat)) : Int) = a + j := by omega
      have := i4 ((a - a').toNat + j) (by omega) (by (try dsimp only); rw [x2, x1]; exact il)
      (try dsimp only at this)
      rw [x2, x1] at this
      (try dsimp only)
      rw [← this]; congr 1; omega
theorem allR_lay {I : Nat → Nat → Int32} {wn : Nat} {s s' : Int → Int} {f l : Int} (hb : sB s') (h : ∀ x, s x ≠ 95 → s' x = s x) (h2 : ∀ x, x < f ∨ l < x → s' x = s x) : allR I wn s' ↔ allR I wn s ∧ tchR I wn s' f l := by
  constructor
  · intro ha
    exact ⟨allR_mono hb h ha, fun a e hr _ _ => ha a e hr⟩
  · rintro ⟨h3, h4⟩ a e hr
    by_cases g : f ≤ e ∧ a ≤ l + 1
    · exact h4 a e hr g.1 g.2
    · have ev : ∀ x, a - 1 ≤ x → x ≤ e → s' x = s x := fun x x1 x2 => h2 x (by omega)
      obtain ⟨r1, r2, r3, r4⟩ := hr
      refine (okR_cong ev r1).mpr (h3 a e ⟨r1, fun x x1 x2 => ?_, ?_, ?_⟩)
      · rw [← ev x (by omega) (by omega)]; exact r2 x x1 x2
      · rw [← ev (a - 1) (by omega) (by omega)]; exact r3
      · rw [← ev e (by omega) (by omega)]; exact r4
theorem allR_cong {I : Nat → Nat → Int32} {wn : Nat} {s s' : Int → Int} (h : ∀ x, s' x = s x) : allR I wn s' ↔ allR I wn s := by
  have : s' = s := funext h
  rw [this]
theorem sgAt_sB (I : Nat → Nat → Int32) (y : Int) : sB (fun x => sgAt I y x) := fun x hx => by
  show sgAt I y x = 95
  unfold sgAt
  rw [if_neg]
  intro g
  have : (0 ≤ y ∧ y < 16 ∧ 0 ≤ x ∧ x < 32) := g
  omega
theorem x8_startOfRun_l {I : Nat → Nat → Int32} {J : Nat → Nat → Int64} {F : Option Value → zM → Prop} {y cc : Int} (hyy : -1000 ≤ y ∧ y ≤ 1000) (hcc : -1000 ≤ cc ∧ cc ≤ 1000) (h : (∀ st : Int, st ≤ cc → (0 ≤ st ∨ st = cc) → (∀ x, st ≤ x → x < cc → isTx (sgAt I y x)) → ¬ isTx (sgAt I y (st - 1)) → F (some (.int (iI st))) (gM I J))) : ∀ (nz : Nat) (st : Int), st.toNat < nz → st ≤ cc → (0 ≤ st ∨ st = cc) → (∀ x, st ≤ x → x < cc → isTx (sgAt I y x)) → Wp (sE kX8_startOfRun RX8) F 2 [(0, .ref 142), (1, .int (iI y)), (2, .int (iI cc)), (3, .int (iI st))] [] (gM I J) := by
  intro nz
  induction nz with
  | zero =>
    intro st hmz h1 h2 ht
    exact absurd hmz (Nat.not_lt_zero _)
  | succ nz ih =>
    intro st hmz h1 h2 ht
    refine w_iload_n dX8_startOfRun_2 rfl ?_
    refine v_if_le 26 dX8_startOfRun_3 (by decide) (by omega) (fun c3 => ?_) (fun c3 => ?_)
    · refine w_iload_n dX8_startOfRun_26 rfl ?_
      refine v_iret dX8_startOfRun_27 rfl ⟨rfl, rfl⟩ ?_
      first
        | (rw [e11] at q14
           exact h st h1 h2 ht q14)
        | exact h st h1 h2 ht (fun g => by have := sB_in (sgAt_sB I y) g; omega)
    · refine w_aload_n dX8_startOfRun_6 rfl ?_
      refine w_iload_n dX8_startOfRun_7 rfl ?_
      refine w_iload_n dX8_startOfRun_8 rfl ?_
      refine w_iconst (v := iI 1) dX8_startOfRun_9 rfl ?_
      refine v_isub dX8_startOfRun_10 ?_
      refine v_callV2 dX8_startOfRun_11 lX8_87 vX8_signAt (by decide) rfl rfl ⟨by decide, rfl⟩ (by decide) rfl (Nat.le_of_ble_eq_true rfl) ?_
      refine x8_signAt (by omega) (by omega) (fun z11 e11 b11 => ?_)
      refine v_callSN1 dX8_startOfRun_14 lX8_90 vX11_isText (by decide) rfl rfl (Nat.le_of_ble_eq_true rfl) ?_
      refine x11_isText (by omega) (fun q14 => ?_) (fun q14 => ?_)
      · refine v_if_eq 26 dX8_startOfRun_17 (by decide) (by decide) (fun q => absurd q (by decide)) (fun _ => ?_)
        refine v_iinc dX8_startOfRun_20 rfl rfl rfl ?_
        refine w_goto 2 dX8_startOfRun_23 (by decide) ?_
        rw [e11] at q14
        rw [show st + -1 = st - 1 by omega]
        refine ih (st - 1) (by omega) (by omega) (by omega) (fun x x1 x2 => ?_)
        by_cases g : x = st - 1
        · rw [g]; exact q14
        · exact ht x (by omega) x2
      · refine v_if_eq 26 dX8_startOfRun_17 (by decide) (by decide) (fun _ => ?_) (fun q => absurd q (by decide))
        refine w_iload_n dX8_startOfRun_26 rfl ?_
        refine v_iret dX8_startOfRun_27 rfl ⟨rfl, rfl⟩ ?_
        first
          | (rw [e11] at q14
             exact h st h1 h2 ht q14)
          | exact h st h1 h2 ht (fun g => by have := sB_in (sgAt_sB I y) g; omega)
theorem x8_startOfRun {I : Nat → Nat → Int32} {J : Nat → Nat → Int64} {F : Option Value → zM → Prop} {y cc : Int} (hyy : -1000 ≤ y ∧ y ≤ 1000) (hcc : -1000 ≤ cc ∧ cc ≤ 1000) (h : (∀ st : Int, st ≤ cc → (0 ≤ st ∨ st = cc) → (∀ x, st ≤ x → x < cc → isTx (sgAt I y x)) → ¬ isTx (sgAt I y (st - 1)) → F (some (.int (iI st))) (gM I J))) : Cl yX8_startOfRun kX8_startOfRun [.ref 142, .int (iI y), .int (iI cc)] (gM I J) F := by
  refine cl_s (by decide) (by decide) (Nat.le_of_ble_eq_true rfl) rt_i ?_
  show Wp _ F 0 [(0, .ref 142), (1, .int (iI y)), (2, .int (iI cc))] [] _
  refine w_iload_n dX8_startOfRun_0 rfl ?_
  refine w_istore_n dX8_startOfRun_1 rfl rfl ?_
  exact x8_startOfRun_l hyy hcc h (cc.toNat + 1) cc (by omega) (by omega) (Or.inr rfl) (fun x x1 x2 => by omega)
theorem tch_yes {I : Nat → Nat → Int32} {wn : Nat} {y f l st col : Int} (s1 : st ≤ f) (s3 : ∀ x, st ≤ x → x < f → isTx (sgAt I y x)) (s4 : ¬ isTx (sgAt I y (st - 1))) (hd : ∀ a e, isRun (fun x => sgAt I y x) a e → st ≤ a → e ≤ col → okR I wn (fun x => sgAt I y x) a e) (h : 32 < col ∨ (l < col ∧ ¬ isTx (sgAt I y col))) : (tchR I wn (fun x => sgAt I y x) f l) := by
  intro a e hr fe al
  have hr' := hr
  obtain ⟨r1, r2, r3, r4⟩ := hr
  refine hd a e hr' ?_ ?_
  · apply Classical.byContradiction
    intro g
    by_cases q : a = st - 1
    · exact s4 (by rw [← q]; exact r2 a (by omega) (by omega))
    · exact s4 (r2 (st - 1) (by omega) (by omega))
  · apply Classical.byContradiction
    intro g
    rcases h with h | h
    · have := sB_in (sgAt_sB I y) (r2 (e - 1) (by omega) (by omega))
      omega
    · exact h.2 (r2 col (by omega) (by omega))
theorem tch_no {I : Nat → Nat → Int32} {wn : Nat} {y f l st a e : Int} (hfl : f ≤ l + 1) (s1 : st ≤ f) (s3 : ∀ x, st ≤ x → x < f → isTx (sgAt I y x)) (hr : isRun (fun x => sgAt I y x) a e) (ha : st ≤ a) (hnt : ∀ x, st ≤ x → x < e → l < x → isTx (sgAt I y x)) (hn : ¬ okR I wn (fun x => sgAt I y x) a e) (s4 : ¬ isTx (sgAt I y (st - 1))) : ¬ (tchR I wn (fun x => sgAt I y x) f l) := by
  intro h
  have hr' := hr
  obtain ⟨r1, r2, r3, r4⟩ := hr
  refine hn (h a e hr' ?_ ?_)
  · apply Classical.byContradiction
    intro g
    exact r4 (s3 e (by omega) (by omega))
  · apply Classical.byContradiction
    intro g
    exact r3 (hnt (a - 1) (by omega) (by omega) (by omega))
theorem okR_RE {I : Nat → Nat → Int32} {J J' : Nat → Nat → Int64} {wn n : Nat} {y a col : Int} (hL : wRL I J wn) (r : wRE I J J' wn (fun j => sgAt I y (a + j)) (c44 (sgAt I y (a - 1))) (c44 (sgAt I y col)) n) (hc : col = a + n) : (rd I 134 0 = 0 ∨ J' 141 0 ≠ 0 ∨ J' 141 1 ≠ 0) ↔ okR I wn (fun x => sgAt I y x) a col := by
  unfold okR
  rw [r.a, hL.c, show (col - a).toNat = n by omega]
  exact or_congr (by omega) Iff.rfl
theorem c44_if {α : Type} {v : Int} {p q : α} : (if c44 v = 0 then p else q) = if v = 44 then q else p := by
  unfold c44
  by_cases h : v = 44 <;> simp [h]
theorem x8_runsCan_l {I : Nat → Nat → Int32} {J : Nat → Nat → Int64} {F : Option Value → zM → Prop} {wn : Nat} (hL : wRL I J wn) {y f l : Int} (hyy : -1000 ≤ y ∧ y ≤ 1000) (hf : -1000 ≤ f ∧ f ≤ 32) (hfl : f ≤ l + 1) (hl : -1000 ≤ l ∧ l ≤ 1000) (ht : (tchR I wn (fun x => sgAt I y x) f l) → ∀ J' : Nat → Nat → Int64, (∀ id k, id ≠ 140 → id ≠ 141 → J' id k = J id k) → F (some (.int (iI 1))) (gM I J')) (hn : ¬ (tchR I wn (fun x => sgAt I y x) f l) → ∀ J' : Nat → Nat → Int64, (∀ id k, id ≠ 140 → id ≠ 141 → J' id k = J id k) → F (some (.int (iI 0))) (gM I J')) {st : Int} (s1 : st ≤ f) (s2 : 0 ≤ st ∨ st = f) (s3 : ∀ x, st ≤ x → x < f → isTx (sgAt I y x)) (s4 : ¬ isTx (sgAt I y (st - 1))) : ∀ (nz : Nat) (col : Int) (J' : Nat → Nat → Int64), (34 - col).toNat < nz → (st ≤ col → col ≤ 33 → (∀ a e, isRun (fun x => sgAt I y x) a e → st ≤ a → e < col → okR I wn (fun x => sgAt I y x) a e) → (∀ x, st ≤ x → x < col → l < x → isTx (sgAt I y x)) → (∀ id k, id ≠ 140 → id ≠ 141 → J' id k = J id k) → ¬ isTx (sgAt I y (col - 1)) → Wp (sE kX8_runsCan RX8) F 11 [(0, .ref 142), (1, .int (iI y)), (2, .int (iI f)), (3, .int (iI l)), (4, .ref 134), (5, .int (iI 0)), (6, .int (iI col))] [] (gM I J')) ∧ (st ≤ col → col ≤ 33 → (∀ a e, isRun (fun x => sgAt I y x) a e → st ≤ a → e < col → okR I wn (fun x => sgAt I y x) a e) → (∀ x, st ≤ x → x < col → l < x → isTx (sgAt I y x)) → (∀ id k, id ≠ 140 → id ≠ 141 → J' id k = J id k) → ∀ (a : Int) (n : Nat), col = a + n → 1 ≤ n → st ≤ a → (∀ x, a ≤ x → x < col → isTx (sgAt I y x)) → ¬ isTx (sgAt I y (a - 1)) → wRS I J J' wn (fun j => sgAt I y (a + j)) (c44 (sgAt I y (a - 1))) n → Wp (sE kX8_runsCan RX8) F 11 [(0, .ref 142), (1, .int (iI y)), (2, .int (iI f)), (3, .int (iI l)), (4, .ref 134), (5, .int (iI 1)), (6, .int (iI col))] [] (gM I J')) := by
  intro nz
  induction nz with
  | zero =>
    intro col J' hmz
    exact absurd hmz (Nat.not_lt_zero _)
  | succ nz ih =>
    intro col J' hmz
    refine ⟨fun h1 h2 hd hnt hJ hb => ?_, fun h1 h2 hd hnt hJ a n hc hn1 ha htx hb hr => ?_⟩
    · skip
      refine w_iload dX8_runsCan_11 rfl ?_
      refine w_bipush (v := iI 32) dX8_runsCan_13 (by decide) ?_
      refine v_icmp_gt 126 dX8_runsCan_15 (by decide) (by omega) (by omega) (fun c15 => ?_) (fun c15 => ?_)
      · refine w_iconst (v := iI 1) dX8_runsCan_126 rfl ?_
        refine v_zret dX8_runsCan_127 rfl ⟨rfl, rfl⟩ (by decide) ?_
        exact ht (tch_yes s1 s3 s4 (col := col) (fun a' e' hr u1 u2 => by
            by_cases g : e' = col
            · exact absurd (hr.2.1 (e' - 1) (by have := hr.1; omega) (by omega)) (by rw [g]; exact hb)
            · exact hd a' e' hr u1 (by omega)) (Or.inl (by omega))) J' hJ
      · refine w_aload_n dX8_runsCan_18 rfl ?_
        refine w_iload_n dX8_runsCan_19 rfl ?_
        refine w_iload dX8_runsCan_20 rfl ?_
        refine v_callV2 dX8_runsCan_22 lX8_87 vX8_signAt (by decide) rfl rfl ⟨by decide, rfl⟩ (by decide) rfl (Nat.le_of_ble_eq_true rfl) ?_
        refine x8_signAt (by omega) (by omega) (fun z22 e22 b22 => ?_)
        refine w_istore dX8_runsCan_25 rfl rfl ?_
        refine w_iload dX8_runsCan_27 rfl ?_
        refine v_callSN1 dX8_runsCan_29 lX8_90 vX11_isText (by decide) rfl rfl (Nat.le_of_ble_eq_true rfl) ?_
        refine x11_isText (by omega) (fun q29 => ?_) (fun q29 => ?_)
        all_goals rw [e22] at q29
        · refine v_if_eq 77 dX8_runsCan_32 (by decide) (by decide) (fun q => absurd q (by decide)) (fun _ => ?_)
          refine w_iload dX8_runsCan_35 rfl ?_
          refine v_if_ne 64 dX8_runsCan_37 (by decide) (by decide) (fun q => absurd q (by decide)) (fun _ => ?_)
          refine w_aload dX8_runsCan_40 rfl ?_
          refine w_aload_n dX8_runsCan_42 rfl ?_
          refine w_iload_n dX8_runsCan_43 rfl ?_
          refine w_iload dX8_runsCan_44 rfl ?_
          refine w_iconst (v := iI 1) dX8_runsCan_46 rfl ?_
          refine v_isub dX8_runsCan_47 ?_
          refine v_callV2 dX8_runsCan_48 lX8_87 vX8_signAt (by decide) rfl rfl ⟨by decide, rfl⟩ (by decide) rfl (Nat.le_of_ble_eq_true rfl) ?_
          refine x8_signAt (by omega) (by omega) (fun z48 e48 b48 => ?_)
          refine w_bipush (v := iI 44) dX8_runsCan_51 (by decide) ?_
          refine v_icmp_ne 60 dX8_runsCan_53 (by decide) (by omega) (by omega) (fun c53 => ?_) (fun c53 => ?_)
          · refine w_iconst (v := iI 0) dX8_runsCan_60 rfl ?_
            refine v_callV1 dX8_runsCan_61 lX8_94 vX10_beginRun (by decide) rfl rfl ⟨by decide, rfl⟩ (by decide) rfl (Nat.le_of_ble_eq_true rfl) ?_
            refine x10_beginRun (by decide) (fun J1 j1 => ?_)
            refine w_iconst (v := iI 1) dX8_runsCan_64 rfl ?_
            refine w_istore dX8_runsCan_65 rfl rfl ?_
            refine w_aload dX8_runsCan_67 rfl ?_
            refine w_iload dX8_runsCan_69 rfl ?_
            refine v_callV1 dX8_runsCan_71 lX8_98 vX10_nextSign (by decide) rfl rfl ⟨by decide, rfl⟩ (by decide) rfl (Nat.le_of_ble_eq_true rfl) ?_
            refine x10_nextSign (by omega) (fun x J2 g1 g2 g3 g4 g5 => ?_)
            refine w_goto 120 dX8_runsCan_74 (by decide) ?_
            refine v_iinc dX8_runsCan_120 rfl rfl rfl ?_
            refine w_goto 11 dX8_runsCan_123 (by decide) ?_
            first
              | (exfalso; omega)
              | (refine w_keep 7 ?_
                 have ex : (sgAt I y (col + ((0 : Nat) : Int))) = z22 := by rw [e22]; congr 1; omega
                 have cz : c44 (sgAt I y (col - 1)) = 1 ∨ c44 (sgAt I y (col - 1)) = 0 := by unfold c44; split <;> simp
                 have r0 : wRS I J J1 wn (fun j => sgAt I y (col + (j : Nat))) (c44 (sgAt I y (col - 1))) 0 := wRS_begin hL hJ (fun id k => by
                   rw [j1 id k]
                   rw [e48] at c53
                   rw [c44_if]
                   first | (rw [if_pos c53]; simp; done) | (rw [if_neg c53]; simp; done))
                 have r1 := wRS_next hL r0 g1 g2 (show isLt (sgAt I y (col + ((0 : Nat) : Int))) → x = sgAt I y (col + ((0 : Nat) : Int)) - 97 by rw [ex]; exact g3) (show ¬ isLt (sgAt I y (col + ((0 : Nat) : Int))) → x = 26 by rw [ex]; exact g4) g5
                 exact (ih (col + 1) J2 (by omega)).2 (by omega) (by omega) (fun a' e' hr u1 u2 => by
                     by_cases g : e' = col
                     · exact absurd (show isTx (sgAt I y e') by rw [g]; exact q29) hr.2.2.2
                     · exact hd a' e' hr u1 (by omega)) (fun x x1 x2 x3 => by
                     by_cases g : x = col
                     · rw [g]; exact q29
                     · exact hnt x x1 (by omega) x3) r1.f col 1 (by omega) (by omega) h1 (fun x x1 x2 => by rw [show x = col by omega]; exact q29) hb r1)
              | (refine w_keep 7 ?_
                 exact (ih (col + 1) J' (by omega)).1 (by omega) (by omega) (fun a' e' hr u1 u2 => by
                     by_cases g : e' = col
                     · exact absurd (hr.2.1 (e' - 1) (by have := hr.1; omega) (by omega)) (by rw [g]; exact hb)
                     · exact hd a' e' hr u1 (by omega)) (fun x x1 x2 x3 => hnt x x1 (by omega) x3) hJ (by rw [show col + 1 - 1 = col by omega]; exact q29))
          · refine w_iconst (v := iI 1) dX8_runsCan_56 rfl ?_
            refine w_goto 61 dX8_runsCan_57 (by decide) ?_
            refine v_callV1 dX8_runsCan_61 lX8_94 vX10_beginRun (by decide) rfl rfl ⟨by decide, rfl⟩ (by decide) rfl (Nat.le_of_ble_eq_true rfl) ?_
            refine x10_beginRun (by decide) (fun J1 j1 => ?_)
            refine w_iconst (v := iI 1) dX8_runsCan_64 rfl ?_
            refine w_istore dX8_runsCan_65 rfl rfl ?_
            refine w_aload dX8_runsCan_67 rfl ?_
            refine w_iload dX8_runsCan_69 rfl ?_
            refine v_callV1 dX8_runsCan_71 lX8_98 vX10_nextSign (by decide) rfl rfl ⟨by decide, rfl⟩ (by decide) rfl (Nat.le_of_ble_eq_true rfl) ?_
            refine x10_nextSign (by omega) (fun x J2 g1 g2 g3 g4 g5 => ?_)
            refine w_goto 120 dX8_runsCan_74 (by decide) ?_
            refine v_iinc dX8_runsCan_120 rfl rfl rfl ?_
            refine w_goto 11 dX8_runsCan_123 (by decide) ?_
            first
              | (exfalso; omega)
              | (refine w_keep 7 ?_
                 have ex : (sgAt I y (col + ((0 : Nat) : Int))) = z22 := by rw [e22]; congr 1; omega
                 have cz : c44 (sgAt I y (col - 1)) = 1 ∨ c44 (sgAt I y (col - 1)) = 0 := by unfold c44; split <;> simp
                 have r0 : wRS I J J1 wn (fun j => sgAt I y (col + (j : Nat))) (c44 (sgAt I y (col - 1))) 0 := wRS_begin hL hJ (fun id k => by
                   rw [j1 id k]
                   rw [e48] at c53
                   rw [c44_if]
                   first | (rw [if_pos c53]; simp; done) | (rw [if_neg c53]; simp; done))
                 have r1 := wRS_next hL r0 g1 g2 (show isLt (sgAt I y (col + ((0 : Nat) : Int))) → x = sgAt I y (col + ((0 : Nat) : Int)) - 97 by rw [ex]; exact g3) (show ¬ isLt (sgAt I y (col + ((0 : Nat) : Int))) → x = 26 by rw [ex]; exact g4) g5
                 exact (ih (col + 1) J2 (by omega)).2 (by omega) (by omega) (fun a' e' hr u1 u2 => by
                     by_cases g : e' = col
                     · exact absurd (show isTx (sgAt I y e') by rw [g]; exact q29) hr.2.2.2
                     · exact hd a' e' hr u1 (by omega)) (fun x x1 x2 x3 => by
                     by_cases g : x = col
                     · rw [g]; exact q29
                     · exact hnt x x1 (by omega) x3) r1.f col 1 (by omega) (by omega) h1 (fun x x1 x2 => by rw [show x = col by omega]; exact q29) hb r1)
              | (refine w_keep 7 ?_
                 exact (ih (col + 1) J' (by omega)).1 (by omega) (by omega) (fun a' e' hr u1 u2 => by
                     by_cases g : e' = col
                     · exact absurd (hr.2.1 (e' - 1) (by have := hr.1; omega) (by omega)) (by rw [g]; exact hb)
                     · exact hd a' e' hr u1 (by omega)) (fun x x1 x2 x3 => hnt x x1 (by omega) x3) hJ (by rw [show col + 1 - 1 = col by omega]; exact q29))
        · refine v_if_eq 77 dX8_runsCan_32 (by decide) (by decide) (fun _ => ?_) (fun q => absurd q (by decide))
          refine w_iload dX8_runsCan_77 rfl ?_
          refine v_if_eq 109 dX8_runsCan_79 (by decide) (by decide) (fun _ => ?_) (fun q => absurd q (by decide))
          refine w_iconst (v := iI 0) dX8_runsCan_109 rfl ?_
          refine w_istore dX8_runsCan_110 rfl rfl ?_
          refine w_iload dX8_runsCan_112 rfl ?_
          refine w_iload_n dX8_runsCan_114 rfl ?_
          refine v_icmp_le 120 dX8_runsCan_115 (by decide) (by omega) (by omega) (fun c115 => ?_) (fun c115 => ?_)
          · refine v_iinc dX8_runsCan_120 rfl rfl rfl ?_
            refine w_goto 11 dX8_runsCan_123 (by decide) ?_
            first
              | (exfalso; omega)
              | (refine w_keep 7 ?_
                 have ex : (sgAt I y (col + ((0 : Nat) : Int))) = z22 := by rw [e22]; congr 1; omega
                 have cz : c44 (sgAt I y (col - 1)) = 1 ∨ c44 (sgAt I y (col - 1)) = 0 := by unfold c44; split <;> simp
                 have r0 : wRS I J J1 wn (fun j => sgAt I y (col + (j : Nat))) (c44 (sgAt I y (col - 1))) 0 := wRS_begin hL hJ (fun id k => by
                   rw [j1 id k]
                   rw [e48] at c53
                   rw [c44_if]
                   first | (rw [if_pos c53]; simp; done) | (rw [if_neg c53]; simp; done))
                 have r1 := wRS_next hL r0 g1 g2 (show isLt (sgAt I y (col + ((0 : Nat) : Int))) → x = sgAt I y (col + ((0 : Nat) : Int)) - 97 by rw [ex]; exact g3) (show ¬ isLt (sgAt I y (col + ((0 : Nat) : Int))) → x = 26 by rw [ex]; exact g4) g5
                 exact (ih (col + 1) J2 (by omega)).2 (by omega) (by omega) (fun a' e' hr u1 u2 => by
                     by_cases g : e' = col
                     · exact absurd (show isTx (sgAt I y e') by rw [g]; exact q29) hr.2.2.2
                     · exact hd a' e' hr u1 (by omega)) (fun x x1 x2 x3 => by
                     by_cases g : x = col
                     · rw [g]; exact q29
                     · exact hnt x x1 (by omega) x3) r1.f col 1 (by omega) (by omega) h1 (fun x x1 x2 => by rw [show x = col by omega]; exact q29) hb r1)
              | (refine w_keep 7 ?_
                 exact (ih (col + 1) J' (by omega)).1 (by omega) (by omega) (fun a' e' hr u1 u2 => by
                     by_cases g : e' = col
                     · exact absurd (hr.2.1 (e' - 1) (by have := hr.1; omega) (by omega)) (by rw [g]; exact hb)
                     · exact hd a' e' hr u1 (by omega)) (fun x x1 x2 x3 => hnt x x1 (by omega) x3) hJ (by rw [show col + 1 - 1 = col by omega]; exact q29))
          · refine w_iconst (v := iI 1) dX8_runsCan_118 rfl ?_
            refine v_zret dX8_runsCan_119 rfl ⟨rfl, rfl⟩ (by decide) ?_
            exact ht (tch_yes s1 s3 s4 (col := col) (fun a' e' hr u1 u2 => by
                by_cases g : e' = col
                · exact absurd (hr.2.1 (e' - 1) (by have := hr.1; omega) (by omega)) (by rw [g]; exact hb)
                · exact hd a' e' hr u1 (by omega)) (Or.inr ⟨by omega, q29⟩)) J' hJ
    · skip
      refine w_iload dX8_runsCan_11 rfl ?_
      refine w_bipush (v := iI 32) dX8_runsCan_13 (by decide) ?_
      refine v_icmp_gt 126 dX8_runsCan_15 (by decide) (by omega) (by omega) (fun c15 => ?_) (fun c15 => ?_)
      · refine w_iconst (v := iI 1) dX8_runsCan_126 rfl ?_
        refine v_zret dX8_runsCan_127 rfl ⟨rfl, rfl⟩ (by decide) ?_
        exact absurd (htx (col - 1) (by omega) (by omega)) (fun g => by have := sB_in (sgAt_sB I y) g; omega)
      · refine w_aload_n dX8_runsCan_18 rfl ?_
        refine w_iload_n dX8_runsCan_19 rfl ?_
        refine w_iload dX8_runsCan_20 rfl ?_
        refine v_callV2 dX8_runsCan_22 lX8_87 vX8_signAt (by decide) rfl rfl ⟨by decide, rfl⟩ (by decide) rfl (Nat.le_of_ble_eq_true rfl) ?_
        refine x8_signAt (by omega) (by omega) (fun z22 e22 b22 => ?_)
        refine w_istore dX8_runsCan_25 rfl rfl ?_
        refine w_iload dX8_runsCan_27 rfl ?_
        refine v_callSN1 dX8_runsCan_29 lX8_90 vX11_isText (by decide) rfl rfl (Nat.le_of_ble_eq_true rfl) ?_
        refine x11_isText (by omega) (fun q29 => ?_) (fun q29 => ?_)
        all_goals rw [e22] at q29
        · refine v_if_eq 77 dX8_runsCan_32 (by decide) (by decide) (fun q => absurd q (by decide)) (fun _ => ?_)
          refine w_iload dX8_runsCan_35 rfl ?_
          refine v_if_ne 64 dX8_runsCan_37 (by decide) (by decide) (fun _ => ?_) (fun q => absurd q (by decide))
          refine w_iconst (v := iI 1) dX8_runsCan_64 rfl ?_
          refine w_istore dX8_runsCan_65 rfl rfl ?_
          refine w_aload dX8_runsCan_67 rfl ?_
          refine w_iload dX8_runsCan_69 rfl ?_
          refine v_callV1 dX8_runsCan_71 lX8_98 vX10_nextSign (by decide) rfl rfl ⟨by decide, rfl⟩ (by decide) rfl (Nat.le_of_ble_eq_true rfl) ?_
          refine x10_nextSign (by omega) (fun x J2 g1 g2 g3 g4 g5 => ?_)
          refine w_goto 120 dX8_runsCan_74 (by decide) ?_
          refine v_iinc dX8_runsCan_120 rfl rfl rfl ?_
          refine w_goto 11 dX8_runsCan_123 (by decide) ?_
          first
            | (exfalso; omega)
            | (refine w_keep 7 ?_
               have ex : (sgAt I y (a + ((n : Nat) : Int))) = z22 := by rw [e22, hc]
               have r1 := wRS_next hL hr g1 g2 (show isLt (sgAt I y (a + ((n : Nat) : Int))) → x = sgAt I y (a + ((n : Nat) : Int)) - 97 by rw [ex]; exact g3) (show ¬ isLt (sgAt I y (a + ((n : Nat) : Int))) → x = 26 by rw [ex]; exact g4) g5
               exact (ih (col + 1) J2 (by omega)).2 (by omega) (by omega) (fun a' e' hr u1 u2 => by
                   by_cases g : e' = col
                   · exact absurd (show isTx (sgAt I y e') by rw [g]; exact q29) hr.2.2.2
                   · exact hd a' e' hr u1 (by omega)) (fun x x1 x2 x3 => by
                   by_cases g : x = col
                   · rw [g]; exact q29
                   · exact hnt x x1 (by omega) x3) r1.f a (n + 1) (by omega) (by omega) ha (fun x x1 x2 => by
                 by_cases g : x = col
                 · rw [g]; exact q29
                 · exact htx x x1 (by omega)) hb r1)
            | (refine w_keep 7 ?_
               have re : wRE I J J1 wn (fun j => sgAt I y (a + (j : Nat))) (c44 (sgAt I y (a - 1))) (c44 (sgAt I y col)) n := wRS_end hL hr hn1 (fun id k => by
                 rw [j1 id k]
                 rw [e22] at c88
                 unfold c44
                 first | rw [if_pos c88] | rw [if_neg c88])
               exact (ih (col + 1) J1 (by omega)).1 (by omega) (by omega) (fun a' e' hr' u1 u2 => by
                   by_cases g : e' = col
                   · have g0 := hr'.1
                     have gu := run_uni hr' (show isRun (fun x => sgAt I y x) a col from ⟨by omega, fun x x1 x2 => htx x x1 x2, hb, q29⟩) (x := col - 1) (by omega) (by omega) (by omega) (by omega)
                     rw [gu.1, g]; exact (okR_RE hL re hc).mp k101
                   · exact hd a' e' hr' u1 (by omega)) (fun x x1 x2 x3 => hnt x x1 (by omega) x3) re.f (by rw [show col + 1 - 1 = col by omega]; exact q29))
        · refine v_if_eq 77 dX8_runsCan_32 (by decide) (by decide) (fun _ => ?_) (fun q => absurd q (by decide))
          refine w_iload dX8_runsCan_77 rfl ?_
          refine v_if_eq 109 dX8_runsCan_79 (by decide) (by decide) (fun q => absurd q (by decide)) (fun _ => ?_)
          refine w_aload dX8_runsCan_82 rfl ?_
          refine w_iload dX8_runsCan_84 rfl ?_
          refine w_bipush (v := iI 44) dX8_runsCan_86 (by decide) ?_
          refine v_icmp_ne 95 dX8_runsCan_88 (by decide) (by omega) (by omega) (fun c88 => ?_) (fun c88 => ?_)
          · refine w_iconst (v := iI 0) dX8_runsCan_95 rfl ?_
            refine v_callV1 dX8_runsCan_96 lX8_101 vX10_endRun (by decide) rfl rfl ⟨by decide, rfl⟩ (by decide) rfl (Nat.le_of_ble_eq_true rfl) ?_
            refine x10_endRun (by decide) (fun J1 j1 => ?_)
            refine w_aload dX8_runsCan_99 rfl ?_
            refine v_callV0 dX8_runsCan_101 lX8_104 vX10_canBeSome (by decide) rfl rfl ⟨by decide, rfl⟩ (by decide) rfl (Nat.le_of_ble_eq_true rfl) ?_
            refine x10_canBeSome (fun k101 => ?_) (fun k101 => ?_)
            · refine v_if_ne 109 dX8_runsCan_104 (by decide) (by decide) (fun _ => ?_) (fun q => absurd q (by decide))
              refine w_iconst (v := iI 0) dX8_runsCan_109 rfl ?_
              refine w_istore dX8_runsCan_110 rfl rfl ?_
              refine w_iload dX8_runsCan_112 rfl ?_
              refine w_iload_n dX8_runsCan_114 rfl ?_
              refine v_icmp_le 120 dX8_runsCan_115 (by decide) (by omega) (by omega) (fun c115 => ?_) (fun c115 => ?_)
              · refine v_iinc dX8_runsCan_120 rfl rfl rfl ?_
                refine w_goto 11 dX8_runsCan_123 (by decide) ?_
                first
                  | (exfalso; omega)
                  | (refine w_keep 7 ?_
                     have ex : (sgAt I y (a + ((n : Nat) : Int))) = z22 := by rw [e22, hc]
                     have r1 := wRS_next hL hr g1 g2 (show isLt (sgAt I y (a + ((n : Nat) : Int))) → x = sgAt I y (a + ((n : Nat) : Int)) - 97 by rw [ex]; exact g3) (show ¬ isLt (sgAt I y (a + ((n : Nat) : Int))) → x = 26 by rw [ex]; exact g4) g5
                     exact (ih (col + 1) J2 (by omega)).2 (by omega) (by omega) (fun a' e' hr u1 u2 => by
                         by_cases g : e' = col
                         · exact absurd (show isTx (sgAt I y e') by rw [g]; exact q29) hr.2.2.2
                         · exact hd a' e' hr u1 (by omega)) (fun x x1 x2 x3 => by
                         by_cases g : x = col
                         · rw [g]; exact q29
                         · exact hnt x x1 (by omega) x3) r1.f a (n + 1) (by omega) (by omega) ha (fun x x1 x2 => by
                       by_cases g : x = col
                       · rw [g]; exact q29
                       · exact htx x x1 (by omega)) hb r1)
                  | (refine w_keep 7 ?_
                     have re : wRE I J J1 wn (fun j => sgAt I y (a + (j : Nat))) (c44 (sgAt I y (a - 1))) (c44 (sgAt I y col)) n := wRS_end hL hr hn1 (fun id k => by
                       rw [j1 id k]
                       rw [e22] at c88
                       unfold c44
                       first | rw [if_pos c88] | rw [if_neg c88])
                     exact (ih (col + 1) J1 (by omega)).1 (by omega) (by omega) (fun a' e' hr' u1 u2 => by
                         by_cases g : e' = col
                         · have g0 := hr'.1
                           have gu := run_uni hr' (show isRun (fun x => sgAt I y x) a col from ⟨by omega, fun x x1 x2 => htx x x1 x2, hb, q29⟩) (x := col - 1) (by omega) (by omega) (by omega) (by omega)
                           rw [gu.1, g]; exact (okR_RE hL re hc).mp k101
                         · exact hd a' e' hr' u1 (by omega)) (fun x x1 x2 x3 => hnt x x1 (by omega) x3) re.f (by rw [show col + 1 - 1 = col by omega]; exact q29))
              · refine w_iconst (v := iI 1) dX8_runsCan_118 rfl ?_
                refine v_zret dX8_runsCan_119 rfl ⟨rfl, rfl⟩ (by decide) ?_
                have re : wRE I J J1 wn (fun j => sgAt I y (a + (j : Nat))) (c44 (sgAt I y (a - 1))) (c44 (sgAt I y col)) n := wRS_end hL hr hn1 (fun id k => by
                  rw [j1 id k]
                  rw [e22] at c88
                  unfold c44
                  first | rw [if_pos c88] | rw [if_neg c88])
                exact ht (tch_yes s1 s3 s4 (col := col) (fun a' e' hr' u1 u2 => by
                    by_cases g : e' = col
                    · have g0 := hr'.1
                      have gu := run_uni hr' (show isRun (fun x => sgAt I y x) a col from ⟨by omega, fun x x1 x2 => htx x x1 x2, hb, q29⟩) (x := col - 1) (by omega) (by omega) (by omega) (by omega)
                      rw [gu.1, g]; exact (okR_RE hL re hc).mp k101
                    · exact hd a' e' hr' u1 (by omega)) (Or.inr ⟨by omega, q29⟩)) J1 re.f
            · refine v_if_ne 109 dX8_runsCan_104 (by decide) (by decide) (fun q => absurd q (by decide)) (fun _ => ?_)
              refine w_iconst (v := iI 0) dX8_runsCan_107 rfl ?_
              refine v_zret dX8_runsCan_108 rfl ⟨rfl, rfl⟩ (by decide) ?_
              have re : wRE I J J1 wn (fun j => sgAt I y (a + (j : Nat))) (c44 (sgAt I y (a - 1))) (c44 (sgAt I y col)) n := wRS_end hL hr hn1 (fun id k => by
                rw [j1 id k]
                rw [e22] at c88
                unfold c44
                first | rw [if_pos c88] | rw [if_neg c88])
              exact hn (tch_no hfl s1 s3 (show isRun (fun x => sgAt I y x) a col from ⟨by omega, fun x x1 x2 => htx x x1 x2, hb, q29⟩) ha hnt (fun g => k101 ((okR_RE hL re hc).mpr g)) s4) J1 re.f
          · refine w_iconst (v := iI 1) dX8_runsCan_91 rfl ?_
            refine w_goto 96 dX8_runsCan_92 (by decide) ?_
            refine v_callV1 dX8_runsCan_96 lX8_101 vX10_endRun (by decide) rfl rfl ⟨by decide, rfl⟩ (by decide) rfl (Nat.le_of_ble_eq_true rfl) ?_
            refine x10_endRun (by decide) (fun J1 j1 => ?_)
            refine w_aload dX8_runsCan_99 rfl ?_
            refine v_callV0 dX8_runsCan_101 lX8_104 vX10_canBeSome (by decide) rfl rfl ⟨by decide, rfl⟩ (by decide) rfl (Nat.le_of_ble_eq_true rfl) ?_
            refine x10_canBeSome (fun k101 => ?_) (fun k101 => ?_)
            · refine v_if_ne 109 dX8_runsCan_104 (by decide) (by decide) (fun _ => ?_) (fun q => absurd q (by decide))
              refine w_iconst (v := iI 0) dX8_runsCan_109 rfl ?_
              refine w_istore dX8_runsCan_110 rfl rfl ?_
              refine w_iload dX8_runsCan_112 rfl ?_
              refine w_iload_n dX8_runsCan_114 rfl ?_
              refine v_icmp_le 120 dX8_runsCan_115 (by decide) (by omega) (by omega) (fun c115 => ?_) (fun c115 => ?_)
              · refine v_iinc dX8_runsCan_120 rfl rfl rfl ?_
                refine w_goto 11 dX8_runsCan_123 (by decide) ?_
                first
                  | (exfalso; omega)
                  | (refine w_keep 7 ?_
                     have ex : (sgAt I y (a + ((n : Nat) : Int))) = z22 := by rw [e22, hc]
                     have r1 := wRS_next hL hr g1 g2 (show isLt (sgAt I y (a + ((n : Nat) : Int))) → x = sgAt I y (a + ((n : Nat) : Int)) - 97 by rw [ex]; exact g3) (show ¬ isLt (sgAt I y (a + ((n : Nat) : Int))) → x = 26 by rw [ex]; exact g4) g5
                     exact (ih (col + 1) J2 (by omega)).2 (by omega) (by omega) (fun a' e' hr u1 u2 => by
                         by_cases g : e' = col
                         · exact absurd (show isTx (sgAt I y e') by rw [g]; exact q29) hr.2.2.2
                         · exact hd a' e' hr u1 (by omega)) (fun x x1 x2 x3 => by
                         by_cases g : x = col
                         · rw [g]; exact q29
                         · exact hnt x x1 (by omega) x3) r1.f a (n + 1) (by omega) (by omega) ha (fun x x1 x2 => by
                       by_cases g : x = col
                       · rw [g]; exact q29
                       · exact htx x x1 (by omega)) hb r1)
                  | (refine w_keep 7 ?_
                     have re : wRE I J J1 wn (fun j => sgAt I y (a + (j : Nat))) (c44 (sgAt I y (a - 1))) (c44 (sgAt I y col)) n := wRS_end hL hr hn1 (fun id k => by
                       rw [j1 id k]
                       rw [e22] at c88
                       unfold c44
                       first | rw [if_pos c88] | rw [if_neg c88])
                     exact (ih (col + 1) J1 (by omega)).1 (by omega) (by omega) (fun a' e' hr' u1 u2 => by
                         by_cases g : e' = col
                         · have g0 := hr'.1
                           have gu := run_uni hr' (show isRun (fun x => sgAt I y x) a col from ⟨by omega, fun x x1 x2 => htx x x1 x2, hb, q29⟩) (x := col - 1) (by omega) (by omega) (by omega) (by omega)
                           rw [gu.1, g]; exact (okR_RE hL re hc).mp k101
                         · exact hd a' e' hr' u1 (by omega)) (fun x x1 x2 x3 => hnt x x1 (by omega) x3) re.f (by rw [show col + 1 - 1 = col by omega]; exact q29))
              · refine w_iconst (v := iI 1) dX8_runsCan_118 rfl ?_
                refine v_zret dX8_runsCan_119 rfl ⟨rfl, rfl⟩ (by decide) ?_
                have re : wRE I J J1 wn (fun j => sgAt I y (a + (j : Nat))) (c44 (sgAt I y (a - 1))) (c44 (sgAt I y col)) n := wRS_end hL hr hn1 (fun id k => by
                  rw [j1 id k]
                  rw [e22] at c88
                  unfold c44
                  first | rw [if_pos c88] | rw [if_neg c88])
                exact ht (tch_yes s1 s3 s4 (col := col) (fun a' e' hr' u1 u2 => by
                    by_cases g : e' = col
                    · have g0 := hr'.1
                      have gu := run_uni hr' (show isRun (fun x => sgAt I y x) a col from ⟨by omega, fun x x1 x2 => htx x x1 x2, hb, q29⟩) (x := col - 1) (by omega) (by omega) (by omega) (by omega)
                      rw [gu.1, g]; exact (okR_RE hL re hc).mp k101
                    · exact hd a' e' hr' u1 (by omega)) (Or.inr ⟨by omega, q29⟩)) J1 re.f
            · refine v_if_ne 109 dX8_runsCan_104 (by decide) (by decide) (fun q => absurd q (by decide)) (fun _ => ?_)
              refine w_iconst (v := iI 0) dX8_runsCan_107 rfl ?_
              refine v_zret dX8_runsCan_108 rfl ⟨rfl, rfl⟩ (by decide) ?_
              have re : wRE I J J1 wn (fun j => sgAt I y (a + (j : Nat))) (c44 (sgAt I y (a - 1))) (c44 (sgAt I y col)) n := wRS_end hL hr hn1 (fun id k => by
                rw [j1 id k]
                rw [e22] at c88
                unfold c44
                first | rw [if_pos c88] | rw [if_neg c88])
              exact hn (tch_no hfl s1 s3 (show isRun (fun x => sgAt I y x) a col from ⟨by omega, fun x x1 x2 => htx x x1 x2, hb, q29⟩) ha hnt (fun g => k101 ((okR_RE hL re hc).mpr g)) s4) J1 re.f
