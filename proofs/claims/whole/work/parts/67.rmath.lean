/-! what lies, of the reference: one BIT more -/
theorem ok_u {I : Nat → Nat → Int32} (h : okL I 10) {a b : Nat} (ha : a < 10) (hb : b < 10) (la : lyB I a) (lb : lyB I b) {y x : Int} (ga : rcA I a y x ≠ 95) (gb : rcA I b y x ≠ 95) : a = b := by
  rcases Nat.lt_trichotomy a b with q | q | q
  · exact absurd ((h b hb lb y x gb).2 a q la) ga
  · exact q
  · exact absurd ((h a ha la y x ga).2 b q lb) gb
theorem lO_iff {I : Nat → Nat → Int32} (h : okL I 10) {y x : Int} {a : Nat} : lO I y x = a ↔ a < 10 ∧ lyB I a ∧ rcA I a y x ≠ 95 := by
  by_cases g : ∀ b, b < 10 → lyB I b → rcA I b y x = 95
  · have e := (lsN_none g).2
    constructor
    · intro q
      have q2 : loN I 10 y x = a := q
      rw [e] at q2; omega
    · rintro ⟨q1, q2, q3⟩
      exact absurd (g a q1 q2) q3
  · obtain ⟨b, b1, b2, b3, b4, b5⟩ := lsN_some g
    constructor
    · intro q
      have q2 : loN I 10 y x = a := q
      rw [b5] at q2
      have e : b = a := by omega
      rw [← e]; exact ⟨b1, b2, b3⟩
    · rintro ⟨q1, q2, q3⟩
      have e := ok_u h q1 b1 q2 b2 q3 b3
      show loN I 10 y x = a
      rw [b5, e]
theorem lO_no {I : Nat → Nat → Int32} {y x : Int} : lO I y x = -1 ↔ ∀ b, b < 10 → lyB I b → rcA I b y x = 95 := by
  constructor
  · intro q
    apply Classical.byContradiction
    intro g
    obtain ⟨b, b1, b2, b3, b4, b5⟩ := lsN_some g
    have q2 : loN I 10 y x = -1 := q
    rw [b5] at q2; omega
  · intro g; exact (lsN_none g).2
theorem lO_ca (I : Nat → Nat → Int32) (y x : Int) : lO I y x = -1 ∨ ∃ b : Nat, b < 10 ∧ lO I y x = b := by
  by_cases g : ∀ b, b < 10 → lyB I b → rcA I b y x = 95
  · exact Or.inl (lsN_none g).2
  · obtain ⟨b, b1, b2, b3, b4, b5⟩ := lsN_some g
    exact Or.inr ⟨b, b1, b5⟩
theorem lS_at {I : Nat → Nat → Int32} (h : okL I 10) {y x : Int} {a : Nat} (ha : a < 10) (la : lyB I a) (g : rcA I a y x ≠ 95) : lS I y x = rcA I a y x := by
  obtain ⟨b, b1, b2, b3, b4, b5⟩ := lsN_some (I := I) (y := y) (x := x) (n := 10) (fun q => g (q a ha la))
  have e := ok_u h ha b1 la b2 g b3
  show lsN I 10 y x = _
  rw [b4, e]
theorem lS_no {I : Nat → Nat → Int32} {y x : Int} (g : lO I y x = -1) : lS I y x = 95 := (lsN_none (lO_no.mp g)).1
theorem ok_95 {I : Nat → Nat → Int32} (h : okL I 10) {a : Nat} (ha : a < 10) (la : lyB I a) : o95 (rcA I a) := fun y x g => Classical.byContradiction fun q => g (h a ha la y x q).1
theorem if_iv {P : Prop} [Decidable P] {v : Int} (h : P ↔ v ≠ 95) : (if P then (1 : Int) else 0) = iv v := by
  unfold iv
  by_cases g : P
  · rw [if_pos g, if_pos (h.mp g)]
  · rw [if_neg g, if_neg (fun q => g (h.mpr q))]
theorem sdA_nb {I : Nat → Nat → Int32} (h : okL I 10) {a b : Nat} (ha : a < 10) (hb : b < 10) (la : lyB I a) (lb : lyB I b) : sdA I a b = nbS (rcA I b) (rcA I a) := by
  unfold sdA nbS
  rw [← S2_k]
  refine smN_cg (fun k hk => ?_)
  have ou := ok_95 h hb lb
  have e0 : oL I k = a ↔ rcA I a ((k / 32 : Nat) : Int) ((k % 32 : Nat) : Int) ≠ 95 := by
    unfold oL
    rw [lO_iff h]
    exact ⟨fun q => q.2.2, fun q => ⟨ha, la, q⟩⟩
  have eb : ∀ j, oL I j = b ↔ rcA I b ((j / 32 : Nat) : Int) ((j % 32 : Nat) : Int) ≠ 95 := fun j => by
    unfold oL
    rw [lO_iff h]
    exact ⟨fun q => q.2.2, fun q => ⟨hb, lb, q⟩⟩
  have c1 : (0 < k % 32 ∧ oL I (k - 1) = b) ↔ rcA I b ((k / 32 : Nat) : Int) (((k % 32 : Nat) : Int) - 1) ≠ 95 := by
    rw [eb]
    by_cases g : 0 < k % 32
    · rw [show (k - 1) / 32 = k / 32 by omega, show (((k - 1) % 32 : Nat) : Int) = ((k % 32 : Nat) : Int) - 1 by omega]
      exact ⟨fun q => q.2, fun q => ⟨g, q⟩⟩
    · exact ⟨fun q => absurd q.1 g, fun q => absurd (ou _ _ (fun i => by have := i.2.2.1; omega)) q⟩
  have c2 : (k % 32 < 31 ∧ oL I (k + 1) = b) ↔ rcA I b ((k / 32 : Nat) : Int) (((k % 32 : Nat) : Int) + 1) ≠ 95 := by
    rw [eb]
    by_cases g : k % 32 < 31
    · rw [show (k + 1) / 32 = k / 32 by omega, show (((k + 1) % 32 : Nat) : Int) = ((k % 32 : Nat) : Int) + 1 by omega]
      exact ⟨fun q => q.2, fun q => ⟨g, q⟩⟩
    · exact ⟨fun q => absurd q.1 g, fun q => absurd (ou _ _ (fun i => by have := i.2.2.2; omega)) q⟩
  have c3 : (32 ≤ k ∧ oL I (k - 32) = b) ↔ rcA I b (((k / 32 : Nat) : Int) - 1) ((k % 32 : Nat) : Int) ≠ 95 := by
    rw [eb]
    by_cases g : 32 ≤ k
    · rw [show (((k - 32) / 32 : Nat) : Int) = ((k / 32 : Nat) : Int) - 1 by omega, show (k - 32) % 32 = k % 32 by omega]
      exact ⟨fun q => q.2, fun q => ⟨g, q⟩⟩
    · exact ⟨fun q => absurd q.1 g, fun q => absurd (ou _ _ (fun i => by have := i.1; omega)) q⟩
  have c4 : (k + 32 < 512 ∧ oL I (k + 32) = b) ↔ rcA I b (((k / 32 : Nat) : Int) + 1) ((k % 32 : Nat) : Int) ≠ 95 := by
    rw [eb]
    by_cases g : k + 32 < 512
    · rw [show (((k + 32) / 32 : Nat) : Int) = ((k / 32 : Nat) : Int) + 1 by omega, show (k + 32) % 32 = k % 32 by omega]
      exact ⟨fun q => q.2, fun q => ⟨g, q⟩⟩
    · exact ⟨fun q => absurd q.1 g, fun q => absurd (ou _ _ (fun i => by have := i.2.1; omega)) q⟩
  unfold sdK nb4
  rw [if_iv c1, if_iv c2, if_iv c3, if_iv c4]
  by_cases g : oL I k = a
  · rw [if_pos g, if_pos (e0.mp g)]; omega
  · rw [if_neg g, if_neg (fun q => g (e0.mpr q))]
theorem wP_sy (p q : Int) : wP p q = wP q p := by
  unfold wP
  by_cases g : p ≠ 0 ∧ p = q
  · rw [if_pos g, if_pos ⟨by rw [← g.2]; exact g.1, g.2.symm⟩]
  · rw [if_neg g, if_neg (fun u => g ⟨by rw [← u.2]; exact u.1, u.2.symm⟩)]
theorem fbA_sy (I : Nat → Nat → Int32) (a b : Nat) : fbA I a b = fbA I b a := by
  unfold fbA
  simp only [wP_sy (rTa I a _), wP_sy (rTd I a _)]
theorem pwA_sy {I : Nat → Nat → Int32} (h : okL I 10) {a b : Nat} (ha : a < 10) (hb : b < 10) : pwA I a b = pwA I b a := by
  unfold pwA
  by_cases g : lyB I a ∧ lyB I b
  · rw [if_pos g, if_pos g.symm, sdA_nb h ha hb g.1 g.2, sdA_nb h hb ha g.2 g.1, nbS_sy (ok_95 h hb g.2) (ok_95 h ha g.1), fbA_sy]
  · rw [if_neg g, if_neg (fun q => g q.symm)]
/-! BIT q at place p -/
abbrev plR (p : Int) : Int := p / 64 - 5
abbrev plC (p : Int) : Int := p % 64 - 10
abbrev pb0 (p : Int) : Prop := 0 ≤ p ∧ p < 100000
theorem rce_pl {I : Nat → Nat → Int32} {q : Nat} {p : Int} (hp : pb0 p) (a : Nat) : rce (pl I q p) a = rce I a := funext fun k => by
  unfold rce
  rw [pl_rd hp, if_neg (by omega), if_neg (by omega), if_neg (by omega)]
theorem rcA_pl {I : Nat → Nat → Int32} {q : Nat} {p : Int} (hp : pb0 p) {a : Nat} (ha : a ≠ q) (y x : Int) : rcA (pl I q p) a y x = rcA I a y x := by
  unfold rcA
  rw [rce_pl hp, pl_rd hp, pl_rd hp, if_neg (by omega), if_neg (by omega), if_neg (by omega), if_neg (by omega), if_neg (by omega), if_neg (by omega)]
theorem rcA_plq {I : Nat → Nat → Int32} {q : Nat} {p : Int} (hp : pb0 p) (y x : Int) : rcA (pl I q p) q y x = cA (rce I q) (plR p) (plC p) y x := by
  unfold rcA
  rw [rce_pl hp, pl_rd hp, pl_rd hp, if_neg (by omega), if_pos ⟨rfl, rfl⟩, if_pos ⟨rfl, rfl⟩]
theorem ly_pl {I : Nat → Nat → Int32} {q : Nat} {p : Int} (hp : pb0 p) {a : Nat} (ha : a ≠ q) : lyB (pl I q p) a ↔ lyB I a := by
  unfold lyB
  rw [pl_rd hp, if_neg (by omega), if_neg (by omega), if_neg (by omega)]
theorem ly_plq {I : Nat → Nat → Int32} {q : Nat} {p : Int} (hp : pb0 p) : lyB (pl I q p) q := by
  unfold lyB
  rw [pl_rd hp, if_neg (by omega), if_neg (by omega), if_pos ⟨rfl, rfl⟩]
  decide
/-- how a BIT tells, its own rows counted from 0 -/
noncomputable def tA (I : Nat → Nat → Int32) (b : Nat) (i : Int) : Int := @ite _ (0 ≤ i ∧ i < 5 ∧ rowH (rce I b) i.toNat) (Classical.propDecidable _) (rd I 175 (5 * (b : Int) + i).toNat) 0
noncomputable def tD (I : Nat → Nat → Int32) (b : Nat) (i : Int) : Int := @ite _ (0 ≤ i ∧ i < 10 ∧ colH (rce I b) i.toNat) (Classical.propDecidable _) (rd I 176 (10 * (b : Int) + i).toNat) 0
theorem rTa_tA (I : Nat → Nat → Int32) (b : Nat) (y : Int) : rTa I b y = tA I b (y - rd I 178 b) := by
  unfold rTa tA
  rw [show 5 * (b : Int) + y - rd I 178 b = 5 * (b : Int) + (y - rd I 178 b) by omega]
  rfl
theorem rTd_tD (I : Nat → Nat → Int32) (b : Nat) (y : Int) : rTd I b y = tD I b (y - rd I 179 b) := by
  unfold rTd tD
  rw [show 10 * (b : Int) + y - rd I 179 b = 10 * (b : Int) + (y - rd I 179 b) by omega]
  rfl
theorem pl_o {I : Nat → Nat → Int32} {q : Nat} {p : Int} (hp : pb0 p) {id : Nat} (h : id ≠ 177 ∧ id ≠ 178 ∧ id ≠ 179) (k : Nat) : rd (pl I q p) id k = rd I id k := by
  rw [pl_rd hp, if_neg (fun u => h.2.2 u.1), if_neg (fun u => h.2.1 u.1), if_neg (fun u => h.1 u.1)]
theorem tA_pl {I : Nat → Nat → Int32} {q : Nat} {p : Int} (hp : pb0 p) (b : Nat) (i : Int) : tA (pl I q p) b i = tA I b i := by
  unfold tA
  rw [rce_pl hp, pl_o hp (by decide)]
theorem tD_pl {I : Nat → Nat → Int32} {q : Nat} {p : Int} (hp : pb0 p) (b : Nat) (i : Int) : tD (pl I q p) b i = tD I b i := by
  unfold tD
  rw [rce_pl hp, pl_o hp (by decide)]
theorem rTa_pl {I : Nat → Nat → Int32} {q : Nat} {p : Int} (hp : pb0 p) {a : Nat} (ha : a ≠ q) (y : Int) : rTa (pl I q p) a y = rTa I a y := by
  rw [rTa_tA, rTa_tA, tA_pl hp, pl_rd hp, if_neg (by omega), if_neg (by omega), if_neg (by omega)]
theorem rTd_pl {I : Nat → Nat → Int32} {q : Nat} {p : Int} (hp : pb0 p) {a : Nat} (ha : a ≠ q) (y : Int) : rTd (pl I q p) a y = rTd I a y := by
  rw [rTd_tD, rTd_tD, tD_pl hp, pl_rd hp, if_neg (by omega), if_neg (by omega), if_neg (by omega)]
theorem rTa_plq {I : Nat → Nat → Int32} {q : Nat} {p : Int} (hp : pb0 p) (y : Int) : rTa (pl I q p) q y = tA I q (y - plR p) := by
  rw [rTa_tA, tA_pl hp, pl_rd hp, if_neg (by omega), if_pos ⟨rfl, rfl⟩]
theorem rTd_plq {I : Nat → Nat → Int32} {q : Nat} {p : Int} (hp : pb0 p) (y : Int) : rTd (pl I q p) q y = tD I q (y - plC p) := by
  rw [rTd_tD, tD_pl hp, pl_rd hp, if_pos ⟨rfl, rfl⟩]
theorem qrl_sy {I : Nat → Nat → Int32} {a b : Nat} (h : qrl I a b) : qrl I b a := by
  rcases h with ⟨y, y1, y2⟩ | ⟨y, y1, y2⟩
  · exact Or.inl ⟨y, y1, y2.2.1, y2.1, fun e => y2.2.2 e.symm⟩
  · exact Or.inr ⟨y, y1, y2.2.1, y2.1, fun e => y2.2.2 e.symm⟩
theorem qrl_pl {I : Nat → Nat → Int32} {q : Nat} {p : Int} (hp : pb0 p) {a b : Nat} (ha : a ≠ q) (hb : b ≠ q) : qrl (pl I q p) a b ↔ qrl I a b := by
  unfold qrl
  simp only [rTa_pl hp ha, rTa_pl hp hb, rTd_pl hp ha, rTd_pl hp hb]
def rmL (I : Nat → Nat → Int32) (ce : Nat → Int) (R C : Int) : Prop := ∀ y x : Int, cA ce R C y x ≠ 95 → inS y x ∧ lO I y x = -1
theorem okL_pl {I : Nat → Nat → Int32} {q : Nat} {p : Int} (hp : pb0 p) (hq : q < 10) (h0 : ¬ lyB I q) : okL (pl I q p) 10 ↔ okL I 10 ∧ rmL I (rce I q) (plR p) (plC p) := by
  have nq : ∀ {a}, lyB I a → a ≠ q := fun la e => h0 (e ▸ la)
  constructor
  · intro h
    refine ⟨fun b hb lb y x g => ?_, fun y x g => ?_⟩
    · have t := h b hb ((ly_pl hp (nq lb)).mpr lb) y x (by rw [rcA_pl hp (nq lb)]; exact g)
      refine ⟨t.1, fun a hab la => ?_⟩
      have u := t.2 a hab ((ly_pl hp (nq la)).mpr la)
      rw [rcA_pl hp (nq la)] at u
      exact u
    · have g2 : rcA (pl I q p) q y x ≠ 95 := by rw [rcA_plq hp]; exact g
      refine ⟨(h q hq (ly_plq hp) y x g2).1, lO_no.mpr (fun b hb lb => ?_)⟩
      apply Classical.byContradiction
      intro u
      have := ok_u h hb hq ((ly_pl hp (nq lb)).mpr lb) (ly_plq hp) (by rw [rcA_pl hp (nq lb)]; exact u) g2
      exact nq lb this
  · rintro ⟨h, r⟩ b hb lb y x g
    by_cases e : b = q
    · rw [e, rcA_plq hp] at g
      have t := r y x g
      refine ⟨t.1, fun a hab la => ?_⟩
      have ha : a ≠ q := by omega
      rw [rcA_pl hp ha]
      exact lO_no.mp t.2 a (by omega) ((ly_pl hp ha).mp la)
    · have lb2 := (ly_pl hp e).mp lb
      rw [rcA_pl hp e] at g
      have t := h b hb lb2 y x g
      refine ⟨t.1, fun a hab la => ?_⟩
      by_cases f : a = q
      · rw [f, rcA_plq hp]
        apply Classical.byContradiction
        intro u
        exact g (lO_no.mp (r y x u).2 b hb lb2)
      · rw [rcA_pl hp f]
        exact t.2 a hab ((ly_pl hp f).mp la)
theorem nQ_pl {I : Nat → Nat → Int32} {q : Nat} {p : Int} (hp : pb0 p) (hq : q < 10) (h0 : ¬ lyB I q) : nQ (pl I q p) ↔ nQ I ∧ ∀ b, b < 10 → lyB I b → ¬ qrl (pl I q p) q b := by
  have nq : ∀ {a}, lyB I a → a ≠ q := fun la e => h0 (e ▸ la)
  constructor
  · intro h
    refine ⟨fun a b hab hb la lb u => ?_, fun b hb lb u => ?_⟩
    · exact h a b hab hb ((ly_pl hp (nq la)).mpr la) ((ly_pl hp (nq lb)).mpr lb) ((qrl_pl hp (nq la) (nq lb)).mpr u)
    · have lb2 := (ly_pl hp (nq lb)).mpr lb
      rcases Nat.lt_or_gt_of_ne (nq lb) with g | g
      · exact h b q g hq lb2 (ly_plq hp) (qrl_sy u)
      · exact h q b g hb (ly_plq hp) lb2 u
  · rintro ⟨h, r⟩ a b hab hb la lb u
    by_cases e : a = q
    · have hb2 : b ≠ q := by omega
      rw [e] at u
      exact r b hb ((ly_pl hp hb2).mp lb) u
    · by_cases f : b = q
      · rw [f] at u
        exact r a (by omega) ((ly_pl hp e).mp la) (qrl_sy u)
      · exact h a b hab hb ((ly_pl hp e).mp la) ((ly_pl hp f).mp lb) ((qrl_pl hp e f).mp u)
def lQ (I : Nat → Nat → Int32) (ce : Nat → Int) (R C y x : Int) : Int := if cA ce R C y x ≠ 95 then cA ce R C y x else lS I y x
theorem lS_pl {I : Nat → Nat → Int32} {q : Nat} {p : Int} (hp : pb0 p) (hq : q < 10) (h0 : ¬ lyB I q) (h : okL (pl I q p) 10) (y x : Int) : lS (pl I q p) y x = lQ I (rce I q) (plR p) (plC p) y x := by
  have nq : ∀ {a}, lyB I a → a ≠ q := fun la e => h0 (e ▸ la)
  have hI := ((okL_pl hp hq h0).mp h).1
  unfold lQ
  by_cases g : cA (rce I q) (plR p) (plC p) y x ≠ 95
  · rw [if_pos g, lS_at h hq (ly_plq hp) (by rw [rcA_plq hp]; exact g), rcA_plq hp]
  · rw [if_neg g]
    rcases lO_ca I y x with u | ⟨b, hb, u⟩
    · rw [lS_no u]
      refine lS_no (lO_no.mpr (fun b hb lb => ?_))
      by_cases e : b = q
      · rw [e, rcA_plq hp]; exact Classical.byContradiction g
      · rw [rcA_pl hp e]
        exact lO_no.mp u b hb ((ly_pl hp e).mp lb)
    · obtain ⟨_, lb, v⟩ := (lO_iff hI).mp u
      rw [lS_at hI hb lb v, lS_at h hb ((ly_pl hp (nq lb)).mpr lb) (by rw [rcA_pl hp (nq lb)]; exact v), rcA_pl hp (nq lb)]
theorem lO_pl {I : Nat → Nat → Int32} {q : Nat} {p : Int} (hp : pb0 p) (hq : q < 10) (h0 : ¬ lyB I q) (h : okL (pl I q p) 10) (y x : Int) : lO (pl I q p) y x = if cA (rce I q) (plR p) (plC p) y x ≠ 95 then (q : Int) else lO I y x := by
  have nq : ∀ {a}, lyB I a → a ≠ q := fun la e => h0 (e ▸ la)
  have hI := ((okL_pl hp hq h0).mp h).1
  by_cases g : cA (rce I q) (plR p) (plC p) y x ≠ 95
  · rw [if_pos g, lO_iff h, rcA_plq hp]
    exact ⟨hq, ly_plq hp, g⟩
  · rw [if_neg g]
    rcases lO_ca I y x with u | ⟨b, hb, u⟩
    · rw [u, lO_no]
      intro b hb lb
      by_cases e : b = q
      · rw [e, rcA_plq hp]; exact Classical.byContradiction g
      · rw [rcA_pl hp e]
        exact lO_no.mp u b hb ((ly_pl hp e).mp lb)
    · obtain ⟨_, lb, v⟩ := (lO_iff hI).mp u
      rw [u, lO_iff h, rcA_pl hp (nq lb)]
      exact ⟨hb, (ly_pl hp (nq lb)).mpr lb, v⟩
theorem allR_pl {I : Nat → Nat → Int32} {q : Nat} {p : Int} (hp : pb0 p) {wn : Nat} {s : Int → Int} : allR (pl I q p) wn s ↔ allR I wn s := allR_I (fun k => by rw [pl_rd hp, if_neg (by omega), if_neg (by omega), if_neg (by omega)]) (fun k => by rw [pl_rd hp, if_neg (by omega), if_neg (by omega), if_neg (by omega)])
theorem mL_pl {I : Nat → Nat → Int32} {q wn : Nat} {p : Int} (hp : pb0 p) (hq : q < 10) (h0 : ¬ lyB I q) : mL (pl I q p) wn ↔ (okL I 10 ∧ rmL I (rce I q) (plR p) (plC p)) ∧ (nQ I ∧ ∀ b, b < 10 → lyB I b → ¬ qrl (pl I q p) q b) ∧ ∀ y : Nat, y < 16 → allR I wn (fun x => lQ I (rce I q) (plR p) (plC p) y x) := by
  unfold mL
  rw [← okL_pl hp hq h0, ← nQ_pl hp hq h0]
  constructor
  · rintro ⟨a, b, c⟩
    refine ⟨a, b, fun y hy => ?_⟩
    have := c y hy
    rw [allR_pl hp, show (fun x => lS (pl I q p) (y : Int) x) = (fun x => lQ I (rce I q) (plR p) (plC p) y x) from funext fun x => lS_pl hp hq h0 a _ _] at this
    exact this
  · rintro ⟨a, b, c⟩
    refine ⟨a, b, fun y hy => ?_⟩
    rw [allR_pl hp, show (fun x => lS (pl I q p) (y : Int) x) = (fun x => lQ I (rce I q) (plR p) (plC p) y x) from funext fun x => lS_pl hp hq h0 a _ _]
    exact c y hy
/-- what BIT q at p adds -/
noncomputable def gnR (I : Nat → Nat → Int32) (q : Nat) : Int := smN (fun b => if b = q then 0 else pwA I q b) 10
theorem sdA_pl {I : Nat → Nat → Int32} {q : Nat} {p : Int} (hp : pb0 p) (hq : q < 10) (h0 : ¬ lyB I q) (h : okL (pl I q p) 10) {a b : Nat} (ha : a < 10) (hb : b < 10) (la : lyB I a) (lb : lyB I b) : sdA (pl I q p) a b = sdA I a b := by
  have nq : ∀ {a}, lyB I a → a ≠ q := fun la e => h0 (e ▸ la)
  have hI := ((okL_pl hp hq h0).mp h).1
  rw [sdA_nb hI ha hb la lb, sdA_nb h ha hb ((ly_pl hp (nq la)).mpr la) ((ly_pl hp (nq lb)).mpr lb)]
  exact nbS_cg (fun y x => rcA_pl hp (nq lb) y x) (fun y x => rcA_pl hp (nq la) y x)
theorem wA_pl {I : Nat → Nat → Int32} {q : Nat} {p : Int} (hp : pb0 p) (hq : q < 10) (h0 : ¬ lyB I q) (h : okL (pl I q p) 10) : wA (pl I q p) = wA I + gnR (pl I q p) q := by
  have nq : ∀ {a}, lyB I a → a ≠ q := fun la e => h0 (e ▸ la)
  have hI := ((okL_pl hp hq h0).mp h).1
  refine pr_d (G := pwA I) (G' := pwA (pl I q p)) (n := 10) hq (fun a b ha hb => pwA_sy hI ha hb) (fun a b ha hb => pwA_sy h ha hb) (fun b => if_neg (fun g => h0 g.1)) (fun a b ha hb na nb => ?_)
  unfold pwA
  by_cases g : lyB I a ∧ lyB I b
  · rw [if_pos g, if_pos ⟨(ly_pl hp na).mpr g.1, (ly_pl hp nb).mpr g.2⟩, sdA_pl hp hq h0 h ha hb g.1 g.2]
    unfold fbA
    simp only [rTa_pl hp na, rTa_pl hp nb, rTd_pl hp na, rTd_pl hp nb]
  · rw [if_neg g, if_neg (fun u => g ⟨(ly_pl hp na).mp u.1, (ly_pl hp nb).mp u.2⟩)]
