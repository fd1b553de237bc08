/-! the class's numbers against the reference's -/
def lanR (I : Nat → Nat → Int32) : Prop := (∀ l : Nat, l < 16 → rd I 147 l = smN (fun b => if lyB I b ∧ rTa I b (l : Int) ≠ 0 then 1 else 0) 10 ∧ ∀ b, b < 10 → lyB I b → rTa I b (l : Int) ≠ 0 → rd I 146 l = rTa I b (l : Int)) ∧ ∀ l : Nat, l < 32 → rd I 150 l = smN (fun b => if lyB I b ∧ rTd I b (l : Int) ≠ 0 then 1 else 0) 10 ∧ ∀ b, b < 10 → lyB I b → rTd I b (l : Int) ≠ 0 → rd I 149 l = rTd I b (l : Int)
def Hs (I : Nat → Nat → Int32) : Prop := okL I 10 ∧ nQ I ∧ (∀ y x : Int, sgAt I y x = lS I y x ∧ owAt I y x = lO I y x) ∧ lanR I
def Hb (I : Nat → Nat → Int32) (q n : Nat) : Prop := bK I q (rce I q) n ∧ (∀ i : Nat, i < 5 → rd I (bI q 7) i = rd I 175 (5 * q + i)) ∧ ∀ i : Nat, i < 10 → rd I (bI q 10) i = rd I 176 (10 * q + i)
theorem tF_tA {I : Nat → Nat → Int32} {q n : Nat} (h : Hb I q n) (i : Int) : tF I (bI q 7) (bI q 8) 5 i = tA I q i := by
  have hE := h.1.2.2.2.1
  unfold tF tA
  by_cases g : 0 ≤ i ∧ i < 5
  · have r := hE.1 i.toNat (by omega)
    by_cases u : rowH (rce I q) i.toNat
    · obtain ⟨f, l, _, _, r3, _⟩ := r.2 u
      rw [if_pos ⟨g.1, g.2, by rw [r3]; decide⟩, if_pos ⟨g.1, g.2, u⟩, h.2.1 i.toNat (by omega), show (5 * (q : Int) + i).toNat = 5 * q + i.toNat by omega]
    · rw [if_neg (fun v => v.2.2 (r.1 u).2.2), if_neg (fun v => u v.2.2)]
  · rw [if_neg (fun v => g ⟨v.1, v.2.1⟩), if_neg (fun v => g ⟨v.1, v.2.1⟩)]
theorem tF_tD {I : Nat → Nat → Int32} {q n : Nat} (h : Hb I q n) (i : Int) : tF I (bI q 10) (bI q 11) 10 i = tD I q i := by
  have hE := h.1.2.2.2.1
  unfold tF tD
  by_cases g : 0 ≤ i ∧ i < 10
  · have r := hE.2 i.toNat (by omega)
    by_cases u : colH (rce I q) i.toNat
    · rw [if_pos ⟨g.1, g.2, by rw [r.1 u]; decide⟩, if_pos ⟨g.1, g.2, u⟩, h.2.2 i.toNat (by omega), show (10 * (q : Int) + i).toNat = 10 * q + i.toNat by omega]
    · rw [if_neg (fun v => v.2.2 (r.2 u)), if_neg (fun v => u v.2.2)]
  · rw [if_neg (fun v => g ⟨v.1, v.2.1⟩), if_neg (fun v => g ⟨v.1, v.2.1⟩)]
theorem tA_o {I : Nat → Nat → Int32} {q : Nat} {i : Int} (g : ¬ (0 ≤ i ∧ i < 5)) : tA I q i = 0 := by
  unfold tA
  rw [if_neg (fun v => g ⟨v.1, v.2.1⟩)]
theorem tD_o {I : Nat → Nat → Int32} {q : Nat} {i : Int} (g : ¬ (0 ≤ i ∧ i < 10)) : tD I q i = 0 := by
  unfold tD
  rw [if_neg (fun v => g ⟨v.1, v.2.1⟩)]
theorem wLs_sm (I : Nat → Nat → Int32) (q : Nat) (N : Int) (f : Int → Int) (fm : Int) : ∀ n, wLs I q N f fm n = smN (fun j => if wLc I q N f fm j then 2 * rd I q (fm + j).toNat else 0) n
  | 0 => rfl
  | n + 1 => by rw [wLs, smN, wLs_sm I q N f fm n]
theorem smN_ex {f : Nat → Int} {n : Nat} (h : smN f n ≠ 0) : ∃ j, j < n ∧ f j ≠ 0 := Classical.byContradiction fun q => h (smN_z (fun j hj => Classical.byContradiction fun u => q ⟨j, hj, u⟩))
theorem smN_ge {f : Nat → Int} {k : Nat} : ∀ {n : Nat}, (∀ j, j < n → 0 ≤ f j) → k < n → f k ≤ smN f n
  | 0, _, h => absurd h (Nat.not_lt_zero _)
  | n + 1, h0, h => by
    have p : 0 ≤ smN f n := by
      by_cases e : smN f n = 0
      · omega
      · have : ∀ m, (∀ j, j < m → 0 ≤ f j) → 0 ≤ smN f m := fun m => by
          induction m with
          | zero => intro _; exact Int.le_refl _
          | succ m ih => intro q; rw [smN]; have := ih (fun j hj => q j (by omega)); have := q m (by omega); omega
        exact this n (fun j hj => h0 j (by omega))
    have q := h0 n (by omega)
    rw [smN]
    by_cases e : k = n
    · rw [e]; omega
    · have := smN_ge (n := n) (k := k) (fun j hj => h0 j (by omega)) (by omega)
      omega
theorem lane_sum {I : Nat → Nat → Int32} {Q N M : Nat} {Z : Int} {t : Int → Int} {R : Int} {rT : Nat → Int → Int} (hR : -1000 ≤ R ∧ R ≤ 1000) (hZ : Z = N) (hN : N ≤ 100) (hM : M ≤ 100) (ht : ∀ i : Int, ¬ (0 ≤ i ∧ i < M) → t i = 0) (hc : ∀ l : Nat, l < N → rd I Q l = smN (fun b => if lyB I b ∧ rT b (l : Int) ≠ 0 then 1 else 0) 10) (hnq : ∀ b, b < 10 → lyB I b → ∀ y : Nat, y < N → ¬ qrP (t ((y : Int) - R)) (rT b (y : Int))) : smN (fun b => if lyB I b then smN (fun y => wP (t (((y : Nat) : Int) - R)) (rT b ((y : Nat) : Int))) N else 0) 10 = wLs I Q Z t R M := by
  have e1 : ∀ b, (if lyB I b then smN (fun y => wP (t (((y : Nat) : Int) - R)) (rT b ((y : Nat) : Int))) N else 0) = smN (fun y => if lyB I b then wP (t (((y : Nat) : Int) - R)) (rT b ((y : Nat) : Int)) else 0) N := fun b => by
    by_cases e : lyB I b
    · rw [if_pos e]
      exact smN_cg (fun y _ => (if_pos e).symm)
    · rw [if_neg e, smN_z (fun y _ => if_neg e)]
  rw [show (fun b => if lyB I b then smN (fun y => wP (t (((y : Nat) : Int) - R)) (rT b ((y : Nat) : Int))) N else 0) = (fun b => smN (fun y => if lyB I b then wP (t (((y : Nat) : Int) - R)) (rT b ((y : Nat) : Int)) else 0) N) from funext e1]
  rw [smN_sw (fun b y => if lyB I b then wP (t (((y : Nat) : Int) - R)) (rT b ((y : Nat) : Int)) else 0) N 10, wLs_sm]
  have e2 : ∀ y, y < N → smN (fun b => if lyB I b then wP (t (((y : Nat) : Int) - R)) (rT b ((y : Nat) : Int)) else 0) 10 = (fun v : Int => if t (v - R) ≠ 0 ∧ 0 ≤ v ∧ v < N ∧ 0 < rd I Q v.toNat then 2 * rd I Q v.toNat else 0) ((y : Nat) : Int) := fun y hy => by
    show _ = if t ((y : Int) - R) ≠ 0 ∧ 0 ≤ (y : Int) ∧ (y : Int) < N ∧ 0 < rd I Q ((y : Int)).toNat then 2 * rd I Q ((y : Int)).toNat else 0
    rw [Int.toNat_natCast]
    by_cases g : t ((y : Int) - R) = 0
    · rw [if_neg (fun u => u.1 g)]
      refine smN_z (fun b _ => ?_)
      show (if lyB I b then wP (t ((y : Int) - R)) (rT b (y : Int)) else 0) = 0
      rw [g]
      split
      · exact if_neg (fun u => u.1 rfl)
      · rfl
    · have s : smN (fun b => if lyB I b then wP (t (((y : Nat) : Int) - R)) (rT b ((y : Nat) : Int)) else 0) 10 = 2 * rd I Q y := by
        rw [hc y hy, ← smN_mc]
        refine smN_cg (fun b hb => ?_)
        show (if lyB I b then wP (t ((y : Int) - R)) (rT b (y : Int)) else 0) = 2 * (if lyB I b ∧ rT b (y : Int) ≠ 0 then 1 else 0)
        by_cases e : lyB I b
        · rw [if_pos e]
          by_cases f : rT b (y : Int) = 0
          · rw [if_neg (fun u => u.2 f), f]
            exact if_neg (fun u => u.1 u.2)
          · rw [if_pos ⟨e, f⟩]
            refine if_pos ⟨g, ?_⟩
            exact Classical.byContradiction fun u => hnq b hb e y hy ⟨g, f, u⟩
        · rw [if_neg e, if_neg (fun u => e u.1)]; rfl
      rw [s]
      have c0 : 0 ≤ rd I Q y := by
        rw [hc y hy]
        have := smN_ge (f := fun b => if lyB I b ∧ rT b (y : Int) ≠ 0 then (1 : Int) else 0) (n := 10) (k := 0) (fun j _ => by show (0 : Int) ≤ if _ then _ else _; split <;> omega) (by decide)
        have q : (0 : Int) ≤ (fun b => if lyB I b ∧ rT b (y : Int) ≠ 0 then (1 : Int) else 0) 0 := by show (0 : Int) ≤ if _ then _ else _; split <;> omega
        omega
      by_cases z : 0 < rd I Q y
      · rw [if_pos ⟨g, by omega, by omega, z⟩]
      · rw [if_neg (fun u => z u.2.2.2)]; omega
  rw [smN_cg e2, ← sI_0 (h := fun v : Int => if t (v - R) ≠ 0 ∧ 0 ≤ v ∧ v < N ∧ 0 < rd I Q v.toNat then 2 * rd I Q v.toNat else 0)]
  rw [sI_two (h := fun v : Int => if t (v - R) ≠ 0 ∧ 0 ≤ v ∧ v < N ∧ 0 < rd I Q v.toNat then 2 * rd I Q v.toNat else 0) (a := 0) (b := R) (n := N) (m := M) (by omega) (by omega) (fun v hv => if_neg (fun u => hv (by omega))) (fun v hv => if_neg (fun u => u.1 (ht _ (by omega))))]
  refine smN_cg (fun j _ => ?_)
  show (if t (R + (j : Int) - R) ≠ 0 ∧ 0 ≤ R + (j : Int) ∧ R + (j : Int) < N ∧ 0 < rd I Q (R + (j : Int)).toNat then 2 * rd I Q (R + (j : Int)).toNat else 0) = if wLc I Q Z t R j then 2 * rd I Q (R + (j : Int)).toNat else 0
  rw [show R + (j : Int) - R = j by omega, hZ]
theorem lane_q {I : Nat → Nat → Int32} {Q P N M : Nat} {Z : Int} {t : Int → Int} {R : Int} {rT : Nat → Int → Int} (hZ : Z = N) (ht : ∀ i : Int, ¬ (0 ≤ i ∧ i < M) → t i = 0) (hc : ∀ l : Nat, l < N → rd I Q l = smN (fun b => if lyB I b ∧ rT b (l : Int) ≠ 0 then 1 else 0) 10) (hv : ∀ l : Nat, l < N → ∀ b, b < 10 → lyB I b → rT b (l : Int) ≠ 0 → rd I P l = rT b (l : Int)) : (∃ j : Nat, j < M ∧ (wLc I Q Z t R j ∧ rd I P (R + j).toNat ≠ t (j : Int))) ↔ ∃ b, b < 10 ∧ lyB I b ∧ ∃ y : Nat, y < N ∧ qrP (t ((y : Int) - R)) (rT b (y : Int)) := by
  constructor
  · rintro ⟨j, j1, ⟨w1, w2, w3, w4⟩, j3⟩
    have hy : (R + (j : Int)).toNat < N := by omega
    have ey : (((R + (j : Int)).toNat : Nat) : Int) = R + j := by omega
    rw [hc _ hy] at w4
    obtain ⟨b, b1, b2⟩ := smN_ex (f := fun b => if lyB I b ∧ rT b (((R + (j : Int)).toNat : Nat) : Int) ≠ 0 then (1 : Int) else 0) (n := 10) (fun e => by rw [e] at w4; exact absurd w4 (by decide))
    have b3 : lyB I b ∧ rT b (((R + (j : Int)).toNat : Nat) : Int) ≠ 0 := Classical.byContradiction fun u => b2 (if_neg u)
    refine ⟨b, b1, b3.1, (R + (j : Int)).toNat, hy, ?_, b3.2, ?_⟩
    · rw [ey, show R + (j : Int) - R = j by omega]; exact w1
    · rw [← hv _ hy b b1 b3.1 b3.2, ey, show R + (j : Int) - R = j by omega]
      exact fun e => j3 e.symm
  · rintro ⟨b, b1, b2, y, y1, y2, y3, y4⟩
    have r : 0 ≤ (y : Int) - R ∧ (y : Int) - R < M := Classical.byContradiction fun u => y2 (ht _ u)
    have ej : ((((y : Int) - R).toNat : Nat) : Int) = (y : Int) - R := by omega
    have eR : R + ((((y : Int) - R).toNat : Nat) : Int) = y := by omega
    refine ⟨((y : Int) - R).toNat, by omega, ⟨?_, by omega, by omega, ?_⟩, ?_⟩
    · rw [ej]; exact y2
    · rw [eR, Int.toNat_natCast, hc y y1]
      have := smN_ge (f := fun b => if lyB I b ∧ rT b (y : Int) ≠ 0 then (1 : Int) else 0) (n := 10) (k := b) (fun j _ => by show (0 : Int) ≤ if _ then _ else _; split <;> omega) b1
      have q : (fun b => if lyB I b ∧ rT b (y : Int) ≠ 0 then (1 : Int) else 0) b = 1 := if_pos ⟨b2, y3⟩
      omega
    · rw [eR, Int.toNat_natCast, hv y y1 b b1 b2 y3, ej]
      exact fun e => y4 e.symm
theorem q_iff {I : Nat → Nat → Int32} {q n : Nat} {p : Int} (hp : pb0 p) (h : Hs I) (hb : Hb I q n) (h0 : ¬ lyB I q) : qLq I q (plR p) (plC p) ↔ ∃ b, b < 10 ∧ lyB I b ∧ qrl (pl I q p) q b := by
  have nq : ∀ {a}, lyB I a → a ≠ q := fun la e => h0 (e ▸ la)
  obtain ⟨_, _, _, hA, hD⟩ := h
  unfold qLq qLa qLd
  rw [show (fun i : Int => tF I (bI q 7) (bI q 8) 5 i) = tA I q from funext fun i => tF_tA hb i, show (fun i : Int => tF I (bI q 10) (bI q 11) 10 i) = tD I q from funext fun i => tF_tD hb i]
  simp only [tF_tA hb, tF_tD hb]
  rw [lane_q (I := I) (Q := 147) (P := 146) (N := 16) (M := 5) (Z := 16) (t := tA I q) (R := plR p) (rT := rTa I) rfl (fun i g => tA_o (fun u => g ⟨u.1, by have := u.2; omega⟩)) (fun l hl => (hA l hl).1) (fun l hl => (hA l hl).2), lane_q (I := I) (Q := 150) (P := 149) (N := 32) (M := 10) (Z := 32) (t := tD I q) (R := plC p) (rT := rTd I) rfl (fun i g => tD_o (fun u => g ⟨u.1, by have := u.2; omega⟩)) (fun l hl => (hD l hl).1) (fun l hl => (hD l hl).2)]
  constructor
  · rintro (⟨b, b1, b2, y, y1, y2⟩ | ⟨b, b1, b2, y, y1, y2⟩)
    · exact ⟨b, b1, b2, Or.inl ⟨y, y1, by rw [rTa_plq hp, rTa_pl hp (nq b2)]; exact y2⟩⟩
    · exact ⟨b, b1, b2, Or.inr ⟨y, y1, by rw [rTd_plq hp, rTd_pl hp (nq b2)]; exact y2⟩⟩
  · rintro ⟨b, b1, b2, ⟨y, y1, y2⟩ | ⟨y, y1, y2⟩⟩
    · rw [rTa_plq hp, rTa_pl hp (nq b2)] at y2
      exact Or.inl ⟨b, b1, b2, y, y1, y2⟩
    · rw [rTd_plq hp, rTd_pl hp (nq b2)] at y2
      exact Or.inr ⟨b, b1, b2, y, y1, y2⟩
theorem rm_iff {I : Nat → Nat → Int32} {ce : Nat → Int} {p : Int} (h : Hs I) (hn : nx p) : rmC I ce (plR p) (plC p) ↔ rmL I ce (plR p) (plC p) := by
  have nq : -4 ≤ p / 64 - 5 ∧ p / 64 - 5 ≤ 15 ∧ -9 ≤ p % 64 - 10 ∧ p % 64 - 10 ≤ 31 := hn
  unfold rmC rmL
  constructor
  · rintro ⟨_, g⟩ y x u
    rw [← (h.2.2.1 y x).2]; exact g y x u
  · intro g
    refine ⟨by unfold plR plC; omega, fun y x u => ?_⟩
    rw [(h.2.2.1 y x).2]; exact g y x u
theorem pS_lQ {I : Nat → Nat → Int32} (h : Hs I) (ce : Nat → Int) (R C y x : Int) : pS I ce R C y x = lQ I ce R C y x := by
  unfold pS lQ
  rw [(h.2.2.1 y x).1]
theorem aC_wC {I : Nat → Nat → Int32} (h : Hs I) {ce : Nat → Int} {wn : Nat} {R C : Int} (hr : rmL I ce R C) (g : wC I wn ce R C) : aC I wn := fun y hy => allR_mono (pS_sB (fun y x u => (hr y x u).1) y) (fun x u => by
  show pS I ce R C y x = sgAt I y x
  unfold pS
  rw [if_neg]
  intro v
  apply u
  show sgAt I y x = 95
  rw [(h.2.2.1 _ _).1]
  exact lS_no (hr _ _ v).2) (g y hy)
/-- what may lie: both say the same -/
theorem may_iff {I : Nat → Nat → Int32} {q n wn : Nat} {p : Int} (hq : q < 10) (h : Hs I) (hb : Hb I q n) (h0 : ¬ lyB I q) (hn : nx p) : (rmC I (rce I q) (plR p) (plC p) ∧ ¬ qLq I q (plR p) (plC p) ∧ aC I wn ∧ wC I wn (rce I q) (plR p) (plC p)) ↔ mL (pl I q p) wn := by
  have hp : pb0 p := by have := nx_bd hn; exact ⟨by omega, by omega⟩
  rw [mL_pl hp hq h0, rm_iff h hn, q_iff hp h hb h0]
  have w : wC I wn (rce I q) (plR p) (plC p) ↔ ∀ y : Nat, y < 16 → allR I wn (fun x => lQ I (rce I q) (plR p) (plC p) y x) := by
    unfold wC
    simp only [pS_lQ h]
  rw [← w]
  constructor
  · rintro ⟨a, b, c, d⟩
    exact ⟨⟨h.1, a⟩, ⟨h.2.1, fun b' h1 h2 h3 => b ⟨b', h1, h2, h3⟩⟩, d⟩
  · rintro ⟨⟨_, a⟩, ⟨_, b⟩, d⟩
    exact ⟨a, fun ⟨b', h1, h2, h3⟩ => b b' h1 h2 h3, aC_wC h a d, d⟩
theorem tk_sm {I : Nat → Nat → Int32} (h : Hs I) (y x : Int) : smN (fun b => if lyB I b then iv (rcA I b y x) else 0) 10 = tk I y x := by
  unfold tk
  rw [(h.2.2.1 y x).2]
  rcases lO_ca I y x with u | ⟨b, hb, u⟩
  · rw [if_pos u]
    refine smN_z (fun b hb => ?_)
    show (if lyB I b then iv (rcA I b y x) else 0) = 0
    by_cases e : lyB I b
    · rw [if_pos e, lO_no.mp u b hb e]; rfl
    · rw [if_neg e]
  · obtain ⟨_, lb, v⟩ := (lO_iff h.1).mp u
    rw [if_neg (by omega)]
    rw [smN_one hb (fun j hj e => ?_)]
    · show (if lyB I b then iv (rcA I b y x) else 0) = 1
      rw [if_pos lb]; exact if_pos v
    · show (if lyB I j then iv (rcA I j y x) else 0) = 0
      by_cases f : lyB I j
      · rw [if_pos f]
        exact if_neg (fun w => e (ok_u h.1 hj hb f lb w v))
      · rw [if_neg f]
theorem nb_sm {I : Nat → Nat → Int32} (h : Hs I) (y x : Int) : smN (fun b => if lyB I b then nb4 (rcA I b) y x else 0) 10 = sd4 I y x := by
  unfold sd4
  rw [← tk_sm h, ← tk_sm h, ← tk_sm h, ← tk_sm h, ← smN_pl, ← smN_pl, ← smN_pl]
  refine smN_cg (fun b _ => ?_)
  show (if lyB I b then nb4 (rcA I b) y x else 0) = (if lyB I b then iv (rcA I b (y - 1) x) else 0) + (if lyB I b then iv (rcA I b (y + 1) x) else 0) + (if lyB I b then iv (rcA I b y (x - 1)) else 0) + (if lyB I b then iv (rcA I b y (x + 1)) else 0)
  by_cases e : lyB I b
  · rw [if_pos e, if_pos e, if_pos e, if_pos e, if_pos e]; rfl
  · rw [if_neg e, if_neg e, if_neg e, if_neg e, if_neg e]; rfl
theorem sd_sm {I : Nat → Nat → Int32} {q n : Nat} {R C : Int} (h : Hs I) (hb : Hb I q n) (hr : rmL I (rce I q) R C) (hR : -1000 ≤ R ∧ R ≤ 1000) (hC : -1000 ≤ C ∧ C ≤ 1000) : smN (fun b => if lyB I b then nbS (rcA I b) (cA (rce I q) R C) else 0) 10 = sdC I q n R C := by
  have e1 : ∀ b, (if lyB I b then nbS (rcA I b) (cA (rce I q) R C) else 0) = S2 (fun y x => if cA (rce I q) R C y x ≠ 95 then (if lyB I b then nb4 (rcA I b) y x else 0) else 0) := fun b => by
    by_cases e : lyB I b
    · rw [if_pos e]
      refine S2_cg (fun y x _ => ?_)
      rw [if_pos e]
    · rw [if_neg e, S2_z (fun y x _ => ?_)]
      rw [if_neg e]; split <;> rfl
  rw [show (fun b => if lyB I b then nbS (rcA I b) (cA (rce I q) R C) else 0) = _ from funext e1, S2_sw]
  have e2 : S2 (fun y x => smN (fun b => if cA (rce I q) R C y x ≠ 95 then (if lyB I b then nb4 (rcA I b) y x else 0) else 0) 10) = S2 (fun y x => if cA (rce I q) R C y x ≠ 95 then sd4 I y x else 0) := S2_cg (fun y x _ => by
    by_cases e : cA (rce I q) R C y x ≠ 95
    · rw [if_pos e, ← nb_sm h]
      refine smN_cg (fun b _ => ?_)
      show (if cA (rce I q) R C y x ≠ 95 then (if lyB I b then nb4 (rcA I b) y x else 0) else 0) = _
      rw [if_pos e]
    · rw [if_neg e]
      exact smN_z (fun b _ => if_neg e))
  rw [e2, S2_cells hb.1.2.2.1 hR hC (fun y x u => (hr y x u).1)]
  rfl
/-- the gain -/
theorem gain_1 {I : Nat → Nat → Int32} {q n : Nat} {p : Int} (hq : q < 10) (h : Hs I) (hb : Hb I q n) (h0 : ¬ lyB I q) (hn : nx p) (hok : okL (pl I q p) 10) (hnq : ∀ b, b < 10 → lyB I b → ¬ qrl (pl I q p) q b) : gnR (pl I q p) q = gnC I q n (plR p) (plC p) := by
  have hp : pb0 p := by have := nx_bd hn; exact ⟨by omega, by omega⟩
  have nq : ∀ {a}, lyB I a → a ≠ q := fun la e => h0 (e ▸ la)
  have nn : -4 ≤ p / 64 - 5 ∧ p / 64 - 5 ≤ 15 ∧ -9 ≤ p % 64 - 10 ∧ p % 64 - 10 ≤ 31 := hn
  have hR : -1000 ≤ plR p ∧ plR p ≤ 1000 := by unfold plR; omega
  have hC : -1000 ≤ plC p ∧ plC p ≤ 1000 := by unfold plC; omega
  have hr := ((okL_pl hp hq h0).mp hok).2
  obtain ⟨_, _, _, hA, hD⟩ := id h
  unfold gnR
  have e1 : ∀ b, b < 10 → (if b = q then 0 else pwA (pl I q p) q b) = (if lyB I b then nbS (rcA I b) (cA (rce I q) (plR p) (plC p)) else 0) + ((if lyB I b then smN (fun y => wP (tA I q (((y : Nat) : Int) - plR p)) (rTa I b ((y : Nat) : Int))) 16 else 0) + (if lyB I b then smN (fun y => wP (tD I q (((y : Nat) : Int) - plC p)) (rTd I b ((y : Nat) : Int))) 32 else 0)) := fun b hb10 => by
    by_cases e : lyB I b
    · rw [if_pos e, if_pos e, if_pos e, if_neg (nq e)]
      unfold pwA
      rw [if_pos ⟨ly_plq hp, (ly_pl hp (nq e)).mpr e⟩, sdA_nb hok hq hb10 (ly_plq hp) ((ly_pl hp (nq e)).mpr e)]
      unfold fbA
      simp only [rTa_plq hp, rTa_pl hp (nq e), rTd_plq hp, rTd_pl hp (nq e)]
      rw [nbS_cg (fun y x => rcA_pl hp (nq e) y x) (fun y x => rcA_plq hp y x)]
    · rw [if_neg e, if_neg e, if_neg e]
      by_cases f : b = q
      · rw [if_pos f]; rfl
      · rw [if_neg f]
        unfold pwA
        rw [if_neg (fun u => e ((ly_pl hp f).mp u.2))]; rfl
  rw [smN_cg e1, smN_pl, smN_pl, sd_sm h hb hr hR hC]
  rw [lane_sum (I := I) (Q := 147) (N := 16) (M := 5) (Z := 16) (t := tA I q) (R := plR p) (rT := rTa I) hR rfl (by decide) (by decide) (fun i g => tA_o (fun u => g ⟨u.1, by have := u.2; omega⟩)) (fun l hl => (hA l hl).1) (fun b hb1 lb y hy u => hnq b hb1 lb (Or.inl ⟨y, hy, by rw [rTa_plq hp, rTa_pl hp (nq lb)]; exact u⟩))]
  rw [lane_sum (I := I) (Q := 150) (N := 32) (M := 10) (Z := 32) (t := tD I q) (R := plC p) (rT := rTd I) hC rfl (by decide) (by decide) (fun i g => tD_o (fun u => g ⟨u.1, by have := u.2; omega⟩)) (fun l hl => (hD l hl).1) (fun b hb1 lb y hy u => hnq b hb1 lb (Or.inr ⟨y, hy, by rw [rTd_plq hp, rTd_pl hp (nq lb)]; exact u⟩))]
  show _ = fwC I q (plR p) (plC p) + sdC I q n (plR p) (plC p)
  unfold fwC
  rw [show (fun i : Int => tF I (bI q 7) (bI q 8) 5 i) = tA I q from funext fun i => tF_tA hb i, show (fun i : Int => tF I (bI q 10) (bI q 11) 10 i) = tD I q from funext fun i => tF_tD hb i]
  omega
