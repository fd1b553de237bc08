/-! the whole worth -/
theorem if_cg {P Q : Prop} [Decidable P] [Decidable Q] (h : P ↔ Q) {a b : Int} : (if P then a else b) = if Q then a else b := by
  by_cases g : P
  · rw [if_pos g, if_pos (h.mp g)]
  · rw [if_neg g, if_neg (fun q => g (h.mpr q))]
noncomputable def xA (I : Nat → Nat → Int32) (a : Nat) (y x : Int) : Int := if lyB I a then iv (rcA I a y x) else 0
theorem mE_D {p p' : Int} (h : p = -1 ∨ ∃ b : Nat, b < 10 ∧ p = b) (h' : p' = -1 ∨ ∃ b : Nat, b < 10 ∧ p' = b) : Dq 10 (fun a b => (if p = (a : Int) then 1 else 0) * (if p' = (b : Int) then 1 else 0)) = mE p p' := by
  unfold mE
  rcases h with e | ⟨m, hm, e⟩
  · rw [if_neg (fun u => u.1 e)]
    refine smN_z (fun a _ => smN_z (fun b _ => ?_))
    show (if a = b then 0 else (if p = (a : Int) then 1 else 0) * (if p' = (b : Int) then 1 else 0)) = (0 : Int)
    rw [if_neg (show ¬ p = (a : Int) by omega), Int.zero_mul]
    split <;> rfl
  · rcases h' with e' | ⟨m', hm', e'⟩
    · rw [if_neg (fun u => u.2.1 e')]
      refine smN_z (fun a _ => smN_z (fun b _ => ?_))
      show (if a = b then 0 else (if p = (a : Int) then 1 else 0) * (if p' = (b : Int) then 1 else 0)) = (0 : Int)
      rw [if_neg (show ¬ p' = (b : Int) by omega), Int.mul_zero]
      split <;> rfl
    · unfold Dq
      rw [smN_one hm (fun a _ na => smN_z (fun b _ => ?_))]
      · show smN (fun b => if m = b then 0 else (if p = (m : Int) then 1 else 0) * (if p' = (b : Int) then 1 else 0)) 10 = _
        rw [smN_one hm' (fun b _ nb => ?_)]
        · show (if m = m' then (0 : Int) else (if p = (m : Int) then 1 else 0) * (if p' = (m' : Int) then 1 else 0)) = _
          rw [if_pos e, if_pos e']
          by_cases q : m = m'
          · rw [if_pos q, if_neg (fun u => u.2.2 (by rw [e, e', q]))]
          · rw [if_neg q, if_pos ⟨by omega, by omega, by omega⟩]; rfl
        · show (if m = b then (0 : Int) else (if p = (m : Int) then 1 else 0) * (if p' = (b : Int) then 1 else 0)) = 0
          rw [if_neg (show ¬ p' = (b : Int) by omega), Int.mul_zero]
          split <;> rfl
      · show (if a = b then (0 : Int) else (if p = (a : Int) then 1 else 0) * (if p' = (b : Int) then 1 else 0)) = 0
        rw [if_neg (show ¬ p = (a : Int) by omega), Int.zero_mul]
        split <;> rfl
theorem xA_O {I : Nat → Nat → Int32} (h : okL I 10) {a : Nat} (ha : a < 10) (y x : Int) : xA I a y x = if lO I y x = (a : Int) then 1 else 0 := by
  unfold xA iv
  by_cases g : lO I y x = (a : Int)
  · have u := (lO_iff h).mp g
    rw [if_pos g, if_pos u.2.1, if_pos u.2.2]
  · rw [if_neg g]
    by_cases e : lyB I a
    · rw [if_pos e, if_neg (fun v => g ((lO_iff h).mpr ⟨ha, e, v⟩))]
    · rw [if_neg e]
theorem D_mE {I : Nat → Nat → Int32} (h : okL I 10) (y x y' x' : Int) : Dq 10 (fun a b => xA I a y x * xA I b y' x') = mE (lO I y x) (lO I y' x') := by
  rw [← mE_D (lO_ca I y x) (lO_ca I y' x')]
  exact Dq_cg (fun a b ha hb _ => by rw [xA_O h ha, xA_O h hb])
noncomputable def uA (I : Nat → Nat → Int32) (y : Nat) (a : Nat) : Int := if lyB I a ∧ rTa I a (y : Int) ≠ 0 then 1 else 0
noncomputable def uD (I : Nat → Nat → Int32) (y : Nat) (a : Nat) : Int := if lyB I a ∧ rTd I a (y : Int) ≠ 0 then 1 else 0
theorem wP_u {p q : Int} (h : ¬ qrP p q) : wP p q = 2 * ((if p ≠ 0 then 1 else 0) * (if q ≠ 0 then 1 else 0)) := by
  unfold wP
  by_cases g : p = 0
  · rw [if_neg (fun u => u.1 g), if_neg (fun u => u g)]; simp
  · by_cases f : q = 0
    · rw [if_neg (fun u => g (by rw [u.2, f])), if_neg (show ¬ q ≠ 0 from fun u => u f)]; simp
    · have e : p = q := Classical.byContradiction fun u => h ⟨g, f, u⟩
      rw [if_pos ⟨g, e⟩, if_pos g, if_pos f]; rfl
theorem nQ_any {I : Nat → Nat → Int32} (h : nQ I) {a b : Nat} (ha : a < 10) (hb : b < 10) (ne : a ≠ b) (la : lyB I a) (lb : lyB I b) : ¬ qrl I a b := by
  rcases Nat.lt_or_gt_of_ne ne with g | g
  · exact h a b g hb la lb
  · exact fun u => h b a g ha lb la (qrl_sy u)
theorem worth_eq {I : Nat → Nat → Int32} (h : Hs I) : (smN (fun l => rd I 147 l * (rd I 147 l - 1)) 16 + smN (fun l => rd I 150 l * (rd I 150 l - 1)) 32) + smN (fun k => mT I ((k / 32 : Nat) : Int) ((k % 32 : Nat) : Int)) 512 = wA I := by
  obtain ⟨hok, hnq, hso, hA, hD⟩ := h
  have p2 := pr_2 (pwA I) 10 (fun a b ha hb => pwA_sy hok ha hb)
  have pw2 : Dq 10 (pwA I) = 2 * wA I := p2
  have e1 : Dq 10 (pwA I) = Dq 10 (fun a b => ((S2 (fun y x => xA I a y x * xA I b y (x + 1)) + S2 (fun y x => xA I b y x * xA I a y (x + 1))) + (S2 (fun y x => xA I a y x * xA I b (y + 1) x) + S2 (fun y x => xA I b y x * xA I a (y + 1) x))) + (smN (fun y => 2 * (uA I y a * uA I y b)) 16 + smN (fun y => 2 * (uD I y a * uD I y b)) 32)) := Dq_cg (fun a b ha hb ne => by
    unfold pwA
    by_cases g : lyB I a ∧ lyB I b
    · have nq := nQ_any hnq ha hb ne g.1 g.2
      rw [if_pos g, sdA_nb hok ha hb g.1 g.2, nbS_rd (ok_95 hok hb g.2) (ok_95 hok ha g.1)]
      unfold rS dS fbA
      have x1 : ∀ y x, xA I a y x = iv (rcA I a y x) := fun y x => if_pos g.1
      have x2 : ∀ y x, xA I b y x = iv (rcA I b y x) := fun y x => if_pos g.2
      simp only [x1, x2]
      have f1 : smN (fun y => wP (rTa I a (y : Nat)) (rTa I b (y : Nat))) 16 = smN (fun y => 2 * (uA I y a * uA I y b)) 16 := smN_cg (fun y hy => by
        show wP (rTa I a (y : Nat)) (rTa I b (y : Nat)) = 2 * (uA I y a * uA I y b)
        rw [wP_u (fun u => nq (Or.inl ⟨y, hy, u⟩))]
        unfold uA
        rw [if_cg (show rTa I a (y : Int) ≠ 0 ↔ lyB I a ∧ rTa I a (y : Int) ≠ 0 from ⟨fun u => ⟨g.1, u⟩, fun u => u.2⟩), if_cg (show rTa I b (y : Int) ≠ 0 ↔ lyB I b ∧ rTa I b (y : Int) ≠ 0 from ⟨fun u => ⟨g.2, u⟩, fun u => u.2⟩)])
      have f2 : smN (fun y => wP (rTd I a (y : Nat)) (rTd I b (y : Nat))) 32 = smN (fun y => 2 * (uD I y a * uD I y b)) 32 := smN_cg (fun y hy => by
        show wP (rTd I a (y : Nat)) (rTd I b (y : Nat)) = 2 * (uD I y a * uD I y b)
        rw [wP_u (fun u => nq (Or.inr ⟨y, hy, u⟩))]
        unfold uD
        rw [if_cg (show rTd I a (y : Int) ≠ 0 ↔ lyB I a ∧ rTd I a (y : Int) ≠ 0 from ⟨fun u => ⟨g.1, u⟩, fun u => u.2⟩), if_cg (show rTd I b (y : Int) ≠ 0 ↔ lyB I b ∧ rTd I b (y : Int) ≠ 0 from ⟨fun u => ⟨g.2, u⟩, fun u => u.2⟩)])
      rw [f1, f2]
      omega
    · rw [if_neg g]
      have z : ∀ y x y' x' : Int, xA I a y x * xA I b y' x' = 0 ∧ xA I b y x * xA I a y' x' = 0 := fun y x y' x' => by
        unfold xA
        by_cases la : lyB I a
        · have lb : ¬ lyB I b := fun u => g ⟨la, u⟩
          rw [if_neg lb, if_neg lb]; simp
        · rw [if_neg la, if_neg la]; simp
      have za : ∀ y, uA I y a * uA I y b = 0 := fun y => by
        unfold uA
        by_cases la : lyB I a
        · rw [if_neg (show ¬ (lyB I b ∧ rTa I b (y : Int) ≠ 0) from fun u => g ⟨la, u.1⟩)]; simp
        · rw [if_neg (show ¬ (lyB I a ∧ rTa I a (y : Int) ≠ 0) from fun u => la u.1)]; simp
      have zd : ∀ y, uD I y a * uD I y b = 0 := fun y => by
        unfold uD
        by_cases la : lyB I a
        · rw [if_neg (show ¬ (lyB I b ∧ rTd I b (y : Int) ≠ 0) from fun u => g ⟨la, u.1⟩)]; simp
        · rw [if_neg (show ¬ (lyB I a ∧ rTd I a (y : Int) ≠ 0) from fun u => la u.1)]; simp
      rw [S2_z (fun y x _ => (z _ _ _ _).1), S2_z (fun y x _ => (z _ _ _ _).2), S2_z (fun y x _ => (z _ _ _ _).1), S2_z (fun y x _ => (z _ _ _ _).2), smN_z (fun y _ => by show 2 * (uA I y a * uA I y b) = 0; rw [za]; rfl), smN_z (fun y _ => by show 2 * (uD I y a * uD I y b) = 0; rw [zd]; rfl)]
      rfl)
  rw [Dq_pl, Dq_pl, Dq_pl, Dq_pl, Dq_pl] at e1
  have t1 : Dq 10 (fun a b => S2 (fun y x => xA I b y x * xA I a y (x + 1))) = Dq 10 (fun a b => S2 (fun y x => xA I a y x * xA I b y (x + 1))) := Dq_tr 10 (fun a b => S2 (fun y x => xA I a y x * xA I b y (x + 1)))
  have t2 : Dq 10 (fun a b => S2 (fun y x => xA I b y x * xA I a (y + 1) x)) = Dq 10 (fun a b => S2 (fun y x => xA I a y x * xA I b (y + 1) x)) := Dq_tr 10 (fun a b => S2 (fun y x => xA I a y x * xA I b (y + 1) x))
  have s1 : Dq 10 (fun a b => S2 (fun y x => xA I a y x * xA I b y (x + 1))) = S2 (fun y x => mE (owAt I y x) (owAt I y (x + 1))) := by
    rw [Dq_S2 10 (fun a b y x => xA I a y x * xA I b y (x + 1))]
    exact S2_cg (fun y x _ => by rw [D_mE hok, (hso _ _).2, (hso _ _).2])
  have s2 : Dq 10 (fun a b => S2 (fun y x => xA I a y x * xA I b (y + 1) x)) = S2 (fun y x => mE (owAt I y x) (owAt I (y + 1) x)) := by
    rw [Dq_S2 10 (fun a b y x => xA I a y x * xA I b (y + 1) x)]
    exact S2_cg (fun y x _ => by rw [D_mE hok, (hso _ _).2, (hso _ _).2])
  have f1 : Dq 10 (fun a b => smN (fun y => 2 * (uA I y a * uA I y b)) 16) = 2 * smN (fun l => rd I 147 l * (rd I 147 l - 1)) 16 := by
    rw [Dq_sm 10 16 (fun a b y => 2 * (uA I y a * uA I y b)), ← smN_mc]
    refine smN_cg (fun y hy => ?_)
    show Dq 10 (fun a b => 2 * (uA I y a * uA I y b)) = 2 * (rd I 147 y * (rd I 147 y - 1))
    rw [Dq_u 10 (fun a _ => by unfold uA; split <;> simp), (hA y hy).1]
    rfl
  have f2 : Dq 10 (fun a b => smN (fun y => 2 * (uD I y a * uD I y b)) 32) = 2 * smN (fun l => rd I 150 l * (rd I 150 l - 1)) 32 := by
    rw [Dq_sm 10 32 (fun a b y => 2 * (uD I y a * uD I y b)), ← smN_mc]
    refine smN_cg (fun y hy => ?_)
    show Dq 10 (fun a b => 2 * (uD I y a * uD I y b)) = 2 * (rd I 150 y * (rd I 150 y - 1))
    rw [Dq_u 10 (fun a _ => by unfold uD; split <;> simp), (hD y hy).1]
    rfl
  have m : smN (fun k => mT I ((k / 32 : Nat) : Int) ((k % 32 : Nat) : Int)) 512 = S2 (fun y x => mE (owAt I y x) (owAt I y (x + 1))) + S2 (fun y x => mE (owAt I y x) (owAt I (y + 1) x)) := by
    rw [S2_k, ← S2_pl]
    rfl
  rw [t1, t2, s1, s2, f1, f2] at e1
  omega
