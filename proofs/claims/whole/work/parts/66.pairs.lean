/-! pairs -/
def Dq (n : Nat) (G : Nat → Nat → Int) : Int := smN (fun a => smN (fun b => if a = b then 0 else G a b) n) n
theorem pr_2 (G : Nat → Nat → Int) : ∀ n, (∀ a b, a < n → b < n → G a b = G b a) → Dq n G = 2 * smN (fun a => smN (fun d => G a (a + 1 + d)) (n - 1 - a)) n
  | 0, _ => rfl
  | n + 1, hs => by
    have e1 : smN (fun a => smN (fun b => if a = b then 0 else G a b) (n + 1)) n = smN (fun a => smN (fun b => if a = b then 0 else G a b) n) n + smN (fun a => G a n) n := by
      rw [← smN_pl]
      refine smN_cg (fun a ha => ?_)
      show smN (fun b => if a = b then 0 else G a b) n + (if a = n then 0 else G a n) = _
      rw [if_neg (by omega)]
    have e2 : smN (fun b => if n = b then 0 else G n b) (n + 1) = smN (fun a => G a n) n := by
      show smN (fun b => if n = b then 0 else G n b) n + (if n = n then 0 else G n n) = _
      rw [if_pos rfl, Int.add_zero]
      refine smN_cg (fun b hb => ?_)
      show (if n = b then 0 else G n b) = G b n
      rw [if_neg (by omega), hs n b (by omega) (by omega)]
    have e3 : smN (fun a => smN (fun d => G a (a + 1 + d)) (n + 1 - 1 - a)) n = smN (fun a => smN (fun d => G a (a + 1 + d)) (n - 1 - a)) n + smN (fun a => G a n) n := by
      rw [← smN_pl]
      refine smN_cg (fun a ha => ?_)
      show smN (fun d => G a (a + 1 + d)) (n + 1 - 1 - a) = smN (fun d => G a (a + 1 + d)) (n - 1 - a) + G a n
      rw [show n + 1 - 1 - a = (n - 1 - a) + 1 by omega, smN, show a + 1 + (n - 1 - a) = n by omega]
    have e4 : smN (fun d => G n (n + 1 + d)) (n + 1 - 1 - n) = 0 := by rw [show n + 1 - 1 - n = 0 by omega]; rfl
    have ih := pr_2 G n (fun a b ha hb => hs a b (by omega) (by omega))
    unfold Dq at ih ⊢
    show smN (fun a => smN (fun b => if a = b then 0 else G a b) (n + 1)) n + smN (fun b => if n = b then 0 else G n b) (n + 1) = 2 * (smN (fun a => smN (fun d => G a (a + 1 + d)) (n + 1 - 1 - a)) n + smN (fun d => G n (n + 1 + d)) (n + 1 - 1 - n))
    rw [e1, e2, e3, e4, ih]
    omega
theorem Dq_cg {n : Nat} {G H : Nat → Nat → Int} (h : ∀ a b, a < n → b < n → a ≠ b → G a b = H a b) : Dq n G = Dq n H := smN_cg (fun a ha => smN_cg (fun b hb => by
  show (if a = b then 0 else G a b) = (if a = b then 0 else H a b)
  by_cases e : a = b
  · rw [if_pos e, if_pos e]
  · rw [if_neg e, if_neg e, h a b ha hb e]))
theorem Dq_pl (n : Nat) (G H : Nat → Nat → Int) : Dq n (fun a b => G a b + H a b) = Dq n G + Dq n H := by
  unfold Dq
  rw [← smN_pl]
  refine smN_cg (fun a _ => ?_)
  rw [← smN_pl]
  refine smN_cg (fun b _ => ?_)
  show (if a = b then 0 else G a b + H a b) = (if a = b then 0 else G a b) + (if a = b then 0 else H a b)
  by_cases e : a = b
  · rw [if_pos e, if_pos e, if_pos e]; rfl
  · rw [if_neg e, if_neg e, if_neg e]
theorem Dq_tr (n : Nat) (G : Nat → Nat → Int) : Dq n (fun a b => G b a) = Dq n G := by
  unfold Dq
  rw [smN_sw (fun a b => if a = b then 0 else G b a) n n]
  refine smN_cg (fun a _ => smN_cg (fun b _ => ?_))
  show (if b = a then 0 else G a b) = (if a = b then 0 else G a b)
  by_cases e : a = b
  · rw [if_pos e, if_pos e.symm]
  · rw [if_neg e, if_neg (fun q => e q.symm)]
theorem Dq_sm (n m : Nat) (G : Nat → Nat → Nat → Int) : Dq n (fun a b => smN (fun y => G a b y) m) = smN (fun y => Dq n (fun a b => G a b y)) m := by
  unfold Dq
  have e1 : ∀ a b : Nat, (if a = b then 0 else smN (fun y => G a b y) m) = smN (fun y => if a = b then 0 else G a b y) m := fun a b => by
    by_cases e : a = b
    · rw [if_pos e, smN_z (fun y _ => if_pos e)]
    · rw [if_neg e]
      exact smN_cg (fun y _ => (if_neg e).symm)
  simp only [e1]
  have e2 : ∀ a : Nat, smN (fun b => smN (fun y => if a = b then 0 else G a b y) m) n = smN (fun y => smN (fun b => if a = b then 0 else G a b y) n) m := fun a => smN_sw (fun b y => if a = b then 0 else G a b y) m n
  simp only [e2]
  exact smN_sw (fun a y => smN (fun b => if a = b then 0 else G a b y) n) m n
theorem Dq_S2 (n : Nat) (G : Nat → Nat → Int → Int → Int) : Dq n (fun a b => S2 (G a b)) = S2 (fun y x => Dq n (fun a b => G a b y x)) := by
  unfold S2
  rw [Dq_sm n 16 (fun a b y => smN (fun x => G a b ((y : Nat) : Int) ((x : Nat) : Int)) 32)]
  refine smN_cg (fun y _ => ?_)
  exact Dq_sm n 32 (fun a b x => G a b ((y : Nat) : Int) ((x : Nat) : Int))
/-- one more -/
theorem pr_d {G G' : Nat → Nat → Int} {q n : Nat} (hq : q < n) (hs : ∀ a b, a < n → b < n → G a b = G b a) (hs' : ∀ a b, a < n → b < n → G' a b = G' b a) (h0 : ∀ b, G q b = 0) (he : ∀ a b, a < n → b < n → a ≠ q → b ≠ q → G' a b = G a b) : smN (fun a => smN (fun d => G' a (a + 1 + d)) (n - 1 - a)) n = smN (fun a => smN (fun d => G a (a + 1 + d)) (n - 1 - a)) n + smN (fun b => if b = q then 0 else G' q b) n := by
  have p1 := pr_2 G n hs
  have p2 := pr_2 G' n hs'
  have k : Dq n G' = Dq n G + (smN (fun b => if b = q then 0 else G' q b) n + smN (fun b => if b = q then 0 else G' q b) n) := by
    unfold Dq
    have r : ∀ a, a < n → smN (fun b => if a = b then 0 else G' a b) n = smN (fun b => if a = b then 0 else G a b) n + ((if a = q then smN (fun b => if b = q then 0 else G' q b) n else 0) + (if a = q then 0 else G' q a)) := fun a ha => by
      by_cases e : a = q
      · rw [if_pos e, if_pos e, e, smN_z (f := fun b => if q = b then 0 else G q b) (fun b _ => by
          show (if q = b then 0 else G q b) = 0
          rw [h0]; split <;> rfl)]
        have : smN (fun b => if q = b then 0 else G' q b) n = smN (fun b => if b = q then 0 else G' q b) n := smN_cg (fun b _ => by
          show (if q = b then 0 else G' q b) = (if b = q then 0 else G' q b)
          by_cases u : b = q
          · rw [if_pos u, if_pos u.symm]
          · rw [if_neg u, if_neg (fun v => u v.symm)])
        rw [this]; omega
      · rw [if_neg e, if_neg e]
        have s : smN (fun b => if a = b then 0 else G' a b) n = smN (fun b => (if a = b then 0 else G a b) + (if b = q then G' q a else 0)) n := smN_cg (fun b hb => by
          show (if a = b then 0 else G' a b) = (if a = b then 0 else G a b) + (if b = q then G' q a else 0)
          by_cases u : b = q
          · rw [if_neg (by omega), if_neg (by omega), if_pos u, u, hs' a q ha hq, hs a q ha hq, h0]; omega
          · rw [if_neg u]
            by_cases v : a = b
            · rw [if_pos v, if_pos v]; rfl
            · rw [if_neg v, if_neg v, he a b ha hb e u]; omega)
        rw [s, smN_pl]
        have o : smN (fun b => if b = q then G' q a else 0) n = G' q a := by
          rw [smN_one hq (fun j _ hj => if_neg hj)]; exact if_pos rfl
        rw [o]; omega
    rw [smN_cg r, smN_pl, smN_pl]
    have o : smN (fun a => if a = q then smN (fun b => if b = q then 0 else G' q b) n else 0) n = smN (fun b => if b = q then 0 else G' q b) n := by
      rw [smN_one hq (fun j _ hj => if_neg hj)]; exact if_pos rfl
    rw [o]
  omega
/-- pairs of marked ones -/
theorem Dq_u {u : Nat → Int} (n : Nat) (hu : ∀ a, a < n → u a = 0 ∨ u a = 1) : Dq n (fun a b => 2 * (u a * u b)) = 2 * (smN u n * (smN u n - 1)) := by
  have e1 : Dq n (fun a b => 2 * (u a * u b)) = smN (fun a => 2 * (u a * smN u n - u a)) n := by
    refine smN_cg (fun a ha => ?_)
    have s : smN (fun b => if a = b then 0 else 2 * (u a * u b)) n + 2 * (u a * u a) = 2 * (u a * smN u n) := by
      rw [← smN_mc (u a) u n, ← smN_mc 2]
      have o : smN (fun b => if b = a then 2 * (u a * u a) else 0) n = 2 * (u a * u a) := by
        rw [smN_one ha (fun j _ hj => if_neg hj)]; exact if_pos rfl
      rw [← o, ← smN_pl]
      refine smN_cg (fun b _ => ?_)
      show (if a = b then 0 else 2 * (u a * u b)) + (if b = a then 2 * (u a * u a) else 0) = 2 * (u a * u b)
      by_cases v : a = b
      · rw [if_pos v, if_pos v.symm, v]; omega
      · rw [if_neg v, if_neg (fun w => v w.symm)]; omega
    have t : u a * u a = u a := by rcases hu a ha with q | q <;> rw [q] <;> rfl
    show smN (fun b => if a = b then 0 else 2 * (u a * u b)) n = 2 * (u a * smN u n - u a)
    rw [t] at s
    omega
  rw [e1, smN_mc]
  congr 1
  have e2 : smN (fun a => u a * smN u n - u a) n + smN u n = smN (fun a => smN u n * u a) n := by
    rw [← smN_pl]
    refine smN_cg (fun a _ => ?_)
    show u a * smN u n - u a + u a = smN u n * u a
    rw [Int.mul_comm (smN u n)]; omega
  rw [smN_mc] at e2
  rw [Int.mul_sub, Int.mul_one]
  omega
/-! neighbours -/
def iv (v : Int) : Int := if v ≠ 95 then 1 else 0
def nb4 (A : Int → Int → Int) (y x : Int) : Int := iv (A (y - 1) x) + iv (A (y + 1) x) + iv (A y (x - 1)) + iv (A y (x + 1))
def nbS (A B : Int → Int → Int) : Int := S2 (fun y x => if B y x ≠ 95 then nb4 A y x else 0)
def rS (A B : Int → Int → Int) : Int := S2 (fun y x => iv (A y x) * iv (B y (x + 1)))
def dS (A B : Int → Int → Int) : Int := S2 (fun y x => iv (A y x) * iv (B (y + 1) x))
abbrev o95 (A : Int → Int → Int) : Prop := ∀ y x, ¬ inS y x → A y x = 95
theorem iv_0 : iv 95 = 0 := rfl
theorem nbS_rd {A B : Int → Int → Int} (hA : o95 A) (hB : o95 B) : nbS A B = rS A B + rS B A + (dS A B + dS B A) := by
  have nx : ∀ y x : Int, (if B y x ≠ 95 then nb4 A y x else 0) = (iv (B y x) * iv (A (y - 1) x) + iv (B y x) * iv (A (y + 1) x)) + (iv (B y x) * iv (A y (x - 1)) + iv (B y x) * iv (A y (x + 1))) := fun y x => by
    unfold nb4
    by_cases e : B y x ≠ 95
    · rw [if_pos e, show iv (B y x) = 1 from if_pos e]; omega
    · rw [if_neg e, show iv (B y x) = 0 from if_neg e]; omega
  unfold nbS
  rw [S2_cg (fun y x _ => nx y x), S2_pl, S2_pl, S2_pl]
  have o : ∀ {Z : Int → Int → Int}, o95 Z → ∀ y x, ¬ inS y x → iv (Z y x) = 0 := fun hZ y x g => by rw [hZ y x g]; rfl
  have s1 : S2 (fun y x => iv (B y x) * iv (A (y - 1) x)) = dS A B := by
    rw [← S2_y (h := fun y x => iv (B y x) * iv (A (y - 1) x)) (fun x => by
      show iv (B 0 x) * iv (A (0 - 1) x) = 0
      rw [o hA _ _ (fun q => absurd q.1 (by decide)), Int.mul_zero]) (fun x => by
      show iv (B 16 x) * iv (A (16 - 1) x) = 0
      rw [o hB _ _ (fun q => absurd q.2.1 (by decide)), Int.zero_mul])]
    refine S2_cg (fun y x _ => ?_)
    rw [show y + 1 - 1 = y by omega, Int.mul_comm]
  have s2 : S2 (fun y x => iv (B y x) * iv (A y (x - 1))) = rS A B := by
    rw [← S2_x (h := fun y x => iv (B y x) * iv (A y (x - 1))) (fun y => by
      show iv (B y 0) * iv (A y (0 - 1)) = 0
      rw [o hA _ _ (fun q => absurd q.2.2.1 (by decide)), Int.mul_zero]) (fun y => by
      show iv (B y 32) * iv (A y (32 - 1)) = 0
      rw [o hB _ _ (fun q => absurd q.2.2.2 (by decide)), Int.zero_mul])]
    refine S2_cg (fun y x _ => ?_)
    rw [show x + 1 - 1 = x by omega, Int.mul_comm]
  rw [s1, s2]
  show dS A B + dS B A + (rS A B + rS B A) = _
  omega
theorem nbS_sy {A B : Int → Int → Int} (hA : o95 A) (hB : o95 B) : nbS A B = nbS B A := by
  rw [nbS_rd hA hB, nbS_rd hB hA]; omega
theorem nbS_cg {A A' B B' : Int → Int → Int} (h : ∀ y x, A y x = A' y x) (h' : ∀ y x, B y x = B' y x) : nbS A B = nbS A' B' := by
  rw [show A = A' from funext fun y => funext fun x => h y x, show B = B' from funext fun y => funext fun x => h' y x]
