/-! sums -/
theorem smN_z {f : Nat → Int} : ∀ {n : Nat}, (∀ j, j < n → f j = 0) → smN f n = 0
  | 0, _ => rfl
  | n + 1, h => by rw [smN, smN_z (fun j hj => h j (by omega)), h n (by omega)]; rfl
theorem smN_pl (f g : Nat → Int) : ∀ n, smN (fun j => f j + g j) n = smN f n + smN g n
  | 0 => rfl
  | n + 1 => by
    rw [smN, smN, smN, smN_pl f g n]
    omega
theorem smN_mc (c : Int) (f : Nat → Int) : ∀ n, smN (fun j => c * f j) n = c * smN f n
  | 0 => by simp [smN]
  | n + 1 => by
    rw [smN, smN, smN_mc c f n, Int.mul_add]
theorem smN_sp (f : Nat → Int) (a : Nat) : ∀ b, smN f (a + b) = smN f a + smN (fun j => f (a + j)) b
  | 0 => by simp [smN]
  | b + 1 => by
    rw [← Nat.add_assoc, smN, smN, smN_sp f a b]
    omega
theorem smN_fr (f : Nat → Int) (n : Nat) : smN f (n + 1) = f 0 + smN (fun j => f (j + 1)) n := by
  have h := smN_sp f 1 n
  rw [Nat.add_comm n 1, h, smN, smN]
  simp only [Nat.add_comm 1]
  omega
theorem smN_sw (f : Nat → Nat → Int) (m : Nat) : ∀ n, smN (fun a => smN (fun b => f a b) m) n = smN (fun b => smN (fun a => f a b) n) m
  | 0 => (smN_z (fun _ _ => rfl)).symm
  | n + 1 => by
    rw [smN, smN_sw f m n, ← smN_pl]
    rfl
theorem smN_gr (w : Nat) (hw : 0 < w) (f : Nat → Nat → Int) : ∀ m, smN (fun k => f (k / w) (k % w)) (w * m) = smN (fun y => smN (fun x => f y x) w) m
  | 0 => rfl
  | m + 1 => by
    rw [Nat.mul_succ, smN_sp, smN_gr w hw f m, smN]
    congr 1
    refine smN_cg (fun j hj => ?_)
    rw [Nat.mul_add_div hw, Nat.mul_add_mod, Nat.div_eq_of_lt hj, Nat.mod_eq_of_lt hj]
    rfl
theorem smN_one {f : Nat → Int} {k : Nat} : ∀ {n : Nat}, k < n → (∀ j, j < n → j ≠ k → f j = 0) → smN f n = f k
  | 0, h, _ => absurd h (Nat.not_lt_zero _)
  | n + 1, h, g => by
    rw [smN]
    by_cases e : k = n
    · rw [smN_z (fun j hj => g j (by omega) (by omega)), e]; omega
    · rw [smN_one (show k < n by omega) (fun j hj hk => g j (by omega) hk), g n (by omega) (fun q => e q.symm)]; omega
/-- windows -/
theorem sI_sup {h : Int → Int} {a b : Int} {n m : Nat} (h1 : b ≤ a) (h2 : a + n ≤ b + m) (hz : ∀ v, ¬ (a ≤ v ∧ v < a + n) → h v = 0) : smN (fun j => h (b + (j : Nat))) m = smN (fun j => h (a + (j : Nat))) n := by
  obtain ⟨d, hd⟩ : ∃ d : Nat, a = b + d := ⟨(a - b).toNat, by omega⟩
  obtain ⟨e, he⟩ : ∃ e : Nat, m = d + (n + e) := ⟨m - (d + n), by omega⟩
  subst hd
  rw [he, smN_sp, smN_sp, smN_z (n := d) (fun j hj => hz _ (by omega)), smN_z (n := e) (fun j hj => hz _ (by omega))]
  have : smN (fun j => h (b + ((d + j : Nat) : Int))) n = smN (fun j => h (b + (d : Int) + ((j : Nat) : Int))) n := smN_cg (fun j _ => by
    show h (b + ((d + j : Nat) : Int)) = h (b + (d : Int) + ((j : Nat) : Int))
    congr 1
    omega)
  rw [this]
  omega
theorem sI_two {h : Int → Int} {a b : Int} {n m : Nat} (ha : -5000 ≤ a ∧ a + n ≤ 5000) (hb : -5000 ≤ b ∧ b + m ≤ 5000) (hz : ∀ v, ¬ (a ≤ v ∧ v < a + n) → h v = 0) (hy : ∀ v, ¬ (b ≤ v ∧ v < b + m) → h v = 0) : smN (fun j => h (a + (j : Nat))) n = smN (fun j => h (b + (j : Nat))) m := by
  rw [← sI_sup (b := -5000) (m := 10000) ha.1 (by omega) hz, ← sI_sup (b := -5000) (m := 10000) hb.1 (by omega) hy]
theorem sI_0 {h : Int → Int} {n : Nat} : smN (fun j => h ((0 : Int) + (j : Nat))) n = smN (fun j => h ((j : Nat) : Int)) n := smN_cg (fun j _ => by
  show h ((0 : Int) + ((j : Nat) : Int)) = h ((j : Nat) : Int)
  rw [Int.zero_add])
/-- one step on -/
theorem sI_up {h : Int → Int} {n : Nat} (h0 : h 0 = 0) (hn : h n = 0) : smN (fun j => h (((j : Nat) : Int) + 1)) n = smN (fun j => h ((j : Nat) : Int)) n := by
  have e1 := smN_fr (fun j => h ((j : Nat) : Int)) n
  rw [smN] at e1
  have e2 : smN (fun j => h (((j + 1 : Nat) : Nat) : Int)) n = smN (fun j => h (((j : Nat) : Int) + 1)) n := smN_cg (fun j _ => by
    show h ((j + 1 : Nat) : Int) = h ((j : Int) + 1)
    congr 1)
  rw [e2] at e1
  have z : h (((0 : Nat) : Nat) : Int) = 0 := h0
  rw [z] at e1
  omega
/-- the cells of a BIT, in their order -/
theorem smN_cp {ce : Nat → Int} {cq : Nat → Nat} {n : Nat} {g : Nat → Int} (h1 : ∀ j, j < n → ce (cq j) ≠ 95) (h2 : ∀ i j, i < j → j < n → cq i < cq j) (h3 : ∀ k, k < 50 → ce k ≠ 95 → ∃ j, j < n ∧ cq j = k) : ∀ (m i : Nat), m ≤ 50 → i ≤ n → (∀ j, j < i → cq j < m) → (∀ j, i ≤ j → j < n → m ≤ cq j) → smN (fun j => g (cq j)) i = smN (fun u => if ce u ≠ 95 then g u else 0) m
  | 0, i, _, _, a, _ => by
    cases i with
    | zero => rfl
    | succ i => exact absurd (a i (by omega)) (Nat.not_lt_zero _)
  | m + 1, i, hm, hi, a, b => by
    rw [smN]
    cases i with
    | zero =>
      rw [smN_cp h1 h2 h3 m 0 (by omega) (by omega) (fun j hj => absurd hj (Nat.not_lt_zero _)) (fun j h0 hj => by have := b j h0 hj; omega)]
      rw [if_neg]
      · omega
      · intro g1
        obtain ⟨j, hj, e⟩ := h3 m (by omega) g1
        have := b j (by omega) hj
        omega
    | succ i =>
      by_cases e : cq i = m
      · rw [smN, smN_cp h1 h2 h3 m i (by omega) (by omega) (fun j hj => by have := h2 j i hj (by omega); omega) (fun j h0 hj => by
          rcases Nat.eq_or_lt_of_le h0 with q | q
          · rw [← q]; omega
          · have := h2 i j q hj; omega)]
        rw [e, if_pos (by rw [← e]; exact h1 i (by omega))]
      · have ai := a i (by omega)
        rw [smN_cp h1 h2 h3 m (i + 1) (by omega) (by omega) (fun j hj => by
          rcases Nat.lt_succ_iff_lt_or_eq.mp hj with q | q
          · have := h2 j i q (by omega); omega
          · rw [q]; omega) (fun j h0 hj => by have := b j h0 hj; omega)]
        rw [if_neg]
        · omega
        · intro g1
          obtain ⟨j, hj, e2⟩ := h3 m (by omega) g1
          by_cases q : j < i + 1
          · rcases Nat.lt_succ_iff_lt_or_eq.mp q with u | u
            · have := h2 j i u (by omega); omega
            · rw [u] at e2; exact e e2
          · have := b j (by omega) hj; omega
/-- a sum over the sheet's cells -/
def S2 (h : Int → Int → Int) : Int := smN (fun y => smN (fun x => h ((y : Nat) : Int) ((x : Nat) : Int)) 32) 16
theorem S2_k (h : Int → Int → Int) : smN (fun k => h ((k / 32 : Nat) : Int) ((k % 32 : Nat) : Int)) 512 = S2 h := smN_gr 32 (by decide) (fun y x => h (y : Int) (x : Int)) 16
theorem S2_cg {h g : Int → Int → Int} (e : ∀ y x : Int, inS y x → h y x = g y x) : S2 h = S2 g := smN_cg (fun y hy => smN_cg (fun x hx => e _ _ ⟨by omega, by omega, by omega, by omega⟩))
theorem S2_pl (h g : Int → Int → Int) : S2 (fun y x => h y x + g y x) = S2 h + S2 g := by
  unfold S2
  rw [← smN_pl]
  refine smN_cg (fun y _ => ?_)
  exact smN_pl (fun x => h (y : Int) (x : Int)) (fun x => g (y : Int) (x : Int)) 32
theorem S2_z {h : Int → Int → Int} (e : ∀ y x : Int, inS y x → h y x = 0) : S2 h = 0 := smN_z (fun y hy => smN_z (fun x hx => e _ _ ⟨by omega, by omega, by omega, by omega⟩))
theorem S2_x {h : Int → Int → Int} (h0 : ∀ y, h y 0 = 0) (h1 : ∀ y, h y 32 = 0) : S2 (fun y x => h y (x + 1)) = S2 h := smN_cg (fun y _ => sI_up (h := fun x => h (y : Int) x) (n := 32) (h0 _) (h1 _))
theorem S2_y {h : Int → Int → Int} (h0 : ∀ x, h 0 x = 0) (h1 : ∀ x, h 16 x = 0) : S2 (fun y x => h (y + 1) x) = S2 h := sI_up (h := fun y => smN (fun x => h y ((x : Nat) : Int)) 32) (n := 16) (smN_z (fun x _ => h0 _)) (smN_z (fun x _ => h1 _))
theorem S2_sw (f : Nat → Int → Int → Int) : ∀ n, smN (fun b => S2 (f b)) n = S2 (fun y x => smN (fun b => f b y x) n)
  | 0 => (S2_z (fun _ _ _ => rfl)).symm
  | n + 1 => by
    rw [smN, S2_sw f n, ← S2_pl]
    rfl
/-- over a BIT's cells -/
theorem S2_cells {I : Nat → Nat → Int32} {b n : Nat} {ce : Nat → Int} (g : RBc I b ce n) {R C : Int} (hR : -1000 ≤ R ∧ R ≤ 1000) (hC : -1000 ≤ C ∧ C ≤ 1000) (hin : ∀ y x : Int, cA ce R C y x ≠ 95 → inS y x) (f : Int → Int → Int) : S2 (fun y x => if cA ce R C y x ≠ 95 then f y x else 0) = smN (fun j => f (R + rd I (bI b 2) j) (C + rd I (bI b 3) j)) n := by
  have key : ∀ y x : Int, (if cA ce R C y x ≠ 95 then f y x else 0) ≠ 0 → inS y x ∧ 0 ≤ y - R ∧ y - R < 5 ∧ 0 ≤ x - C ∧ x - C < 10 := fun y x h => by
    have h2 : cA ce R C y x ≠ 95 := fun e => h (if_neg (fun q => q e))
    have h3 := cA_ne h2
    exact ⟨hin y x h2, h3.1, h3.2.1, h3.2.2.1, h3.2.2.2.1⟩
  have e1 : S2 (fun y x => if cA ce R C y x ≠ 95 then f y x else 0) = smN (fun y => smN (fun x => (fun y x => if cA ce R C y x ≠ 95 then f y x else 0) ((y : Nat) : Int) (C + ((x : Nat) : Int))) 10) 16 := by
    refine smN_cg (fun y hy => ?_)
    rw [← sI_0 (h := fun x => if cA ce R C (y : Int) x ≠ 95 then f (y : Int) x else 0)]
    refine sI_two (h := fun x => if cA ce R C (y : Int) x ≠ 95 then f (y : Int) x else 0) (a := 0) (b := C) (n := 32) (m := 10) (by omega) (by omega) (fun v hv => ?_) (fun v hv => ?_)
    · apply Classical.byContradiction
      intro q
      have := (key _ _ q).1
      have t : 0 ≤ (y : Int) ∧ (y : Int) < 16 ∧ 0 ≤ v ∧ v < 32 := this
      omega
    · apply Classical.byContradiction
      intro q
      have := (key _ _ q).2
      omega
  have e2 : smN (fun y => smN (fun x => (fun y x => if cA ce R C y x ≠ 95 then f y x else 0) ((y : Nat) : Int) (C + ((x : Nat) : Int))) 10) 16 = smN (fun r => smN (fun x => (fun y x => if cA ce R C y x ≠ 95 then f y x else 0) (R + ((r : Nat) : Int)) (C + ((x : Nat) : Int))) 10) 5 := by
    rw [← sI_0 (h := fun y => smN (fun x => (fun y x => if cA ce R C y x ≠ 95 then f y x else 0) y (C + ((x : Nat) : Int))) 10)]
    refine sI_two (h := fun y => smN (fun x => (fun y x => if cA ce R C y x ≠ 95 then f y x else 0) y (C + ((x : Nat) : Int))) 10) (a := 0) (b := R) (n := 16) (m := 5) (by omega) (by omega) (fun v hv => ?_) (fun v hv => ?_)
    · refine smN_z (fun x _ => ?_)
      apply Classical.byContradiction
      intro q
      have t : 0 ≤ v ∧ v < 16 ∧ 0 ≤ C + (x : Int) ∧ C + (x : Int) < 32 := (key _ _ q).1
      omega
    · refine smN_z (fun x _ => ?_)
      apply Classical.byContradiction
      intro q
      have := (key _ _ q).2
      omega
  rw [e1, e2]
  have e3 := smN_gr 10 (by decide) (fun r x => (fun y x => if cA ce R C y x ≠ 95 then f y x else 0) (R + ((r : Nat) : Int)) (C + ((x : Nat) : Int))) 5
  rw [← e3]
  have e4 := smN_cp (ce := ce) (cq := cp I b) (n := n) (g := fun u => f (R + ((u / 10 : Nat) : Int)) (C + ((u % 10 : Nat) : Int))) (fun j hj => (g.2.2.1 j hj).2.2.2.2) g.2.2.2.1 g.2.2.2.2 50 n (by omega) (by omega) (fun j hj => by
    obtain ⟨r, c, q1, q2, q3, q4, q5, q6⟩ := cp_rc g hj
    exact q6) (fun j h0 hj => by omega)
  have e5 : smN (fun k => (fun r x => (fun y x => if cA ce R C y x ≠ 95 then f y x else 0) (R + ((r : Nat) : Int)) (C + ((x : Nat) : Int))) (k / 10) (k % 10)) (10 * 5) = smN (fun u => if ce u ≠ 95 then (fun u => f (R + ((u / 10 : Nat) : Int)) (C + ((u % 10 : Nat) : Int))) u else 0) 50 := smN_cg (fun u hu => by
    show (if cA ce R C (R + ((u / 10 : Nat) : Int)) (C + ((u % 10 : Nat) : Int)) ≠ 95 then _ else _) = _
    rw [cA_at (show u < 50 from hu)])
  rw [e5, ← e4]
  refine smN_cg (fun j hj => ?_)
  obtain ⟨r, c, q1, q2, q3, q4, q5, q6⟩ := cp_rc g hj
  show f (R + ((cp I b j / 10 : Nat) : Int)) (C + ((cp I b j % 10 : Nat) : Int)) = _
  rw [q3, q4, q5, show (10 * r + c) / 10 = r by omega, show (10 * r + c) % 10 = c by omega]
