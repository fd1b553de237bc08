/-! the search of the reference: what it speaks of -/
abbrev fR (I I' : Nat → Nat → Int32) : Prop := ∀ id k, (173 ≤ id ∧ id ≤ 179) ∨ id = 183 ∨ id = 184 → rd I' id k = rd I id k
theorem rce_R {I I' : Nat → Nat → Int32} (h : fR I I') (b : Nat) : rce I' b = rce I b := funext fun k => h 174 _ (by omega)
theorem rcA_R {I I' : Nat → Nat → Int32} (h : fR I I') (b : Nat) (y x : Int) : rcA I' b y x = rcA I b y x := by
  unfold rcA
  rw [rce_R h, h 178 _ (by omega), h 179 _ (by omega)]
theorem rTa_R {I I' : Nat → Nat → Int32} (h : fR I I') (b : Nat) (y : Int) : rTa I' b y = rTa I b y := by
  have e1 : rd I' 178 b = rd I 178 b := h 178 b (by omega)
  have e3 : hIR I' b y = hIR I b y := by unfold hIR; rw [e1, rce_R h]
  unfold rTa
  rw [e1, h 175 _ (by omega)]
  by_cases g : hIR I b y
  · rw [if_pos g, if_pos (by rw [e3]; exact g)]
  · rw [if_neg g, if_neg (by rw [e3]; exact g)]
theorem rTd_R {I I' : Nat → Nat → Int32} (h : fR I I') (b : Nat) (y : Int) : rTd I' b y = rTd I b y := by
  have e1 : rd I' 179 b = rd I 179 b := h 179 b (by omega)
  have e3 : hIC I' b y = hIC I b y := by unfold hIC; rw [e1, rce_R h]
  unfold rTd
  rw [e1, h 176 _ (by omega)]
  by_cases g : hIC I b y
  · rw [if_pos g, if_pos (by rw [e3]; exact g)]
  · rw [if_neg g, if_neg (by rw [e3]; exact g)]
theorem qrl_R {I I' : Nat → Nat → Int32} (h : fR I I') (a b : Nat) : qrl I' a b ↔ qrl I a b := by
  unfold qrl
  simp only [rTa_R h, rTd_R h]
theorem ly_R {I I' : Nat → Nat → Int32} (h : fR I I') (b : Nat) : rd I' 177 b = rd I 177 b := h 177 b (by omega)
theorem okL_R {I I' : Nat → Nat → Int32} (h : fR I I') (n : Nat) : okL I' n ↔ okL I n := by
  unfold okL lyB
  simp only [rcA_R h, ly_R h]
theorem nQ_R {I I' : Nat → Nat → Int32} (h : fR I I') : nQ I' ↔ nQ I := by
  unfold nQ lyB
  simp only [qrl_R h, ly_R h]
theorem lsN_R {I I' : Nat → Nat → Int32} (h : fR I I') (y x : Int) : ∀ n, lsN I' n y x = lsN I n y x
  | 0 => rfl
  | n + 1 => by
    unfold lsN lyB
    simp only [rcA_R h, ly_R h, lsN_R h y x n]
theorem loN_R {I I' : Nat → Nat → Int32} (h : fR I I') (y x : Int) : ∀ n, loN I' n y x = loN I n y x
  | 0 => rfl
  | n + 1 => by
    unfold loN lyB
    simp only [rcA_R h, ly_R h, loN_R h y x n]
theorem mL_R {I I' : Nat → Nat → Int32} (h : fR I I') (wn : Nat) : mL I' wn ↔ mL I wn := by
  unfold mL lS
  simp only [okL_R h, nQ_R h, lsN_R h, allR_I (fun k => h 183 k (by omega)) (fun k => h 184 k (by omega))]
theorem smN_cg {f g : Nat → Int} : ∀ {n : Nat}, (∀ j, j < n → f j = g j) → smN f n = smN g n
  | 0, _ => rfl
  | n + 1, h => by rw [smN, smN, smN_cg (fun j hj => h j (by omega)), h n (by omega)]
def oL (I : Nat → Nat → Int32) (k : Nat) : Int := lO I ((k / 32 : Nat) : Int) ((k % 32 : Nat) : Int)
theorem oL_R {I I' : Nat → Nat → Int32} (h : fR I I') : oL I' = oL I := funext fun k => loN_R h _ _ 10
def sdA (I : Nat → Nat → Int32) (a b : Nat) : Int := smN (sdK (oL I) a b) 512
theorem sdA_R {I I' : Nat → Nat → Int32} (h : fR I I') (a b : Nat) : sdA I' a b = sdA I a b := by unfold sdA; rw [oL_R h]
noncomputable def fbA (I : Nat → Nat → Int32) (a b : Nat) : Int := smN (fun y => wP (rTa I a (y : Nat)) (rTa I b (y : Nat))) 16 + smN (fun x => wP (rTd I a (x : Nat)) (rTd I b (x : Nat))) 32
noncomputable def pwA (I : Nat → Nat → Int32) (a b : Nat) : Int := if lyB I a ∧ lyB I b then sdA I a b + fbA I a b else 0
noncomputable def wA (I : Nat → Nat → Int32) : Int := smN (fun a => smN (fun d => pwA I a (a + 1 + d)) (9 - a)) 10
theorem fbA_R {I I' : Nat → Nat → Int32} (h : fR I I') (a b : Nat) : fbA I' a b = fbA I a b := by unfold fbA; simp only [rTa_R h, rTd_R h]
theorem pwA_R {I I' : Nat → Nat → Int32} (h : fR I I') (a b : Nat) : pwA I' a b = pwA I a b := by unfold pwA lyB; simp only [ly_R h, sdA_R h, fbA_R h]
theorem wA_R {I I' : Nat → Nat → Int32} (h : fR I I') : wA I' = wA I := by unfold wA; simp only [pwA_R h]
theorem sdK_cg {o o' : Nat → Int} (h : ∀ j, j < 512 → o j = o' j) (a b : Int) {k : Nat} (hk : k < 512) : sdK o a b k = sdK o' a b k := by
  unfold sdK
  rw [h k hk, h (k - 1) (by omega), h (k - 32) (by omega)]
  have e1 : (k % 32 < 31 ∧ o (k + 1) = b) ↔ (k % 32 < 31 ∧ o' (k + 1) = b) := by
    constructor
    · rintro ⟨g1, g2⟩; exact ⟨g1, by rw [← h _ (by omega)]; exact g2⟩
    · rintro ⟨g1, g2⟩; exact ⟨g1, by rw [h _ (by omega)]; exact g2⟩
  have e2 : (k + 32 < 512 ∧ o (k + 32) = b) ↔ (k + 32 < 512 ∧ o' (k + 32) = b) := by
    constructor
    · rintro ⟨g1, g2⟩; exact ⟨g1, by rw [← h _ (by omega)]; exact g2⟩
    · rintro ⟨g1, g2⟩; exact ⟨g1, by rw [h _ (by omega)]; exact g2⟩
  simp only [e1, e2]
theorem oL_sh {I I' : Nat → Nat → Int32} (hs : shL I I' 10) : ∀ j, j < 512 → (fun k => rd I' 186 k) j = oL I j := fun j hj => (shL_ls hs hj).2
theorem sdA_sh {I I' : Nat → Nat → Int32} (hs : shL I I' 10) (a b : Nat) : smN (sdK (fun k => rd I' 186 k) a b) 512 = sdA I a b := smN_cg fun j hj => sdK_cg (oL_sh hs) _ _ hj
theorem wNow_sh {I I' : Nat → Nat → Int32} (hs : shL I I' 10) (hx : fq S3 I I') : wNow I' = wA I := by
  have h7 : ∀ k, rd I' 177 k = rd I 177 k := fun k => hx 177 k (by unfold S3; omega)
  have e : ∀ a b, pw I' a b = pwA I a b := fun a b => by
    unfold pw pwA lyB fbA
    simp only [sdA_sh hs, rTa_fq hx, rTd_fq hx, h7, Int.add_assoc]
  unfold wNow wA pwR
  simp only [e]
theorem sdK_bd (o : Nat → Int) (a b : Int) (k : Nat) : 0 ≤ sdK o a b k ∧ sdK o a b k ≤ 4 := by
  unfold sdK
  split
  · constructor <;> (repeat' split) <;> omega
  · omega
theorem wP_bd (p q : Int) : 0 ≤ wP p q ∧ wP p q ≤ 2 := by unfold wP; split <;> omega
theorem wNow_bd (I : Nat → Nat → Int32) : 0 ≤ wNow I ∧ wNow I ≤ 300000 := by
  have h1 : ∀ a b, 0 ≤ pw I a b ∧ pw I a b ≤ 3000 := fun a b => by
    unfold pw
    split
    · have g1 := smN_bd (f := sdK (fun k => rd I 186 k) a b) (m := 4) 512 (fun j _ => sdK_bd _ _ _ _)
      have g2 := smN_bd (f := fun y => wP (rTa I a (y : Nat)) (rTa I b (y : Nat))) (m := 2) 16 (fun j _ => wP_bd _ _)
      have g3 := smN_bd (f := fun x => wP (rTd I a (x : Nat)) (rTd I b (x : Nat))) (m := 2) 32 (fun j _ => wP_bd _ _)
      omega
    · omega
  have h2 : ∀ a, 0 ≤ pwR I a ∧ pwR I a ≤ 30000 := fun a => by
    unfold pwR
    have g := smN_bd (f := fun d => pw I a (a + 1 + d)) (m := 3000) (9 - a) (fun j _ => h1 _ _)
    omega
  have h3 := smN_bd (f := pwR I) (m := 30000) 10 (fun j _ => h2 j)
  unfold wNow
  omega
/-- with BIT a at place p -/
abbrev pl (I : Nat → Nat → Int32) (a : Nat) (p : Int) : Nat → Nat → Int32 := wr (wr (wr I 177 a 1) 178 a (p / 64 - 5)) 179 a (p % 64 - 10)
theorem pl_rd {I : Nat → Nat → Int32} {a : Nat} {p : Int} (hp : 0 ≤ p ∧ p < 100000) (id k : Nat) : rd (pl I a p) id k = if id = 179 ∧ k = a then p % 64 - 10 else if id = 178 ∧ k = a then p / 64 - 5 else if id = 177 ∧ k = a then 1 else rd I id k := by
  unfold pl
  rw [rd_wr (by omega) (by omega), rd_wr (by omega) (by omega), rd_wr (by omega) (by omega)]
abbrev nx (p : Int) : Prop := -4 ≤ p / 64 - 5 ∧ p / 64 - 5 ≤ 15 ∧ -9 ≤ p % 64 - 10 ∧ p % 64 - 10 ≤ 31
theorem nx_bd {p : Int} (h : nx p) : 0 ≤ p ∧ p < 1344 := by have h2 : -4 ≤ p / 64 - 5 ∧ p / 64 - 5 ≤ 15 ∧ -9 ≤ p % 64 - 10 ∧ p % 64 - 10 ≤ 31 := h; omega
/-- I' is I but in what the search may leave: S3, best, and where BITS of Y would lie -/
def sF (Y : Nat → Prop) (I I' : Nat → Nat → Int32) : Prop := ∀ id k, ¬ (S3 id k ∨ (id = 171 ∧ 21 ≤ k ∧ k ≤ 23) ∨ ((id = 178 ∨ id = 179) ∧ Y k)) → rd I' id k = rd I id k
theorem sF_put {X : Nat → Prop} {I I' : Nat → Nat → Int32} {a : Nat} {p : Int} (h : sF X I I') (hp : 0 ≤ p ∧ p < 100000) : sF (fun k => X k ∧ k ≠ a) (pl I a p) (wr (wr (wr I' 178 a (p / 64 - 5)) 179 a (p % 64 - 10)) 177 a 1) := fun id k g => by
  rw [pl_rd hp, rd_wr (by omega) (by omega), rd_wr (by omega) (by omega), rd_wr (by omega) (by omega)]
  by_cases g1 : id = 177 ∧ k = a
  · rw [if_pos g1, if_neg (by omega), if_neg (by omega), if_pos g1]
  · rw [if_neg g1, if_neg g1]
    by_cases g2 : id = 179 ∧ k = a
    · rw [if_pos g2, if_pos g2]
    · rw [if_neg g2, if_neg g2]
      by_cases g3 : id = 178 ∧ k = a
      · rw [if_pos g3, if_pos g3]
      · rw [if_neg g3, if_neg g3]
        refine h id k (fun q => g ?_)
        rcases q with q | q | q
        · exact Or.inl q
        · exact Or.inr (Or.inl q)
        · exact Or.inr (Or.inr ⟨q.1, q.2, by omega⟩)
theorem sF_off {Y : Nat → Prop} {I M : Nat → Nat → Int32} {a : Nat} {p : Int} (h : sF Y (pl I a p) M) (hp : 0 ≤ p ∧ p < 100000) (h0 : rd I 177 a = 0) : sF (fun k => Y k ∨ k = a) I (wr M 177 a 0) := fun id k g => by
  rw [rd_wr (by omega) (by omega)]
  by_cases g1 : id = 177 ∧ k = a
  · rw [if_pos g1, g1.1, g1.2]; exact h0.symm
  · rw [if_neg g1]
    have e := h id k (fun q => g (by
      rcases q with q | q | q
      · exact Or.inl q
      · exact Or.inr (Or.inl q)
      · exact Or.inr (Or.inr ⟨q.1, Or.inl q.2⟩)))
    rw [e, pl_rd hp, if_neg (fun q => g (Or.inr (Or.inr ⟨Or.inr q.1, Or.inr q.2⟩))), if_neg (fun q => g (Or.inr (Or.inr ⟨Or.inl q.1, Or.inr q.2⟩))), if_neg g1]
theorem sF_3 {Y : Nat → Prop} {I I' I2 : Nat → Nat → Int32} (h : sF Y I I') (hx : fq S3 I' I2) : sF Y I I2 := fun id k g => by
  rw [hx id k (fun q => g (Or.inl q))]; exact h id k g
theorem sF_b {Y : Nat → Prop} {I I' : Nat → Nat → Int32} {v x y : Int} (h : sF Y I I') : sF Y I (wr (wr (wr I' 171 21 v) 171 22 x) 171 23 y) := fun id k g => by
  have g2 : ¬ (id = 171 ∧ 21 ≤ k ∧ k ≤ 23) := fun q => g (Or.inr (Or.inl q))
  rw [rd_wr_ne (by omega), rd_wr_ne (by omega), rd_wr_ne (by omega)]; exact h id k g
theorem sF_tr {Y Z W : Nat → Prop} {I I' I2 : Nat → Nat → Int32} (h : sF Y I I') (h2 : sF Z I' I2) (hy : ∀ k, Y k → W k) (hz : ∀ k, Z k → W k) : sF W I I2 := fun id k g => by
  rw [h2 id k (fun q => g (by
    rcases q with q | q | q
    · exact Or.inl q
    · exact Or.inr (Or.inl q)
    · exact Or.inr (Or.inr ⟨q.1, hz k q.2⟩)))]
  exact h id k (fun q => g (by
    rcases q with q | q | q
    · exact Or.inl q
    · exact Or.inr (Or.inl q)
    · exact Or.inr (Or.inr ⟨q.1, hy k q.2⟩)))
theorem sF_mono {Y W : Nat → Prop} {I I' : Nat → Nat → Int32} (h : sF Y I I') (hy : ∀ k, Y k → W k) : sF W I I' := sF_tr h (fun _ _ _ => rfl : sF Y I' I') hy hy
theorem sF_R {Y : Nat → Prop} {I I' : Nat → Nat → Int32} (h : sF Y I I') (hy : ∀ k, ¬ Y k) : fR I I' := fun id k g => h id k (fun q => by
  rcases q with q | q | q
  · unfold S3 at q; omega
  · omega
  · exact hy k q.2)
theorem sF_Rpl {Y : Nat → Prop} {I I' : Nat → Nat → Int32} {b : Nat} {q : Int} (h : sF Y I I') (hy : ∀ k, Y k → k = b) (hq : 0 ≤ q ∧ q < 100000) : fR (pl I b q) (pl I' b q) := fun id k g => by
  rw [pl_rd hq, pl_rd hq]
  by_cases g1 : id = 179 ∧ k = b
  · rw [if_pos g1, if_pos g1]
  · rw [if_neg g1, if_neg g1]
    by_cases g2 : id = 178 ∧ k = b
    · rw [if_pos g2, if_pos g2]
    · rw [if_neg g2, if_neg g2]
      by_cases g3 : id = 177 ∧ k = b
      · rw [if_pos g3, if_pos g3]
      · rw [if_neg g3, if_neg g3]
        refine h id k (fun u => ?_)
        rcases u with u | u | u
        · unfold S3 at u; omega
        · omega
        · have := hy k u.2; omega
theorem pl_fR {I I' : Nat → Nat → Int32} (h : fR I I') {b : Nat} {q : Int} (hq : 0 ≤ q ∧ q < 100000) : fR (pl I b q) (pl I' b q) := fun id k g => by
  rw [pl_rd hq, pl_rd hq, h id k g]
/-- places of all BITS are small -/
def rg (I : Nat → Nat → Int32) : Prop := ∀ d, d < 10 → (-1000 ≤ rd I 178 d ∧ rd I 178 d ≤ 1000) ∧ -1000 ≤ rd I 179 d ∧ rd I 179 d ≤ 1000
theorem rg_cg {I I' : Nat → Nat → Int32} (h : rg I) (h1 : ∀ k, rd I' 178 k = rd I 178 k) (h2 : ∀ k, rd I' 179 k = rd I 179 k) : rg I' := fun d hd => by rw [h1, h2]; exact h d hd
theorem rg_3 {I I' : Nat → Nat → Int32} (h : rg I) (hx : fq S3 I I') : rg I' := rg_cg h (fun k => hx _ _ (by unfold S3; omega)) (fun k => hx _ _ (by unfold S3; omega))
theorem rg_put {I I' : Nat → Nat → Int32} {a : Nat} {R C v : Int} (h : rg I') (hr : -1000 ≤ R ∧ R ≤ 1000) (hc : -1000 ≤ C ∧ C ≤ 1000) : rg (wr (wr (wr I' 178 a R) 179 a C) 177 a v) := fun d hd => by
  have e1 : rd (wr (wr (wr I' 178 a R) 179 a C) 177 a v) 178 d = if 178 = 178 ∧ d = a then R else rd I' 178 d := by rw [rd_wr_row (by decide), rd_wr_row (by decide), rd_wr (by omega) (by omega)]
  have e2 : rd (wr (wr (wr I' 178 a R) 179 a C) 177 a v) 179 d = if 179 = 179 ∧ d = a then C else rd I' 179 d := by rw [rd_wr_row (by decide), rd_wr (by omega) (by omega), rd_wr_row (by decide)]
  rw [e1, e2]
  have := h d hd
  constructor
  · split <;> omega
  · split <;> omega
theorem rg_put2 {I' : Nat → Nat → Int32} {a : Nat} {R C : Int} (h : rg I') (hr : -1000 ≤ R ∧ R ≤ 1000) (hc : -1000 ≤ C ∧ C ≤ 1000) : rg (wr (wr I' 178 a R) 179 a C) := fun d hd => by
  have e1 : rd (wr (wr I' 178 a R) 179 a C) 178 d = if 178 = 178 ∧ d = a then R else rd I' 178 d := by rw [rd_wr_row (by decide), rd_wr (by omega) (by omega)]
  have e2 : rd (wr (wr I' 178 a R) 179 a C) 179 d = if 179 = 179 ∧ d = a then C else rd I' 179 d := by rw [rd_wr (by omega) (by omega), rd_wr_row (by decide)]
  rw [e1, e2]
  have := h d hd
  constructor
  · split <;> omega
  · split <;> omega
/-! the best of a set -/
def BS (bw bA bB : Int) (S : Int → Int → Prop) (w : Int → Int → Int) : Prop := -1 ≤ bw ∧ (bw = -1 → ∀ x y, ¬ S x y) ∧ (bw ≠ -1 → S bA bB ∧ w bA bB = bw ∧ ∀ x y, S x y → w x y < bw ∨ (w x y = bw ∧ (bA < x ∨ (bA = x ∧ bB ≤ y))))
abbrev btr (bw bA bB v x y : Int) : Prop := bw < v ∨ (v = bw ∧ (x < bA ∨ (x = bA ∧ y < bB)))
theorem BS_cg {bw bA bB : Int} {S S' : Int → Int → Prop} {w : Int → Int → Int} (h : BS bw bA bB S w) (hs : ∀ x y, S' x y ↔ S x y) : BS bw bA bB S' w := by
  have : S' = S := funext fun R => funext fun C => propext (hs R C)
  rw [this]; exact h
theorem BS_no {bw bA bB v x y : Int} {S : Int → Int → Prop} {w : Int → Int → Int} (h : BS bw bA bB S w) (hv : w x y = v) (v0 : 0 ≤ v) (hn : ¬ btr bw bA bB v x y) : BS bw bA bB (fun x' y' => S x' y' ∨ (x' = x ∧ y' = y)) w := by
  obtain ⟨h0, h1, h2⟩ := h
  have hb : bw ≠ -1 := fun e => hn (Or.inl (by omega))
  refine ⟨h0, fun e => absurd e hb, fun _ => ⟨Or.inl (h2 hb).1, (h2 hb).2.1, fun x' y' g => ?_⟩⟩
  rcases g with g | g
  · exact (h2 hb).2.2 x' y' g
  · rw [g.1, g.2, hv]
    have n1 : ¬ bw < v := fun q => hn (Or.inl q)
    by_cases q : v = bw
    · have n2 : ¬ (x < bA ∨ (x = bA ∧ y < bB)) := fun u => hn (Or.inr ⟨q, u⟩)
      right; omega
    · left; omega
theorem BS_yes {bw bA bB v x y : Int} {S : Int → Int → Prop} {w : Int → Int → Int} (h : BS bw bA bB S w) (hv : w x y = v) (v0 : 0 ≤ v) (hn : btr bw bA bB v x y) : BS v x y (fun x' y' => S x' y' ∨ (x' = x ∧ y' = y)) w := by
  obtain ⟨h0, h1, h2⟩ := h
  refine ⟨by omega, fun e => by omega, fun _ => ⟨Or.inr ⟨rfl, rfl⟩, hv, fun x' y' g => ?_⟩⟩
  rcases g with g | g
  · by_cases hb : bw = -1
    · exact absurd g (h1 hb x' y')
    · have q := (h2 hb).2.2 x' y' g
      rcases hn with u | ⟨u1, u2⟩
      · left; omega
      · omega
  · rw [g.1, g.2, hv]; omega
theorem BS_one {bw bA bB cw cA cB : Int} {S : Int → Int → Prop} {w : Int → Int → Int} (h : BS bw bA bB S w) (h' : BS cw cA cB S w) : bw = cw ∧ (bw ≠ -1 → bA = cA ∧ bB = cB) := by
  obtain ⟨h0, h1, h2⟩ := h
  obtain ⟨k0, k1, k2⟩ := h'
  by_cases e : bw = -1
  · by_cases f : cw = -1
    · exact ⟨by omega, fun g => absurd e g⟩
    · exact absurd (k2 f).1 (h1 e _ _)
  · by_cases f : cw = -1
    · exact absurd (h2 e).1 (k1 f _ _)
    · have a := (h2 e).2.2 _ _ (k2 f).1
      have b := (k2 f).2.2 _ _ (h2 e).1
      rw [(k2 f).2.1] at a
      rw [(h2 e).2.1] at b
      exact ⟨by omega, fun _ => by omega⟩
abbrev xx (a b p q : Int) : Int := if b = -1 ∨ a < b then p else q
abbrev yy (a b p q : Int) : Int := if b = -1 ∨ a < b then q else p
noncomputable def pBo (P : Prop) : Bool := @decide P (Classical.propDecidable P)
theorem pBo_t {P : Prop} (h : P) : pBo P = true := by unfold pBo; exact (@decide_eq_true_iff P (Classical.propDecidable P)).mpr h
theorem pBo_f {P : Prop} (h : ¬ P) : pBo P = false := by unfold pBo; exact (@decide_eq_false_iff_not P (Classical.propDecidable P)).mpr h
theorem pBo_iff {P : Prop} : pBo P = true ↔ P := by unfold pBo; exact @decide_eq_true_iff P (Classical.propDecidable P)
abbrev rmP (e ce : Nat → Int) (p : Int) : Prop := rmO e ce (p / 64 - 5) (p % 64 - 10)
abbrev tcP (e ce : Nat → Int) (p : Int) : Prop := tcB e ce (p / 64 - 5) (p % 64 - 10)
def fzA (M : Nat → Nat → Int32) (e : Nat → Int) (a wn : Nat) (p : Int) : Prop := nx p ∧ rmP e (rce M a) p ∧ tcP e (rce M a) p ∧ mL (pl M a p) wn
/-- touch: whether the first one touches one that lay -/
def fzB (M : Nat → Nat → Int32) (e : Nat → Int) (a b wn : Nat) (t1 : Prop) (q : Int) : Prop := nx q ∧ rmP e (rce M b) q ∧ (t1 ∨ tcP e (rce M b) q) ∧ ((t1 ∧ tcP e (rce M b) q) ∨ 0 < sdA (pl M b q) a b) ∧ mL (pl M b q) wn
def mT2 (I : Nat → Nat → Int32) (a b : Nat) (t o : Int) : Prop := (t = 2 ∧ o = 2) ∨ (¬ qrl I a b ∧ okL I 10 ∧ 0 < sdA I a b)
theorem mT2_R {I I' : Nat → Nat → Int32} (h : fR I I') (a b : Nat) (t o : Int) : mT2 I' a b t o ↔ mT2 I a b t o := by unfold mT2; rw [qrl_R h, okL_R h, sdA_R h]
