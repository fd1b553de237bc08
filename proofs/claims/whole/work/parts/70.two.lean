/-! two BITS more -/
theorem cA_sh (ce : Nat → Int) (R C y x : Int) : cA ce R C y x = cA ce 0 0 (y - R) (x - C) := by
  unfold cA
  simp only [Int.sub_zero]
theorem nb4_h4 (ce : Nat → Int) (R C y x : Int) : nb4 (cA ce R C) y x = h4I ce (y - R) (x - C) := by
  unfold nb4
  rw [cA_sh ce R C (y - 1) x, cA_sh ce R C (y + 1) x, cA_sh ce R C y (x - 1), cA_sh ce R C y (x + 1), show y - 1 - R = y - R - 1 by omega, show y + 1 - R = y - R + 1 by omega, show x - 1 - C = x - C - 1 by omega, show x + 1 - C = x - C + 1 by omega]
  rfl
theorem cell_j {I : Nat → Nat → Int32} {b n : Nat} {ce : Nat → Int} (g : RBc I b ce n) {R C y x : Int} : cA ce R C y x ≠ 95 ↔ ∃ j, j < n ∧ y = R + rd I (bI b 2) j ∧ x = C + rd I (bI b 3) j := by
  constructor
  · intro h
    obtain ⟨h1, h2, h3, h4, h5⟩ := cA_ne h
    obtain ⟨j, hj, e⟩ := g.2.2.2.2 (10 * (y - R) + (x - C)).toNat (by omega) h5
    obtain ⟨r, c, q1, q2, q3, q4, q5, q6⟩ := cp_rc g hj
    exact ⟨j, hj, by omega, by omega⟩
  · rintro ⟨j, hj, e1, e2⟩
    obtain ⟨r, c, q1, q2, q3, q4, q5, q6⟩ := cp_rc g hj
    have k := cA_at (ce := ce) (R := R) (C := C) q6
    rw [q5, show (10 * r + c) / 10 = r by omega, show (10 * r + c) % 10 = c by omega, ← q5] at k
    rw [e1, e2, q3, q4, k]
    exact (g.2.2.1 j hj).2.2.2.2
theorem ovl_iff {I : Nat → Nat → Int32} {b n : Nat} {ca cb : Nat → Int} (g : RBc I b cb n) {R1 C1 R2 C2 : Int} : ovl I ca b n (R2 - R1) (C2 - C1) ↔ ∃ y x, cA cb R2 C2 y x ≠ 95 ∧ cA ca R1 C1 y x ≠ 95 := by
  unfold ovl
  constructor
  · rintro ⟨j, hj, h⟩
    refine ⟨_, _, (cell_j g).mpr ⟨j, hj, rfl, rfl⟩, ?_⟩
    rw [cA_sh, show R2 + rd I (bI b 2) j - R1 = rd I (bI b 2) j + (R2 - R1) by omega, show C2 + rd I (bI b 3) j - C1 = rd I (bI b 3) j + (C2 - C1) by omega]
    exact h
  · rintro ⟨y, x, h1, h2⟩
    obtain ⟨j, hj, e1, e2⟩ := (cell_j g).mp h1
    refine ⟨j, hj, ?_⟩
    rw [cA_sh, e1, e2, show R2 + rd I (bI b 2) j - R1 = rd I (bI b 2) j + (R2 - R1) by omega, show C2 + rd I (bI b 3) j - C1 = rd I (bI b 3) j + (C2 - C1) by omega] at h2
    exact h2
theorem hcI_o {ce : Nat → Int} {r c : Int} (g : ¬ (0 ≤ r ∧ r < 5 ∧ 0 ≤ c ∧ c < 10)) : hcI ce r c = 0 := by
  unfold hcI cA
  rw [if_neg (show ¬ (0 ≤ r - 0 ∧ r - 0 < 5 ∧ 0 ≤ c - 0 ∧ c - 0 < 10) by omega), if_neg (by decide)]
theorem csV_far {I : Nat → Nat → Int32} {b n : Nat} {ca cb : Nat → Int} (g : RBc I b cb n) {rs cs : Int} (h : ¬ ((-5 ≤ rs ∧ rs ≤ 5) ∧ -10 ≤ cs ∧ cs ≤ 10)) : csV I ca b n rs cs = 0 := by
  have k : ∀ j, j < n → 0 ≤ rd I (bI b 2) j ∧ rd I (bI b 2) j < 5 ∧ 0 ≤ rd I (bI b 3) j ∧ rd I (bI b 3) j < 10 := fun j hj => by
    have := g.2.2.1 j hj
    exact ⟨this.1, this.2.1, this.2.2.1, this.2.2.2.1⟩
  unfold csV
  rw [if_neg]
  · refine smN_z (fun j hj => ?_)
    have := k j hj
    show h4I ca (rd I (bI b 2) j + rs) (rd I (bI b 3) j + cs) = 0
    unfold h4I
    rw [hcI_o (by omega), hcI_o (by omega), hcI_o (by omega), hcI_o (by omega)]
    rfl
  · rintro ⟨j, hj, q⟩
    have := k j hj
    have w := cA_ne q
    omega
theorem wbC_sm (f g : Nat → Int) : ∀ n, wbC f g n = smN (fun j => if f j ≠ 0 ∧ g j ≠ 0 then 2 else 0) n
  | 0 => rfl
  | n + 1 => by rw [wbC, smN, wbC_sm f g n]
theorem tF_o {I : Nat → Nat → Int32} {u v : Nat} {n i : Int} (h : ¬ (0 ≤ i ∧ i < n)) : tF I u v n i = 0 := by
  unfold tF
  rw [if_neg (fun q => h ⟨q.1, q.2.1⟩)]
theorem waV_far {I : Nat → Nat → Int32} {a b : Nat} {sh : Int} (h : ¬ (-5 ≤ sh ∧ sh ≤ 5)) : waV I a b sh = 0 := by
  unfold waV
  rw [if_neg, wbC_sm]
  · refine smN_z (fun j hj => if_neg (fun q => q.2 (tF_o (by omega))))
  · rintro ⟨j, hj, q⟩
    exact q.2.1 (tF_o (by omega))
theorem wdV_far {I : Nat → Nat → Int32} {a b : Nat} {sh : Int} (h : ¬ (-10 ≤ sh ∧ sh ≤ 10)) : wdV I a b sh = 0 := by
  unfold wdV
  rw [if_neg, wbC_sm]
  · refine smN_z (fun j hj => if_neg (fun q => q.2 (tF_o (by omega))))
  · rintro ⟨j, hj, q⟩
    exact q.2.1 (tF_o (by omega))
theorem pl_sum {ta tb : Int → Int} {R1 R2 : Int} {M N : Nat} (hR : -1000 ≤ R1 ∧ R1 ≤ 1000) (hN : N ≤ 100) (hM : M ≤ 100) (ha : ∀ i, ta i ≠ 0 → (0 ≤ i ∧ i < M) ∧ 0 ≤ R1 + i ∧ R1 + i < N) (hnq : ∀ y : Nat, y < N → ¬ qrP (ta ((y : Int) - R1)) (tb ((y : Int) - R2))) : wbC (fun j => ta ((j : Nat) : Int)) (fun j => tb (((j : Nat) : Int) - (R2 - R1))) M = smN (fun y => wP (ta (((y : Nat) : Int) - R1)) (tb (((y : Nat) : Int) - R2))) N := by
  rw [wbC_sm]
  have e1 : smN (fun j => if ta ((j : Nat) : Int) ≠ 0 ∧ tb (((j : Nat) : Int) - (R2 - R1)) ≠ 0 then (2 : Int) else 0) M = smN (fun j => (fun v : Int => if ta (v - R1) ≠ 0 ∧ tb (v - R2) ≠ 0 then (2 : Int) else 0) (R1 + ((j : Nat) : Int))) M := smN_cg (fun j _ => by
    show (if ta (j : Int) ≠ 0 ∧ tb ((j : Int) - (R2 - R1)) ≠ 0 then (2 : Int) else 0) = if ta (R1 + (j : Int) - R1) ≠ 0 ∧ tb (R1 + (j : Int) - R2) ≠ 0 then (2 : Int) else 0
    rw [show R1 + (j : Int) - R1 = j by omega, show R1 + (j : Int) - R2 = (j : Int) - (R2 - R1) by omega])
  rw [e1, sI_two (h := fun v : Int => if ta (v - R1) ≠ 0 ∧ tb (v - R2) ≠ 0 then (2 : Int) else 0) (a := R1) (b := 0) (n := M) (m := N) (by omega) (by omega) (fun v hv => if_neg (fun u => hv (by have := ha _ u.1; omega))) (fun v hv => if_neg (fun u => hv (by have := ha _ u.1; omega))), sI_0 (h := fun v : Int => if ta (v - R1) ≠ 0 ∧ tb (v - R2) ≠ 0 then (2 : Int) else 0)]
  refine smN_cg (fun y hy => ?_)
  show (if ta ((y : Int) - R1) ≠ 0 ∧ tb ((y : Int) - R2) ≠ 0 then (2 : Int) else 0) = wP (ta ((y : Int) - R1)) (tb ((y : Int) - R2))
  rw [wP_u (hnq y hy)]
  by_cases g : ta ((y : Int) - R1) = 0
  · rw [if_neg (fun u => u.1 g), if_neg (fun u => u g)]; simp
  · by_cases f : tb ((y : Int) - R2) = 0
    · rw [if_neg (fun u => u.2 f), if_neg (show ¬ tb ((y : Int) - R2) ≠ 0 from fun u => u f)]; simp
    · rw [if_pos ⟨g, f⟩, if_pos g, if_pos f]; rfl
theorem pl_q {ta tb : Int → Int} {R1 R2 : Int} {M N : Nat} (ha : ∀ i, ta i ≠ 0 → (0 ≤ i ∧ i < M) ∧ 0 ≤ R1 + i ∧ R1 + i < N) : (∃ j : Nat, j < M ∧ qrP (ta (j : Int)) (tb ((j : Int) - (R2 - R1)))) ↔ ∃ y : Nat, y < N ∧ qrP (ta ((y : Int) - R1)) (tb ((y : Int) - R2)) := by
  constructor
  · rintro ⟨j, hj, q⟩
    have := ha _ q.1
    refine ⟨(R1 + j).toNat, by omega, ?_⟩
    rw [show (((R1 + (j : Int)).toNat : Nat) : Int) = R1 + j by omega, show R1 + (j : Int) - R1 = j by omega, show R1 + (j : Int) - R2 = (j : Int) - (R2 - R1) by omega]
    exact q
  · rintro ⟨y, hy, q⟩
    have := ha _ q.1
    refine ⟨((y : Int) - R1).toNat, by omega, ?_⟩
    rw [show ((((y : Int) - R1).toNat : Nat) : Int) = (y : Int) - R1 by omega, show (y : Int) - R1 - (R2 - R1) = (y : Int) - R2 by omega]
    exact q
theorem tA_in {I : Nat → Nat → Int32} {q : Nat} {R C : Int} (hr : ∀ y x : Int, cA (rce I q) R C y x ≠ 95 → inS y x) (i : Int) (h : tA I q i ≠ 0) : (0 ≤ i ∧ i < (5 : Nat)) ∧ 0 ≤ R + i ∧ R + i < (16 : Nat) := by
  unfold tA at h
  by_cases g : 0 ≤ i ∧ i < 5 ∧ rowH (rce I q) i.toNat
  · obtain ⟨g1, g2, c, c1, c2⟩ := g
    have k := cA_at (ce := rce I q) (R := R) (C := C) (k := 10 * i.toNat + c) (by omega)
    rw [show (10 * i.toNat + c) / 10 = i.toNat by omega, show (10 * i.toNat + c) % 10 = c by omega] at k
    have t : 0 ≤ R + (i.toNat : Int) ∧ R + (i.toNat : Int) < 16 ∧ 0 ≤ C + (c : Int) ∧ C + (c : Int) < 32 := hr _ _ (by rw [k]; exact c2)
    exact ⟨⟨g1, by omega⟩, by omega, by omega⟩
  · rw [if_neg g] at h; exact absurd rfl h
theorem tD_in {I : Nat → Nat → Int32} {q : Nat} {R C : Int} (hr : ∀ y x : Int, cA (rce I q) R C y x ≠ 95 → inS y x) (i : Int) (h : tD I q i ≠ 0) : (0 ≤ i ∧ i < (10 : Nat)) ∧ 0 ≤ C + i ∧ C + i < (32 : Nat) := by
  unfold tD at h
  by_cases g : 0 ≤ i ∧ i < 10 ∧ colH (rce I q) i.toNat
  · obtain ⟨g1, g2, r, c1, c2⟩ := g
    have k := cA_at (ce := rce I q) (R := R) (C := C) (k := 10 * r + i.toNat) (by omega)
    rw [show (10 * r + i.toNat) / 10 = r by omega, show (10 * r + i.toNat) % 10 = i.toNat by omega] at k
    have t : 0 ≤ R + (r : Int) ∧ R + (r : Int) < 16 ∧ 0 ≤ C + (i.toNat : Int) ∧ C + (i.toNat : Int) < 32 := hr _ _ (by rw [k]; exact c2)
    exact ⟨⟨g1, by omega⟩, by omega, by omega⟩
  · rw [if_neg g] at h; exact absurd rfl h
section TB
variable {I : Nat → Nat → Int32} {a b n1 n2 wn : Nat} {p q : Int}
theorem pl_comm (ne : a ≠ b) (hp : pb0 p) (hq : pb0 q) : pl (pl I a p) b q = pl (pl I b q) a p := rd_ext fun id k => by
  rw [pl_rd hq, pl_rd hp, pl_rd hp, pl_rd hq]
  by_cases e : k = a
  · have f : k ≠ b := by omega
    rw [if_neg (fun u => f u.2), if_neg (fun u => f u.2), if_neg (fun u => f u.2), if_neg (show ¬ (id = 179 ∧ k = b) from fun u => f u.2), if_neg (show ¬ (id = 178 ∧ k = b) from fun u => f u.2), if_neg (show ¬ (id = 177 ∧ k = b) from fun u => f u.2)]
  · rw [if_neg (show ¬ (id = 179 ∧ k = a) from fun u => e u.2), if_neg (show ¬ (id = 178 ∧ k = a) from fun u => e u.2), if_neg (show ¬ (id = 177 ∧ k = a) from fun u => e u.2), if_neg (show ¬ (id = 179 ∧ k = a) from fun u => e u.2), if_neg (show ¬ (id = 178 ∧ k = a) from fun u => e u.2), if_neg (show ¬ (id = 177 ∧ k = a) from fun u => e u.2)]
/-- BIT b in the sheet with a too -/
theorem t2_b (hp : pb0 p) (hq : pb0 q) (y : Int) : rTa (pl (pl I a p) b q) b y = tA I b (y - plR q) ∧ rTd (pl (pl I a p) b q) b y = tD I b (y - plC q) := by
  rw [rTa_plq hq, rTd_plq hq, tA_pl hp, tD_pl hp]
  exact ⟨rfl, rfl⟩
theorem t2_a (ne : a ≠ b) (hp : pb0 p) (hq : pb0 q) (y : Int) : rTa (pl (pl I a p) b q) a y = tA I a (y - plR p) ∧ rTd (pl (pl I a p) b q) a y = tD I a (y - plC p) := by
  rw [rTa_pl hq ne, rTd_pl hq ne, rTa_plq hp, rTd_plq hp]
  exact ⟨rfl, rfl⟩
theorem q2_c (ne : a ≠ b) (hp : pb0 p) (hq : pb0 q) {c : Nat} (ca : c ≠ a) (cb : c ≠ b) : qrl (pl (pl I a p) b q) b c ↔ qrl (pl I b q) b c := by
  unfold qrl
  simp only [(t2_b hp hq _).1, (t2_b hp hq _).2, rTa_pl hq cb, rTd_pl hq cb, rTa_pl hp ca, rTd_pl hp ca, rTa_plq hq, rTd_plq hq]
theorem rm_2 (ne : a ≠ b) (hp : pb0 p) (ha : a < 10) (a0 : ¬ lyB I a) (hok : okL (pl I a p) 10) : rmL (pl I a p) (rce (pl I a p) b) (plR q) (plC q) ↔ rmL I (rce I b) (plR q) (plC q) ∧ ¬ ∃ y x, cA (rce I b) (plR q) (plC q) y x ≠ 95 ∧ cA (rce I a) (plR p) (plC p) y x ≠ 95 := by
  unfold rmL
  rw [rce_pl hp]
  constructor
  · intro h
    refine ⟨fun y x u => ?_, fun ⟨y, x, u, v⟩ => ?_⟩
    · have t := h y x u
      rw [lO_pl hp ha a0 hok] at t
      by_cases g : cA (rce I a) (plR p) (plC p) y x ≠ 95
      · rw [if_pos g] at t; omega
      · rw [if_neg g] at t; exact t
    · have t := (h y x u).2
      rw [lO_pl hp ha a0 hok, if_pos v] at t; omega
  · rintro ⟨h, g⟩ y x u
    rw [lO_pl hp ha a0 hok, if_neg (fun v => g ⟨y, x, u, v⟩)]
    exact h y x u
/-- the sides, and the fibres, of the two -/
theorem sd_2 (ne : a ≠ b) (hp : pb0 p) (hq : pb0 q) (ha : a < 10) (hb : b < 10) (hB : Hb I b n2) (hR : -1000 ≤ plR q ∧ plR q ≤ 1000) (hC : -1000 ≤ plC q ∧ plC q ≤ 1000) (hok : okL (pl (pl I a p) b q) 10) (ho : ¬ ovl I (rce I a) b n2 (plR q - plR p) (plC q - plC p)) : sdA (pl (pl I a p) b q) b a = csV I (rce I a) b n2 (plR q - plR p) (plC q - plC p) := by
  have la : lyB (pl (pl I a p) b q) a := (ly_pl hq ne).mpr (ly_plq hp)
  rw [sdA_nb hok hb ha (ly_plq hq) la, nbS_cg (A' := cA (rce I a) (plR p) (plC p)) (B' := cA (rce I b) (plR q) (plC q)) (fun y x => by rw [rcA_pl hq ne, rcA_plq hp]) (fun y x => by rw [rcA_plq hq, rce_pl hp])]
  unfold nbS csV
  rw [if_neg ho, S2_cells hB.1.2.2.1 hR hC (fun y x u => ?_)]
  · refine smN_cg (fun j _ => ?_)
    show nb4 (cA (rce I a) (plR p) (plC p)) (plR q + rd I (bI b 2) j) (plC q + rd I (bI b 3) j) = _
    rw [nb4_h4, show plR q + rd I (bI b 2) j - plR p = rd I (bI b 2) j + (plR q - plR p) by omega, show plC q + rd I (bI b 3) j - plC p = rd I (bI b 3) j + (plC q - plC p) by omega]
  · have t := (hok b hb (ly_plq hq) y x (by rw [rcA_plq hq, rce_pl hp]; exact u)).1
    exact t
theorem wq_iff (ne : a ≠ b) (hp : pb0 p) (hq : pb0 q) (hA : Hb I a n1) (hB : Hb I b n2) (hr : ∀ y x : Int, cA (rce I a) (plR p) (plC p) y x ≠ 95 → inS y x) : (wqA I a b (plR q - plR p) ∨ wqD I a b (plC q - plC p)) ↔ qrl (pl (pl I a p) b q) a b := by
  unfold wqA wqD qrl
  simp only [tF_tA hA, tF_tA hB, tF_tD hA, tF_tD hB, (t2_a ne hp hq _).1, (t2_a ne hp hq _).2, (t2_b hp hq _).1, (t2_b hp hq _).2]
  rw [← pl_q (ta := tA I a) (tb := tA I b) (R1 := plR p) (R2 := plR q) (M := 5) (N := 16) (tA_in hr), ← pl_q (ta := tD I a) (tb := tD I b) (R1 := plC p) (R2 := plC q) (M := 10) (N := 32) (tD_in hr)]
theorem wq_val (hA : Hb I a n1) (hB : Hb I b n2) {rs cs : Int} : (waV I a b rs = -1 ↔ wqA I a b rs) ∧ (wdV I a b cs = -1 ↔ wqD I a b cs) := by
  constructor
  · unfold waV
    by_cases g : wqA I a b rs
    · rw [if_pos g]; exact ⟨fun _ => g, fun _ => rfl⟩
    · rw [if_neg g]
      have := wbC_bd (fun j : Nat => tF I (bI a 7) (bI a 8) 5 (j : Int)) (fun j : Nat => tF I (bI b 7) (bI b 8) 5 ((j : Int) - rs)) 5
      exact ⟨fun u => by omega, fun u => absurd u g⟩
  · unfold wdV
    by_cases g : wqD I a b cs
    · rw [if_pos g]; exact ⟨fun _ => g, fun _ => rfl⟩
    · rw [if_neg g]
      have := wbC_bd (fun j : Nat => tF I (bI a 10) (bI a 11) 10 (j : Int)) (fun j : Nat => tF I (bI b 10) (bI b 11) 10 ((j : Int) - cs)) 10
      exact ⟨fun u => by omega, fun u => absurd u g⟩
theorem cs_val {rs cs : Int} {ce : Nat → Int} (hn : n2 ≤ 50) : csV I ce b n2 rs cs = -1 ↔ ovl I ce b n2 rs cs := by
  unfold csV
  by_cases g : ovl I ce b n2 rs cs
  · rw [if_pos g]; exact ⟨fun _ => g, fun _ => rfl⟩
  · rw [if_neg g]
    have := smN_bd (f := fun j => h4I ce (rd I (bI b 2) j + rs) (rd I (bI b 3) j + cs)) (m := 4) n2 (fun j _ => h4I_bd _ _ _)
    exact ⟨fun u => by omega, fun u => absurd u g⟩
theorem fb_2 (ne : a ≠ b) (hp : pb0 p) (hq : pb0 q) (hA : Hb I a n1) (hB : Hb I b n2) (hR : -1000 ≤ plR p ∧ plR p ≤ 1000) (hC : -1000 ≤ plC p ∧ plC p ≤ 1000) (hr : ∀ y x : Int, cA (rce I a) (plR p) (plC p) y x ≠ 95 → inS y x) (hnq : ¬ qrl (pl (pl I a p) b q) a b) : fbA (pl (pl I a p) b q) a b = waV I a b (plR q - plR p) + wdV I a b (plC q - plC p) := by
  have w := wq_iff (p := p) (q := q) ne hp hq hA hB hr
  have w1 : ¬ wqA I a b (plR q - plR p) := fun u => hnq (w.mp (Or.inl u))
  have w2 : ¬ wqD I a b (plC q - plC p) := fun u => hnq (w.mp (Or.inr u))
  unfold fbA waV wdV
  rw [if_neg w1, if_neg w2]
  simp only [tF_tA hA, tF_tA hB, tF_tD hA, tF_tD hB, (t2_a ne hp hq _).1, (t2_a ne hp hq _).2, (t2_b hp hq _).1, (t2_b hp hq _).2]
  rw [pl_sum (ta := tA I a) (tb := tA I b) (R1 := plR p) (R2 := plR q) (M := 5) (N := 16) hR (by decide) (by decide) (tA_in hr) (fun y hy u => hnq (Or.inl ⟨y, hy, by rw [(t2_a ne hp hq _).1, (t2_b hp hq _).1]; exact u⟩)), pl_sum (ta := tD I a) (tb := tD I b) (R1 := plC p) (R2 := plC q) (M := 10) (N := 32) hC (by decide) (by decide) (tD_in hr) (fun y hy u => hnq (Or.inr ⟨y, hy, by rw [(t2_a ne hp hq _).2, (t2_b hp hq _).2]; exact u⟩))]
/-- the gain of two -/
theorem gn_2 (ne : a ≠ b) (hp : pb0 p) (hq : pb0 q) (ha : a < 10) (hb : b < 10) (a0 : ¬ lyB I a) (b0 : ¬ lyB I b) (hok : okL (pl (pl I a p) b q) 10) (hok1 : okL (pl I b q) 10) : gnR (pl (pl I a p) b q) b = gnR (pl I b q) b + pwA (pl (pl I a p) b q) b a := by
  unfold gnR
  have e : ∀ c, c < 10 → (if c = b then 0 else pwA (pl (pl I a p) b q) b c) = (if c = b then 0 else pwA (pl I b q) b c) + (if c = a then pwA (pl (pl I a p) b q) b a else 0) := fun c hc => by
    by_cases f : c = b
    · rw [if_pos f, if_pos f, if_neg (by omega)]; rfl
    · rw [if_neg f, if_neg f]
      by_cases g : c = a
      · rw [if_pos g, g]
        have z : pwA (pl I b q) b a = 0 := if_neg (fun u => a0 ((ly_pl hq ne).mp u.2))
        rw [z]; omega
      · rw [if_neg g, Int.add_zero]
        unfold pwA
        by_cases lc : lyB I c
        · have l1 : lyB (pl (pl I a p) b q) c := (ly_pl hq f).mpr ((ly_pl hp g).mpr lc)
          have l2 : lyB (pl I b q) c := (ly_pl hq f).mpr lc
          rw [if_pos ⟨ly_plq hq, l1⟩, if_pos ⟨ly_plq hq, l2⟩, sdA_nb hok hb hc (ly_plq hq) l1, sdA_nb hok1 hb hc (ly_plq hq) l2, nbS_cg (A' := rcA (pl I b q) c) (B' := rcA (pl I b q) b) (fun y x => by rw [rcA_pl hq f, rcA_pl hp g, rcA_pl hq f]) (fun y x => by rw [rcA_plq hq, rcA_plq hq, rce_pl hp])]
          unfold fbA
          simp only [(t2_b hp hq _).1, (t2_b hp hq _).2, rTa_pl hq f, rTd_pl hq f, rTa_pl hp g, rTd_pl hp g, rTa_plq hq, rTd_plq hq]
        · rw [if_neg (fun u => lc ((ly_pl hp g).mp ((ly_pl hq f).mp u.2))), if_neg (fun u => lc ((ly_pl hq f).mp u.2))]
  rw [smN_cg e, smN_pl, smN_one (f := fun c => if c = a then pwA (pl (pl I a p) b q) b a else 0) ha (fun j _ hj => if_neg hj), if_pos rfl]
end TB
