/-! class and reference say the same -/
def tapR (I : Nat → Nat → Int32) : Prop := ∃ t : Nat, t ≤ 200 ∧ rd I 1 1 = t ∧ rd I 171 1 = t ∧ ∀ k, k < t → rd I 2 k = rd I 172 k
def hoR (I : Nat → Nat → Int32) (q : Nat) : Prop := rd I (bI q 0) 12 = rd I 180 q ∧ (0 ≤ rd I 180 q ∧ rd I 180 q ≤ 6) ∧ (∀ k : Nat, (k : Int) < rd I 180 q → rd I (bI q 12) k = rd I 181 (6 * q + k) ∧ 0 ≤ rd I 181 (6 * q + k) ∧ rd I 181 (6 * q + k) ≤ 2000) ∧ ∀ i j : Nat, i < j → (j : Int) < rd I 180 q → rd I 181 (6 * q + i) < rd I 181 (6 * q + j)
def lyR (I : Nat → Nat → Int32) (q : Nat) : Prop := rd I (bI q 0) 13 = rd I 177 q ∧ ((-1000 ≤ rd I (bI q 0) 14 ∧ rd I (bI q 0) 14 ≤ 1000) ∧ -1000 ≤ rd I (bI q 0) 15 ∧ rd I (bI q 0) 15 ≤ 1000) ∧ (lyB I q → rd I 173 q ≠ 0 ∧ (rd I (bI q 0) 14 = rd I 178 q ∧ rd I (bI q 0) 15 = rd I 179 q) ∧ -5 < rd I 178 q ∧ rd I 178 q < 16 ∧ -10 < rd I 179 q ∧ rd I 179 q < 32)
def ceR (I : Nat → Nat → Int32) (q : Nat) : Prop := rd I (bI q 0) 0 = q ∧ (rd I (bI q 0) 4 ≠ 0 ↔ rd I 173 q ≠ 0) ∧ (rd I 173 q ≠ 0 → RB I q (rce I q)) ∧ (∀ i : Nat, i < 5 → rd I (bI q 7) i = rd I 175 (5 * q + i)) ∧ ∀ i : Nat, i < 10 → rd I (bI q 10) i = rd I 176 (10 * q + i)
def rolR (I : Nat → Nat → Int32) : Prop := ∃ c : Nat, c ≤ 40 ∧ rd I 167 1 = c ∧ rd I 171 25 = c ∧ (∀ k, k < c → rd I 168 k = rd I 188 k ∧ 0 ≤ rd I 188 k ∧ rd I 188 k ≤ 1000000) ∧ ∀ i j, i < j → j < c → rd I 188 i < rd I 188 j
def txtR (I : Nat → Nat → Int32) : Prop := ∃ n : Nat, n ≤ 200 ∧ rd I 169 1 = n ∧ rd I 171 28 = n ∧ ∀ k, k < n → rd I 170 k = rd I 189 k
def lyN (I : Nat → Nat → Int32) : Prop := rd I 142 4 = smN (fun b => if lyB I b then 1 else 0) 10
def Inv (I : Nat → Nat → Int32) (J : Nat → Nat → Int64) : Prop := tapR I ∧ (∀ q, q < 10 → ceR I q ∧ lyR I q ∧ hoR I q) ∧ rg I ∧ rolR I ∧ txtR I ∧ (∃ wn, wRL I J wn) ∧ Hs I ∧ lyN I
/-! frames -/
theorem tapR_fr {I I' : Nat → Nat → Int32} (h : tapR I) (h1 : rd I' 1 1 = rd I 1 1) (h2 : rd I' 171 1 = rd I 171 1) (h3 : ∀ k, rd I' 2 k = rd I 2 k) (h4 : ∀ k, rd I' 172 k = rd I 172 k) : tapR I' := by
  obtain ⟨t, a, b, c, d⟩ := h
  exact ⟨t, a, by rw [h1, b], by rw [h2, c], fun k hk => by rw [h3, h4, d k hk]⟩
theorem hoR_fr {I I' : Nat → Nat → Int32} {q : Nat} (h : hoR I q) (h1 : rd I' (bI q 0) 12 = rd I (bI q 0) 12) (h2 : rd I' 180 q = rd I 180 q) (h3 : ∀ k, rd I' (bI q 12) k = rd I (bI q 12) k) (h4 : ∀ k, k < 6 → rd I' 181 (6 * q + k) = rd I 181 (6 * q + k)) : hoR I' q := by
  obtain ⟨a, b, c, d⟩ := h
  refine ⟨by rw [h1, h2, a], by rw [h2]; exact b, fun k hk => ?_, fun i j hij hj => ?_⟩
  · rw [h2] at hk
    rw [h3, h4 k (by omega)]; exact c k hk
  · rw [h2] at hj
    rw [h4 i (by omega), h4 j (by omega)]; exact d i j hij hj
theorem lyR_fr {I I' : Nat → Nat → Int32} {q : Nat} (h : lyR I q) (h1 : ∀ k, 13 ≤ k → k ≤ 15 → rd I' (bI q 0) k = rd I (bI q 0) k) (h2 : rd I' 177 q = rd I 177 q) (h3 : rd I' 173 q = rd I 173 q) (h4 : lyB I q → rd I' 178 q = rd I 178 q ∧ rd I' 179 q = rd I 179 q) : lyR I' q := by
  obtain ⟨a, b, c⟩ := h
  refine ⟨by rw [h1 13 (by omega) (by omega), h2, a], by rw [h1 14 (by omega) (by omega), h1 15 (by omega) (by omega)]; exact b, fun l => ?_⟩
  have l2 : lyB I q := by unfold lyB at *; rw [h2] at l; exact l
  rw [h1 14 (by omega) (by omega), h1 15 (by omega) (by omega), h3, (h4 l2).1, (h4 l2).2]
  exact c l2
theorem RB_fr {I I' : Nat → Nat → Int32} {q : Nat} {ce : Nat → Int} (h : RB I q ce) (h0 : ∀ k, k = 4 ∨ k = 7 ∨ k = 8 → rd I' (bI q 0) k = rd I (bI q 0) k) (h1 : ∀ r k, r = 1 ∨ r = 2 ∨ r = 3 ∨ r = 4 ∨ r = 5 ∨ r = 8 ∨ r = 11 → rd I' (bI q r) k = rd I (bI q r) k) : RB I' q ce := by
  obtain ⟨a, b, n, c, d, e⟩ := h
  have hc : ∀ j, cp I' q j = cp I q j := fun j => by unfold cp; rw [h1 2 _ (by omega), h1 3 _ (by omega)]
  refine ⟨fun k hk => by rw [h1 1 _ (by omega)]; exact a k hk, b, n, RBc_fr c (h0 4 (by omega)) (fun k => h1 2 k (by omega)) (fun k => h1 3 k (by omega)), ?_, ?_⟩
  · unfold RBt at *
    simp only [h0 7 (by omega), h0 8 (by omega), h1 3 _ (show 3 = 1 ∨ 3 = 2 ∨ 3 = 3 ∨ 3 = 4 ∨ 3 = 5 ∨ 3 = 8 ∨ 3 = 11 by omega), hc]
    exact d
  · unfold RBe at *
    simp only [h1 4 _ (show 4 = 1 ∨ 4 = 2 ∨ 4 = 3 ∨ 4 = 4 ∨ 4 = 5 ∨ 4 = 8 ∨ 4 = 11 by omega), h1 5 _ (show 5 = 1 ∨ 5 = 2 ∨ 5 = 3 ∨ 5 = 4 ∨ 5 = 5 ∨ 5 = 8 ∨ 5 = 11 by omega), h1 8 _ (show 8 = 1 ∨ 8 = 2 ∨ 8 = 3 ∨ 8 = 4 ∨ 8 = 5 ∨ 8 = 8 ∨ 8 = 11 by omega), h1 11 _ (show 11 = 1 ∨ 11 = 2 ∨ 11 = 3 ∨ 11 = 4 ∨ 11 = 5 ∨ 11 = 8 ∨ 11 = 11 by omega)]
    exact e
theorem ceR_fr {I I' : Nat → Nat → Int32} {q : Nat} (h : ceR I q) (h0 : ∀ k, k < 12 → rd I' (bI q 0) k = rd I (bI q 0) k) (h1 : ∀ r k, 1 ≤ r → r < 12 → rd I' (bI q r) k = rd I (bI q r) k) (h2 : rd I' 173 q = rd I 173 q) (h3 : ∀ k, rd I' 174 k = rd I 174 k) (h4 : ∀ k, rd I' 175 k = rd I 175 k) (h5 : ∀ k, rd I' 176 k = rd I 176 k) : ceR I' q := by
  obtain ⟨a, b, c, d, e⟩ := h
  have hce : rce I' q = rce I q := funext fun k => h3 _
  refine ⟨by rw [h0 0 (by omega), a], by rw [h0 4 (by omega), h2, b], fun u => ?_, fun i hi => by rw [h1 7 _ (by omega) (by omega), h4]; exact d i hi, fun i hi => by rw [h1 10 _ (by omega) (by omega), h5]; exact e i hi⟩
  rw [hce]
  exact RB_fr (c (by rw [← h2]; exact u)) (fun k hk => h0 k (by omega)) (fun r k hr => h1 r k (by omega) (by omega))
theorem rolR_fr {I I' : Nat → Nat → Int32} (h : rolR I) (h1 : rd I' 167 1 = rd I 167 1) (h2 : rd I' 171 25 = rd I 171 25) (h3 : ∀ k, rd I' 168 k = rd I 168 k) (h4 : ∀ k, rd I' 188 k = rd I 188 k) : rolR I' := by
  obtain ⟨t, a, b, c, d, e⟩ := h
  exact ⟨t, a, by rw [h1, b], by rw [h2, c], fun k hk => by rw [h3, h4]; exact d k hk, fun i j hij hj => by rw [h4, h4]; exact e i j hij hj⟩
theorem txtR_fr {I I' : Nat → Nat → Int32} (h : txtR I) (h1 : rd I' 169 1 = rd I 169 1) (h2 : rd I' 171 28 = rd I 171 28) (h3 : ∀ k, rd I' 170 k = rd I 170 k) (h4 : ∀ k, rd I' 189 k = rd I 189 k) : txtR I' := by
  obtain ⟨t, a, b, c, d⟩ := h
  exact ⟨t, a, by rw [h1, b], by rw [h2, c], fun k hk => by rw [h3, h4, d k hk]⟩
/-- as far as BITS that lie go -/
def fL (I I' : Nat → Nat → Int32) : Prop := (∀ b, b < 10 → rd I' 177 b = rd I 177 b) ∧ ∀ b, b < 10 → lyB I b → (∀ k, k < 50 → rd I' 174 (50 * b + k) = rd I 174 (50 * b + k)) ∧ (∀ k, k < 5 → rd I' 175 (5 * b + k) = rd I 175 (5 * b + k)) ∧ (∀ k, k < 10 → rd I' 176 (10 * b + k) = rd I 176 (10 * b + k)) ∧ rd I' 178 b = rd I 178 b ∧ rd I' 179 b = rd I 179 b
theorem cA_cg {ce ce' : Nat → Int} (h : ∀ k, k < 50 → ce k = ce' k) (R C y x : Int) : cA ce R C y x = cA ce' R C y x := by
  unfold cA
  by_cases g : 0 ≤ y - R ∧ y - R < 5 ∧ 0 ≤ x - C ∧ x - C < 10
  · rw [if_pos g, if_pos g, h _ (by omega)]
  · rw [if_neg g, if_neg g]
theorem rowH_cg {ce ce' : Nat → Int} (h : ∀ k, k < 50 → ce k = ce' k) {r : Nat} (hr : r < 5) : rowH ce r ↔ rowH ce' r := by
  constructor
  · rintro ⟨c, c1, c2⟩; exact ⟨c, c1, by rw [← h _ (by omega)]; exact c2⟩
  · rintro ⟨c, c1, c2⟩; exact ⟨c, c1, by rw [h _ (by omega)]; exact c2⟩
theorem colH_cg {ce ce' : Nat → Int} (h : ∀ k, k < 50 → ce k = ce' k) {c : Nat} (hc : c < 10) : colH ce c ↔ colH ce' c := by
  constructor
  · rintro ⟨r, c1, c2⟩; exact ⟨r, c1, by rw [← h _ (by omega)]; exact c2⟩
  · rintro ⟨r, c1, c2⟩; exact ⟨r, c1, by rw [h _ (by omega)]; exact c2⟩
theorem fL_ly {I I' : Nat → Nat → Int32} (h : fL I I') {b : Nat} (hb : b < 10) : lyB I' b ↔ lyB I b := by unfold lyB; rw [h.1 b hb]
theorem fL_ce {I I' : Nat → Nat → Int32} (h : fL I I') {b : Nat} (hb : b < 10) (lb : lyB I b) : ∀ k, k < 50 → rce I' b k = rce I b k := fun k hk => (h.2 b hb lb).1 k hk
theorem fL_rcA {I I' : Nat → Nat → Int32} (h : fL I I') {b : Nat} (hb : b < 10) (lb : lyB I b) (y x : Int) : rcA I' b y x = rcA I b y x := by
  unfold rcA
  rw [cA_cg (fL_ce h hb lb), (h.2 b hb lb).2.2.2.1, (h.2 b hb lb).2.2.2.2]
theorem fL_tA {I I' : Nat → Nat → Int32} (h : fL I I') {b : Nat} (hb : b < 10) (lb : lyB I b) (i : Int) : tA I' b i = tA I b i ∧ tD I' b i = tD I b i := by
  have e := fL_ce h hb lb
  constructor
  · unfold tA
    by_cases g : 0 ≤ i ∧ i < 5
    · by_cases u : rowH (rce I b) i.toNat
      · rw [if_pos ⟨g.1, g.2, (rowH_cg e (by omega)).mpr u⟩, if_pos ⟨g.1, g.2, u⟩, show (5 * (b : Int) + i).toNat = 5 * b + i.toNat by omega]
        exact (h.2 b hb lb).2.1 _ (by omega)
      · rw [if_neg (fun v => u ((rowH_cg e (by omega)).mp v.2.2)), if_neg (fun v => u v.2.2)]
    · rw [if_neg (fun v => g ⟨v.1, v.2.1⟩), if_neg (fun v => g ⟨v.1, v.2.1⟩)]
  · unfold tD
    by_cases g : 0 ≤ i ∧ i < 10
    · by_cases u : colH (rce I b) i.toNat
      · rw [if_pos ⟨g.1, g.2, (colH_cg e (by omega)).mpr u⟩, if_pos ⟨g.1, g.2, u⟩, show (10 * (b : Int) + i).toNat = 10 * b + i.toNat by omega]
        exact (h.2 b hb lb).2.2.1 _ (by omega)
      · rw [if_neg (fun v => u ((colH_cg e (by omega)).mp v.2.2)), if_neg (fun v => u v.2.2)]
    · rw [if_neg (fun v => g ⟨v.1, v.2.1⟩), if_neg (fun v => g ⟨v.1, v.2.1⟩)]
theorem fL_rT {I I' : Nat → Nat → Int32} (h : fL I I') {b : Nat} (hb : b < 10) (lb : lyB I b) (y : Int) : rTa I' b y = rTa I b y ∧ rTd I' b y = rTd I b y := by
  rw [rTa_tA, rTa_tA, rTd_tD, rTd_tD, (fL_tA h hb lb _).1, (fL_tA h hb lb _).2, (h.2 b hb lb).2.2.2.1, (h.2 b hb lb).2.2.2.2]
  exact ⟨rfl, rfl⟩
theorem fL_ls {I I' : Nat → Nat → Int32} (h : fL I I') (y x : Int) : ∀ n, n ≤ 10 → lsN I' n y x = lsN I n y x ∧ loN I' n y x = loN I n y x
  | 0, _ => ⟨rfl, rfl⟩
  | n + 1, hn => by
    have ih := fL_ls h y x n (by omega)
    have n10 : n < 10 := by omega
    unfold lsN loN
    by_cases l : lyB I n
    · have l' := (fL_ly h n10).mpr l
      rw [fL_rcA h n10 l]
      by_cases g : rcA I n y x ≠ 95
      · rw [if_pos ⟨l', g⟩, if_pos ⟨l, g⟩, if_pos ⟨l', g⟩, if_pos ⟨l, g⟩]; exact ⟨rfl, rfl⟩
      · rw [if_neg (fun u => g u.2), if_neg (fun u => g u.2), if_neg (fun u => g u.2), if_neg (fun u => g u.2)]; exact ih
    · have l' : ¬ lyB I' n := fun u => l ((fL_ly h n10).mp u)
      rw [if_neg (fun u => l' u.1), if_neg (fun u => l u.1), if_neg (fun u => l' u.1), if_neg (fun u => l u.1)]; exact ih
theorem Hs_fr {I I' : Nat → Nat → Int32} (h : Hs I) (hL : fL I I') (hc : ∀ id k, 143 ≤ id → id ≤ 150 → rd I' id k = rd I id k) : Hs I' := by
  obtain ⟨a, b, c, dA, dD⟩ := h
  refine ⟨fun q hq lq y x g => ?_, fun p q hpq hq lp lq u => ?_, fun y x => ?_, fun l hl => ?_, fun l hl => ?_⟩
  · have l2 := (fL_ly hL hq).mp lq
    rw [fL_rcA hL hq l2] at g
    have t := a q hq l2 y x g
    refine ⟨t.1, fun p hp lp => ?_⟩
    have hp10 : p < 10 := by omega
    have l3 := (fL_ly hL hp10).mp lp
    rw [fL_rcA hL hp10 l3]
    exact t.2 p hp l3
  · have hp10 : p < 10 := by omega
    have l2 := (fL_ly hL hp10).mp lp
    have l3 := (fL_ly hL hq).mp lq
    refine b p q hpq hq l2 l3 ?_
    unfold qrl at *
    simp only [(fL_rT hL hp10 l2 _).1, (fL_rT hL hp10 l2 _).2, (fL_rT hL hq l3 _).1, (fL_rT hL hq l3 _).2] at u
    exact u
  · rw [show lS I' y x = lS I y x from (fL_ls hL y x 10 (by omega)).1, show lO I' y x = lO I y x from (fL_ls hL y x 10 (by omega)).2]
    unfold sgAt owAt
    rw [hc 143 _ (by omega) (by omega), hc 144 _ (by omega) (by omega)]
    exact c y x
  · refine ⟨?_, fun q hq lq r => ?_⟩
    · rw [hc 147 _ (by omega) (by omega), (dA l hl).1]
      refine smN_cg (fun q hq => ?_)
      show (if lyB I q ∧ rTa I q (l : Int) ≠ 0 then (1 : Int) else 0) = if lyB I' q ∧ rTa I' q (l : Int) ≠ 0 then (1 : Int) else 0
      refine if_cg ⟨fun u => ⟨(fL_ly hL hq).mpr u.1, by rw [(fL_rT hL hq u.1 _).1]; exact u.2⟩, fun u => ?_⟩
      have l2 := (fL_ly hL hq).mp u.1
      exact ⟨l2, by rw [← (fL_rT hL hq l2 _).1]; exact u.2⟩
    · have l2 := (fL_ly hL hq).mp lq
      rw [(fL_rT hL hq l2 _).1] at r ⊢
      rw [hc 146 _ (by omega) (by omega)]
      exact (dA l hl).2 q hq l2 r
  · refine ⟨?_, fun q hq lq r => ?_⟩
    · rw [hc 150 _ (by omega) (by omega), (dD l hl).1]
      refine smN_cg (fun q hq => ?_)
      show (if lyB I q ∧ rTd I q (l : Int) ≠ 0 then (1 : Int) else 0) = if lyB I' q ∧ rTd I' q (l : Int) ≠ 0 then (1 : Int) else 0
      refine if_cg ⟨fun u => ⟨(fL_ly hL hq).mpr u.1, by rw [(fL_rT hL hq u.1 _).2]; exact u.2⟩, fun u => ?_⟩
      have l2 := (fL_ly hL hq).mp u.1
      exact ⟨l2, by rw [← (fL_rT hL hq l2 _).2]; exact u.2⟩
    · have l2 := (fL_ly hL hq).mp lq
      rw [(fL_rT hL hq l2 _).2] at r ⊢
      rw [hc 149 _ (by omega) (by omega)]
      exact (dD l hl).2 q hq l2 r
theorem lyN_fr {I I' : Nat → Nat → Int32} (h : lyN I) (h1 : rd I' 142 4 = rd I 142 4) (h2 : ∀ k, k < 10 → rd I' 177 k = rd I 177 k) : lyN I' := by
  unfold lyN at *
  rw [h1, h]
  refine smN_cg (fun b hb => ?_)
  show (if lyB I b then (1 : Int) else 0) = if lyB I' b then (1 : Int) else 0
  refine if_cg ?_
  unfold lyB
  rw [h2 b hb]
/-- cells that nothing is remembered in -/
def scr (I : Nat → Nat → Int32) (id k : Nat) : Prop := (151 ≤ id ∧ id ≤ 166) ∨ id = 182 ∨ id = 185 ∨ id = 186 ∨ id = 187 ∨ (id = 171 ∧ (17 ≤ k ∧ k ≤ 23 ∨ k = 27)) ∨ ((id = 178 ∨ id = 179) ∧ ¬ lyB I k)
theorem bI_sc {I : Nat → Nat → Int32} {q r k : Nat} (hq : q < 10) (hr : r < 13) : ¬ scr I (bI q r) k := by
  have := bI_mod hq hr
  unfold scr
  omega
theorem Inv_sc {I I' : Nat → Nat → Int32} {J J' : Nat → Nat → Int64} (h : Inv I J) (hx : ∀ id k, ¬ scr I id k → rd I' id k = rd I id k) (hj : ∀ id k, id ≠ 140 → id ≠ 141 → J' id k = J id k) (hr : rg I') : Inv I' J' := by
  obtain ⟨a, b, c, d, e, ⟨wn, f⟩, g, i⟩ := h
  have x1 : ∀ id k, ¬ (151 ≤ id ∧ id ≤ 166) → id ≠ 182 → id ≠ 185 → id ≠ 186 → id ≠ 187 → id ≠ 171 → id ≠ 178 → id ≠ 179 → rd I' id k = rd I id k := fun id k h1 h2 h3 h4 h5 h6 h7 h8 => hx id k (by unfold scr; omega)
  have x2 : ∀ k, ¬ (17 ≤ k ∧ k ≤ 23) → k ≠ 27 → rd I' 171 k = rd I 171 k := fun k h1 h2 => hx 171 k (by unfold scr; omega)
  have x3 : ∀ b, lyB I b → rd I' 178 b = rd I 178 b ∧ rd I' 179 b = rd I 179 b := fun b lb => ⟨hx 178 b (fun u => by rcases u with u | u | u | u | u | u | u <;> first | omega | exact u.2 lb), hx 179 b (fun u => by rcases u with u | u | u | u | u | u | u <;> first | omega | exact u.2 lb)⟩
  refine ⟨tapR_fr a (x1 _ _ (by omega) (by omega) (by omega) (by omega) (by omega) (by omega) (by omega) (by omega)) (x2 _ (by omega) (by omega)) (fun k => x1 _ _ (by omega) (by omega) (by omega) (by omega) (by omega) (by omega) (by omega) (by omega)) (fun k => x1 _ _ (by omega) (by omega) (by omega) (by omega) (by omega) (by omega) (by omega) (by omega)), fun q hq => ?_, hr, ?_, ?_, ⟨wn, ?_⟩, ?_, ?_⟩
  · have y : ∀ r k, r < 13 → rd I' (bI q r) k = rd I (bI q r) k := fun r k h => hx _ _ (bI_sc hq h)
    have z : ∀ id k, 173 ≤ id ∧ id ≤ 177 ∨ id = 180 ∨ id = 181 → rd I' id k = rd I id k := fun id k h => x1 id k (by omega) (by omega) (by omega) (by omega) (by omega) (by omega) (by omega) (by omega)
    obtain ⟨b1, b2, b3⟩ := b q hq
    exact ⟨ceR_fr b1 (fun k _ => y 0 k (by omega)) (fun r k _ h => y r k (by omega)) (z _ _ (by omega)) (fun k => z _ _ (by omega)) (fun k => z _ _ (by omega)) (fun k => z _ _ (by omega)), lyR_fr b2 (fun k _ _ => y 0 k (by omega)) (z _ _ (by omega)) (z _ _ (by omega)) (x3 q), hoR_fr b3 (y 0 _ (by omega)) (z _ _ (by omega)) (fun k => y 12 k (by omega)) (fun k _ => z _ _ (by omega))⟩
  · exact rolR_fr d (x1 _ _ (by omega) (by omega) (by omega) (by omega) (by omega) (by omega) (by omega) (by omega)) (x2 _ (by omega) (by omega)) (fun k => x1 _ _ (by omega) (by omega) (by omega) (by omega) (by omega) (by omega) (by omega) (by omega)) (fun k => x1 _ _ (by omega) (by omega) (by omega) (by omega) (by omega) (by omega) (by omega) (by omega))
  · exact txtR_fr e (x1 _ _ (by omega) (by omega) (by omega) (by omega) (by omega) (by omega) (by omega) (by omega)) (x2 _ (by omega) (by omega)) (fun k => x1 _ _ (by omega) (by omega) (by omega) (by omega) (by omega) (by omega) (by omega) (by omega)) (fun k => x1 _ _ (by omega) (by omega) (by omega) (by omega) (by omega) (by omega) (by omega) (by omega))
  · exact wRL_fr f (x1 _ _ (by omega) (by omega) (by omega) (by omega) (by omega) (by omega) (by omega) (by omega)) (x2 _ (by omega) (by omega)) (fun k _ => x1 _ _ (by omega) (by omega) (by omega) (by omega) (by omega) (by omega) (by omega) (by omega)) (fun k _ => x1 _ _ (by omega) (by omega) (by omega) (by omega) (by omega) (by omega) (by omega) (by omega)) hj
  · have z : ∀ id k, 173 ≤ id ∧ id ≤ 177 → rd I' id k = rd I id k := fun id k h => x1 id k (by omega) (by omega) (by omega) (by omega) (by omega) (by omega) (by omega) (by omega)
    exact Hs_fr g ⟨fun b _ => z _ _ (by omega), fun b _ lb => ⟨fun k _ => z _ _ (by omega), fun k _ => z _ _ (by omega), fun k _ => z _ _ (by omega), x3 b lb⟩⟩ (fun id k h1 h2 => x1 id k (by omega) (by omega) (by omega) (by omega) (by omega) (by omega) (by omega) (by omega))
  · exact lyN_fr i (x1 _ _ (by omega) (by omega) (by omega) (by omega) (by omega) (by omega) (by omega) (by omega)) (fun k _ => x1 _ _ (by omega) (by omega) (by omega) (by omega) (by omega) (by omega) (by omega) (by omega))
/-- what both calls come to -/
def sameA (r r' : Option Value) (m : zM) : Prop := ∃ (v : Int32) (I' : Nat → Nat → Int32) (J' : Nat → Nat → Int64), r = some (.int v) ∧ r' = some (.int v) ∧ m = gM I' J' ∧ Inv I' J'
theorem sameA_mk {x : Int} {I' : Nat → Nat → Int32} {J' : Nat → Nat → Int64} (h : Inv I' J') : sameA (some (.int (iI x))) (some (.int (iI x))) (gM I' J') := ⟨iI x, I', J', rfl, rfl, rfl, h⟩
theorem sameA_mk2 {x y : Int} {I' : Nat → Nat → Int32} {J' : Nat → Nat → Int64} (e : x = y) (h : Inv I' J') : sameA (some (.int (iI x))) (some (.int (iI y))) (gM I' J') := by rw [e]; exact sameA_mk h
