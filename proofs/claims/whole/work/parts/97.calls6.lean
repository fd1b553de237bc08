/-! a BIT comes, goes, is told anew: both -/
/-- scratch, whatever lies -/
def sc0 (id k : Nat) : Prop := (151 ≤ id ∧ id ≤ 166) ∨ id = 182 ∨ id = 185 ∨ id = 186 ∨ id = 187 ∨ (id = 171 ∧ (17 ≤ k ∧ k ≤ 23 ∨ k = 27))
/-- what a BIT's coming and going changes -/
def shC (Y : Nat → Prop) (id k : Nat) : Prop := (143 ≤ id ∧ id ≤ 150) ∨ (id = 142 ∧ k = 4) ∨ ((id = 177 ∨ id = 178 ∨ id = 179) ∧ Y k) ∨ ∃ r, r < 10 ∧ Y r ∧ id = bI r 0 ∧ 13 ≤ k ∧ k ≤ 15
theorem Inv_sh {I I' : Nat → Nat → Int32} {J J' : Nat → Nat → Int64} {Y : Nat → Prop} (h : Inv I J) (hx : ∀ id k, ¬ (shC Y id k ∨ sc0 id k) → rd I' id k = rd I id k) (hj : ∀ id k, id ≠ 140 → id ≠ 141 → J' id k = J id k) (hl : ∀ r, r < 10 → Y r → lyR I' r) (hs : Hs I') (hn : lyN I') (hr : rg I') : Inv I' J' := by
  obtain ⟨a, b, _, d, e, ⟨wn, f⟩, _, _⟩ := h
  have z : ∀ id k, ¬ (142 ≤ id ∧ id ≤ 166) → id ≠ 182 → id ≠ 185 → id ≠ 186 → id ≠ 187 → id ≠ 171 → id ≠ 177 → id ≠ 178 → id ≠ 179 → ¬ (4 ≤ id ∧ id < 134) → rd I' id k = rd I id k := fun id k u1 u2 u3 u4 u5 u6 u7 u8 u9 u10 => hx id k (fun u => by
    rcases u with (u | u | u | ⟨r, r1, r2, r3, r4⟩) | u
    · omega
    · omega
    · omega
    · have := bI_ne r1 (show 0 < 13 by decide); omega
    · unfold sc0 at u; omega)
  have z1 : ∀ k, ¬ (17 ≤ k ∧ k ≤ 23) → k ≠ 27 → rd I' 171 k = rd I 171 k := fun k u1 u2 => hx 171 k (fun u => by
    rcases u with (u | u | u | ⟨r, r1, r2, r3, r4⟩) | u
    · omega
    · omega
    · omega
    · have := bI_ne r1 (show 0 < 13 by decide); omega
    · unfold sc0 at u; omega)
  have zb : ∀ q s k, q < 10 → s < 13 → ¬ (Y q ∧ s = 0 ∧ 13 ≤ k ∧ k ≤ 15) → rd I' (bI q s) k = rd I (bI q s) k := fun q s k hq hs u => hx _ _ (fun v => by
    have w := bI_ne hq hs
    rcases v with (v | v | v | ⟨r, r1, r2, r3, r4⟩) | v
    · omega
    · omega
    · omega
    · have e1 : q = r := by unfold bI at r3; omega
      have e2 : s = 0 := by unfold bI at r3; omega
      rw [← e1] at r2
      exact u ⟨r2, e2, r4⟩
    · unfold sc0 at v; omega)
  refine ⟨tapR_fr a (z _ _ (by omega) (by omega) (by omega) (by omega) (by omega) (by omega) (by omega) (by omega) (by omega) (by omega)) (z1 _ (by omega) (by omega)) (fun k => z _ _ (by omega) (by omega) (by omega) (by omega) (by omega) (by omega) (by omega) (by omega) (by omega) (by omega)) (fun k => z _ _ (by omega) (by omega) (by omega) (by omega) (by omega) (by omega) (by omega) (by omega) (by omega) (by omega)), fun q hq => ?_, hr, ?_, ?_, ⟨wn, ?_⟩, hs, hn⟩
  · obtain ⟨b1, b2, b3⟩ := b q hq
    have z2 : ∀ id k, (173 ≤ id ∧ id ≤ 176) ∨ id = 180 ∨ id = 181 → rd I' id k = rd I id k := fun id k u => z id k (by omega) (by omega) (by omega) (by omega) (by omega) (by omega) (by omega) (by omega) (by omega) (by omega)
    refine ⟨ceR_fr b1 (fun k hk => zb q 0 k hq (by omega) (by omega)) (fun s k s1 s2 => zb q s k hq (by omega) (by omega)) (z2 _ _ (by omega)) (fun k => z2 _ _ (by omega)) (fun k => z2 _ _ (by omega)) (fun k => z2 _ _ (by omega)), ?_, hoR_fr b3 (zb q 0 _ hq (by omega) (by omega)) (z2 _ _ (by omega)) (fun k => zb q 12 k hq (by omega) (by omega)) (fun k _ => z2 _ _ (by omega))⟩
    by_cases y : Y q
    · exact hl q hq y
    · have z3 : ∀ id, id = 177 ∨ id = 178 ∨ id = 179 → rd I' id q = rd I id q := fun id u => hx _ _ (fun v => by
        rcases v with (v | v | v | ⟨r, r1, r2, r3, r4⟩) | v
        · omega
        · omega
        · exact y v.2
        · have := bI_ne r1 (show 0 < 13 by decide); omega
        · unfold sc0 at v; omega)
      exact lyR_fr b2 (fun k k1 k2 => zb q 0 k hq (by omega) (fun u => y u.1)) (z3 _ (by omega)) (z2 _ _ (by omega)) (fun _ => ⟨z3 _ (by omega), z3 _ (by omega)⟩)
  · exact rolR_fr d (z _ _ (by omega) (by omega) (by omega) (by omega) (by omega) (by omega) (by omega) (by omega) (by omega) (by omega)) (z1 _ (by omega) (by omega)) (fun k => z _ _ (by omega) (by omega) (by omega) (by omega) (by omega) (by omega) (by omega) (by omega) (by omega) (by omega)) (fun k => z _ _ (by omega) (by omega) (by omega) (by omega) (by omega) (by omega) (by omega) (by omega) (by omega) (by omega))
  · exact txtR_fr e (z _ _ (by omega) (by omega) (by omega) (by omega) (by omega) (by omega) (by omega) (by omega) (by omega) (by omega)) (z1 _ (by omega) (by omega)) (fun k => z _ _ (by omega) (by omega) (by omega) (by omega) (by omega) (by omega) (by omega) (by omega) (by omega) (by omega)) (fun k => z _ _ (by omega) (by omega) (by omega) (by omega) (by omega) (by omega) (by omega) (by omega) (by omega) (by omega))
  · exact wRL_fr f (z _ _ (by omega) (by omega) (by omega) (by omega) (by omega) (by omega) (by omega) (by omega) (by omega) (by omega)) (z1 _ (by omega) (by omega)) (fun k _ => z _ _ (by omega) (by omega) (by omega) (by omega) (by omega) (by omega) (by omega) (by omega) (by omega) (by omega)) (fun k _ => z _ _ (by omega) (by omega) (by omega) (by omega) (by omega) (by omega) (by omega) (by omega) (by omega) (by omega)) hj
theorem lyN_put {I I' : Nat → Nat → Int32} {q : Nat} (hq : q < 10) (h : lyN I) (h0 : ¬ lyB I q) (h1 : lyB I' q) (he : ∀ r, r ≠ q → (lyB I' r ↔ lyB I r)) (hn : rd I' 142 4 = rd I 142 4 + 1) : lyN I' := by
  unfold lyN at *
  rw [hn, h]
  have e : smN (fun b => if lyB I' b then (1 : Int) else 0) 10 = smN (fun b => (if lyB I b then (1 : Int) else 0) + (if b = q then (1 : Int) else 0)) 10 := smN_cg (fun b _ => by
    show (if lyB I' b then (1 : Int) else 0) = (if lyB I b then (1 : Int) else 0) + (if b = q then (1 : Int) else 0)
    by_cases f : b = q
    · rw [if_pos f, f, if_pos h1, if_neg h0]; rfl
    · rw [if_neg f, Int.add_zero]; exact if_cg (he b f))
  rw [e, smN_pl, smN_one (f := fun b => if b = q then (1 : Int) else 0) hq (fun j _ hj => if_neg hj), if_pos rfl]
theorem lyN_del {I I' : Nat → Nat → Int32} {q : Nat} (hq : q < 10) (h : lyN I) (h0 : lyB I q) (h1 : ¬ lyB I' q) (he : ∀ r, r ≠ q → (lyB I' r ↔ lyB I r)) (hn : rd I' 142 4 = rd I 142 4 + (-1)) : lyN I' := by
  unfold lyN at *
  rw [hn, h]
  have e : smN (fun b => if lyB I b then (1 : Int) else 0) 10 = smN (fun b => (if lyB I' b then (1 : Int) else 0) + (if b = q then (1 : Int) else 0)) 10 := smN_cg (fun b _ => by
    show (if lyB I b then (1 : Int) else 0) = (if lyB I' b then (1 : Int) else 0) + (if b = q then (1 : Int) else 0)
    by_cases f : b = q
    · rw [if_pos f, f, if_pos h0, if_neg h1]; rfl
    · rw [if_neg f, Int.add_zero]; exact (if_cg (he b f)).symm)
  rw [e, smN_pl, smN_one (f := fun b => if b = q then (1 : Int) else 0) hq (fun j _ hj => if_neg hj), if_pos rfl]
  omega
section CF
variable {I : Nat → Nat → Int32} {J : Nat → Nat → Int64}
/-- BIT q taken from both -/
theorem Inv_del {I1 : Nat → Nat → Int32} {q : Nat} (h : Inv I J) (hq : q < 10) (l1 : lyB I q) (w : wPM I I1 q (rce I q) (rd I (bI q 0) 14) (rd I (bI q 0) 15) (fun _ => 95) (-1) (-1) 0) : Inv (un I1 q) J := by
  obtain ⟨c1, c2, c3⟩ := h.2.1 q hq
  have cl := c2.2.2 l1
  have hb := Hb_of h hq cl.1
  have w' := w
  rw [cl.2.1.1, cl.2.1.2] at w'
  have bq := bI_ne hq (show 0 < 13 by decide)
  have fr : ∀ id k, ¬ (143 ≤ id ∧ id ≤ 150) → ¬ (id = bI q 0 ∧ 13 ≤ k ∧ k ≤ 15) → ¬ (id = 142 ∧ k = 4) → ¬ (id = 177 ∧ k = q) → rd (un I1 q) id k = rd I id k := fun id k u1 u2 u3 u4 => by rw [un_rd, if_neg u4]; exact w.fr id k u1 u2 u3
  have ul : ∀ r, lyB (un I1 q) r ↔ r ≠ q ∧ lyB I r := fun r => by
    rw [ly_un]
    unfold lyB
    rw [w.fr 177 r (by omega) (by omega) (by omega)]
  refine Inv_sh (Y := fun r => r = q) h (fun id k u => fr id k (fun v => u (Or.inl (Or.inl v))) (fun v => u (Or.inl (Or.inr (Or.inr (Or.inr ⟨q, hq, rfl, v⟩))))) (fun v => u (Or.inl (Or.inr (Or.inl v)))) (fun v => u (Or.inl (Or.inr (Or.inr (Or.inl ⟨Or.inl v.1, v.2⟩)))))) (fun _ _ _ _ => rfl) (fun r hr e => ?_) (keep_del hq h.2.2.2.2.2.2.1 hb l1 w' (fun id k u1 u2 => by rw [un_rd, if_neg (by omega)]) (fun id k u => ?_)) (lyN_del hq h.2.2.2.2.2.2.2 l1 (fun u => ((ul q).mp u).1 rfl) (fun r hr => by rw [ul]; exact ⟨fun u => u.2, fun u => ⟨hr, u⟩⟩) (by rw [un_rd, if_neg (by omega)]; exact w.ly)) (rg_cg h.2.2.1 (fun k => fr _ _ (by omega) (by omega) (by omega) (by omega)) (fun k => fr _ _ (by omega) (by omega) (by omega) (by omega)))
  · subst e
    have e13 : rd (un I1 r) (bI r 0) 13 = 0 := by rw [un_rd, if_neg (by omega)]; exact w.lie
    have e14 : rd (un I1 r) (bI r 0) 14 = rd I (bI r 0) 14 := by rw [un_rd, if_neg (by omega)]; exact w.ro
    have e15 : rd (un I1 r) (bI r 0) 15 = rd I (bI r 0) 15 := by rw [un_rd, if_neg (by omega)]; exact w.co
    refine ⟨?_, by rw [e14, e15]; exact c2.2.1, fun u => absurd ((ul r).mp u).1 (fun v => v rfl)⟩
    rw [e13, un_rd, if_pos ⟨rfl, rfl⟩]
  · rw [un_rd, un_rd]
    by_cases v : id = 177 ∧ k = q
    · rw [if_pos v, if_pos v]
    · rw [if_neg v, if_neg v]; exact w.fr id k (by omega) (by omega) (by omega)
theorem hS_of (h : Inv I J) : ∀ q, q < 10 → rd I (bI q 0) 4 ≠ 0 → ∀ k, k < 50 → rd I (bI q 1) k = rce I q k := fun q hq u => (Hb_of h hq ((h.2.1 q hq).1.2.1.mp u)).1.2.1
theorem hB_of (h : Inv I J) : ∀ q, q < 10 → rd I (bI q 0) 4 ≠ 0 → RBc I q (rce I q) (nCe I q) := fun q hq u => (Hb_of h hq ((h.2.1 q hq).1.2.1.mp u)).1.2.2.1
theorem hE_of (h : Inv I J) : ∀ q, q < 10 → rd I (bI q 0) 4 ≠ 0 → RBe I q (rce I q) := fun q hq u => (Hb_of h hq ((h.2.1 q hq).1.2.1.mp u)).1.2.2.2.1
theorem hrc_of (h : Inv I J) : ∀ q, q < 10 → (-1000 ≤ rd I (bI q 0) 14 ∧ rd I (bI q 0) 14 ≤ 1000) ∧ -1000 ≤ rd I (bI q 0) 15 ∧ rd I (bI q 0) 15 ≤ 1000 := fun q hq => (h.2.1 q hq).2.1.2.1
theorem cal_take (h : Inv I J) {b : Int} (bb : -2147483648 ≤ b ∧ b < 2147483648) : both yX11_take kX11_take yX12_take kX12_take [.int (iI b)] I J := by
  have H := h.2.1
  have sk := shK_of h
  have l : ∀ q, q < 10 → (rd I (bI q 0) 13 = 0 ↔ rd I 177 q = 0) := fun q hq => by rw [(H q hq).2.1.1]
  refine x11_take bb (hS_of h) (hB_of h) sk.1 sk.2.1 (by have := (lan_bd h).2.2; omega) (hrc_of h) (fun g => ?_) (fun q e1 e2 e3 e4 I1 w => ?_)
  · refine x12_take bb (fun _ => sameA_mk h) (fun q e1 e2 e3 e4 => ?_)
    exact absurd ((l q e2).mp (g q e1 e2 ((H q e2).1.2.1.mpr e3))) e4
  · have f : ∀ id k, 151 ≤ id → rd I1 id k = rd I id k := fun id k u => w.fr id k (by omega) (by have := bI_ne e2 (show 0 < 13 by decide); omega) (by omega)
    have l1 : lyB I q := fun u => e4 ((l q e2).mpr u)
    refine x12_take bb (fun g => ?_) (fun q' f1 f2 f3 f4 => ?_)
    · exact absurd (g q e1 e2 (by rw [f _ _ (by omega)]; exact (H q e2).1.2.1.mp e3)) (by rw [f _ _ (by omega)]; exact l1)
    · have eq : q' = q := by omega
      subst eq
      exact sameA_mk (Inv_del h e2 l1 w)
end CF
