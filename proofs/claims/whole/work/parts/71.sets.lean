/-! what may lie: one, two; what they add -/
def p2S (I : Nat → Nat → Int32) (ca cb : Nat → Int) (R1 C1 R2 C2 y x : Int) : Int := if cA cb R2 C2 y x ≠ 95 then cA cb R2 C2 y x else pS I ca R1 C1 y x
def cW (I : Nat → Nat → Int32) (wn : Nat) (ca cb : Nat → Int) (R1 C1 R2 C2 : Int) : Prop := ∀ y : Nat, y < 16 → allR I wn (fun x => p2S I ca cb R1 C1 R2 C2 y x)
theorem p2S_sB {I : Nat → Nat → Int32} {ca cb : Nat → Int} {R1 C1 R2 C2 : Int} (h1 : ∀ y x : Int, cA ca R1 C1 y x ≠ 95 → inS y x) (h2 : ∀ y x : Int, cA cb R2 C2 y x ≠ 95 → inS y x) (y : Int) : sB (fun x => p2S I ca cb R1 C1 R2 C2 y x) := fun x hx => by
  show p2S I ca cb R1 C1 R2 C2 y x = 95
  unfold p2S
  rw [if_neg (fun u => by
    have t : 0 ≤ y ∧ y < 16 ∧ 0 ≤ x ∧ x < 32 := h2 y x u
    omega)]
  exact pS_sB h1 y x hx
section TC
variable {I : Nat → Nat → Int32} {a b n1 n2 wn : Nat} {p q : Int}
theorem nx_b (h : nx p) : pb0 p ∧ (-1000 ≤ plR p ∧ plR p ≤ 1000) ∧ -1000 ≤ plC p ∧ plC p ≤ 1000 := by
  have nn : -4 ≤ p / 64 - 5 ∧ p / 64 - 5 ≤ 15 ∧ -9 ≤ p % 64 - 10 ∧ p % 64 - 10 ≤ 31 := h
  have := nx_bd h
  unfold pb0 plR plC
  omega
theorem may_2 (ne : a ≠ b) (np : nx p) (nq : nx q) (ha : a < 10) (hb : b < 10) (a0 : ¬ lyB I a) (b0 : ¬ lyB I b) (h : Hs I) (hA : Hb I a n1) (hB : Hb I b n2) : mL (pl (pl I a p) b q) wn ↔ mL (pl I a p) wn ∧ mL (pl I b q) wn ∧ ¬ ovl I (rce I a) b n2 (plR q - plR p) (plC q - plC p) ∧ ¬ (wqA I a b (plR q - plR p) ∨ wqD I a b (plC q - plC p)) ∧ cW I wn (rce I a) (rce I b) (plR p) (plC p) (plR q) (plC q) := by
  obtain ⟨hp, hR1, hC1⟩ := nx_b np
  obtain ⟨hq, hR2, hC2⟩ := nx_b nq
  have b1 : ¬ lyB (pl I a p) b := fun u => b0 ((ly_pl hp (fun e => ne e.symm)).mp u)
  rw [mL_pl hq hb b1]
  have oi := ovl_iff (I := I) (b := b) (n := n2) (ca := rce I a) (cb := rce I b) hB.1.2.2.1 (R1 := plR p) (C1 := plC p) (R2 := plR q) (C2 := plC q)
  have fe : okL (pl I a p) 10 → ∀ y x : Int, lQ (pl I a p) (rce (pl I a p) b) (plR q) (plC q) y x = p2S I (rce I a) (rce I b) (plR p) (plC p) (plR q) (plC q) y x := fun k y x => by
    unfold lQ p2S
    rw [rce_pl hp, lS_pl hp ha a0 k, ← pS_lQ h]
  constructor
  · rintro ⟨⟨k1, k2⟩, ⟨k3, k4⟩, k5⟩
    have rma := ((okL_pl hp ha a0).mp k1).2
    have rm2 := (rm_2 (q := q) ne hp ha a0 k1).mp k2
    have cw : cW I wn (rce I a) (rce I b) (plR p) (plC p) (plR q) (plC q) := fun y hy => by
      have t := k5 y hy
      rw [allR_pl hp, show (fun x => lQ (pl I a p) (rce (pl I a p) b) (plR q) (plC q) (y : Int) x) = (fun x => p2S I (rce I a) (rce I b) (plR p) (plC p) (plR q) (plC q) y x) from funext fun x => fe k1 _ _] at t
      exact t
    have sb := p2S_sB (I := I) (ca := rce I a) (cb := rce I b) (R1 := plR p) (C1 := plC p) (R2 := plR q) (C2 := plC q) (fun y x u => (rma y x u).1) (fun y x u => (rm2.1 y x u).1)
    refine ⟨⟨k1, k3, fun y hy => ?_⟩, ?_, ?_, ?_, cw⟩
    · rw [allR_pl hp]
      refine allR_mono (sb y) (fun x u => ?_) (cw y hy)
      show p2S I (rce I a) (rce I b) (plR p) (plC p) (plR q) (plC q) y x = lS (pl I a p) y x
      unfold p2S
      rw [if_neg, pS_lQ h, lS_pl hp ha a0 k1]
      intro v
      have t := (k2 y x (by rw [rce_pl hp]; exact v)).2
      exact u (lS_no t)
    · rw [mL_pl hq hb b0]
      refine ⟨⟨h.1, rm2.1⟩, ⟨h.2.1, fun c hc lc v => ?_⟩, fun y hy => ?_⟩
      · have c1 : c ≠ a := fun e => a0 (e ▸ lc)
        have c2 : c ≠ b := fun e => b0 (e ▸ lc)
        exact k4 c hc ((ly_pl hp c1).mpr lc) ((q2_c ne hp hq c1 c2).mpr v)
      · refine allR_mono (sb y) (fun x u => ?_) (cw y hy)
        show p2S I (rce I a) (rce I b) (plR p) (plC p) (plR q) (plC q) y x = lQ I (rce I b) (plR q) (plC q) y x
        have u2 : lQ I (rce I b) (plR q) (plC q) y x ≠ 95 := u
        unfold p2S lQ at *
        by_cases v : cA (rce I b) (plR q) (plC q) y x ≠ 95
        · rw [if_pos v, if_pos v]
        · rw [if_neg v] at u2
          rw [if_neg v, if_neg v]
          unfold pS
          rw [if_neg, (h.2.2.1 _ _).1]
          intro w
          exact u2 (lS_no (rma y x w).2)
    · rw [oi]; exact rm2.2
    · rw [wq_iff ne hp hq hA hB (fun y x u => (rma y x u).1)]
      exact fun v => k4 a ha (ly_plq hp) (qrl_sy v)
  · rintro ⟨m1, m2, o, w, c⟩
    have m2' := (mL_pl hq hb b0).mp m2
    have rma := ((okL_pl hp ha a0).mp m1.1).2
    rw [wq_iff ne hp hq hA hB (fun y x u => (rma y x u).1)] at w
    refine ⟨⟨m1.1, (rm_2 (q := q) ne hp ha a0 m1.1).mpr ⟨m2'.1.2, by rw [← oi]; exact o⟩⟩, ⟨m1.2.1, fun c hc lc v => ?_⟩, fun y hy => ?_⟩
    · by_cases e : c = a
      · rw [e] at v; exact w (qrl_sy v)
      · have l := (ly_pl hp e).mp lc
        have c2 : c ≠ b := fun e => b0 (e ▸ l)
        exact m2'.2.1.2 c hc l ((q2_c ne hp hq e c2).mp v)
    · rw [allR_pl hp, show (fun x => lQ (pl I a p) (rce (pl I a p) b) (plR q) (plC q) (y : Int) x) = (fun x => p2S I (rce I a) (rce I b) (plR p) (plC p) (plR q) (plC q) y x) from funext fun x => fe m1.1 _ _]
      exact c y hy
theorem worth_1 (np : nx p) (ha : a < 10) (a0 : ¬ lyB I a) (h : Hs I) (hA : Hb I a n1) (m : mL (pl I a p) wn) : wA (pl I a p) = wA I + gnC I a n1 (plR p) (plC p) := by
  obtain ⟨hp, hR1, hC1⟩ := nx_b np
  rw [wA_pl hp ha a0 m.1, gain_1 ha h hA a0 np m.1 ((mL_pl hp ha a0).mp m).2.1.2]
theorem worth_2 (ne : a ≠ b) (np : nx p) (nq : nx q) (ha : a < 10) (hb : b < 10) (a0 : ¬ lyB I a) (b0 : ¬ lyB I b) (h : Hs I) (hA : Hb I a n1) (hB : Hb I b n2) (m : mL (pl (pl I a p) b q) wn) : wA (pl (pl I a p) b q) = wA I + (gnC I a n1 (plR p) (plC p) + gnC I b n2 (plR q) (plC q) + csV I (rce I a) b n2 (plR q - plR p) (plC q - plC p) + waV I a b (plR q - plR p) + wdV I a b (plC q - plC p)) := by
  obtain ⟨hp, hR1, hC1⟩ := nx_b np
  obtain ⟨hq, hR2, hC2⟩ := nx_b nq
  have b1 : ¬ lyB (pl I a p) b := fun u => b0 ((ly_pl hp (fun e => ne e.symm)).mp u)
  obtain ⟨m1, m2, o, w, c⟩ := (may_2 ne np nq ha hb a0 b0 h hA hB).mp m
  have rma := ((okL_pl hp ha a0).mp m1.1).2
  rw [wq_iff ne hp hq hA hB (fun y x u => (rma y x u).1)] at w
  rw [wA_pl hq hb b1 m.1, worth_1 np ha a0 h hA m1, gn_2 ne hp hq ha hb a0 b0 m.1 m2.1, gain_1 hb h hB b0 nq m2.1 ((mL_pl hq hb b0).mp m2).2.1.2]
  have la : lyB (pl (pl I a p) b q) a := (ly_pl hq ne).mpr (ly_plq hp)
  have e : pwA (pl (pl I a p) b q) b a = csV I (rce I a) b n2 (plR q - plR p) (plC q - plC p) + (waV I a b (plR q - plR p) + wdV I a b (plC q - plC p)) := by
    unfold pwA
    rw [if_pos ⟨ly_plq hq, la⟩, sd_2 ne hp hq ha hb hB hR2 hC2 m.1 o, fbA_sy, fb_2 ne hp hq hA hB hR1 hC1 (fun y x u => (rma y x u).1) w]
  rw [e]
  omega
theorem oL_at {y x : Int} (g : inS y x) : oL I (32 * y + x).toNat = lO I y x := by
  have t : 0 ≤ y ∧ y < 16 ∧ 0 ≤ x ∧ x < 32 := g
  unfold oL
  rw [show (((32 * y + x).toNat / 32 : Nat) : Int) = y by omega, show (((32 * y + x).toNat % 32 : Nat) : Int) = x by omega]
theorem rmP_iff {ce : Nat → Int} : rmP (oL I) ce p ↔ rmL I ce (plR p) (plC p) := by
  unfold rmP rmO rmL plR plC
  constructor
  · intro g y x u
    have t := g y x u
    exact ⟨t.1, by rw [← oL_at t.1]; exact t.2⟩
  · intro g y x u
    have t := g y x u
    exact ⟨t.1, by rw [oL_at t.1]; exact t.2⟩
theorem tcE_iff (h : Hs I) {y x : Int} (g : inS y x) : tcE (oL I) y x ↔ sd4 I y x ≠ 0 := by
  have t : 0 ≤ y ∧ y < 16 ∧ 0 ≤ x ∧ x < 32 := g
  have k : ∀ y' x' : Int, tk I y' x' = if lO I y' x' = -1 then 0 else 1 := fun y' x' => by unfold tk; rw [(h.2.2.1 y' x').2]
  have o : ∀ y' x' : Int, ¬ inS y' x' → lO I y' x' = -1 := fun y' x' u => (lS_out h.1 u).2
  have c1 : (0 < x ∧ oL I (32 * y + x - 1).toNat ≠ -1) ↔ tk I y (x - 1) ≠ 0 := by
    rw [k]
    by_cases u : 0 < x
    · rw [show 32 * y + x - 1 = 32 * y + (x - 1) by omega, oL_at (show inS y (x - 1) from ⟨by omega, by omega, by omega, by omega⟩)]
      by_cases v : lO I y (x - 1) = -1
      · rw [if_pos v]; exact ⟨fun w => absurd v w.2, fun w => absurd rfl w⟩
      · rw [if_neg v]; exact ⟨fun _ => by decide, fun _ => ⟨u, v⟩⟩
    · rw [o y (x - 1) (fun i => by have := i.2.2.1; omega), if_pos rfl]
      exact ⟨fun w => absurd w.1 u, fun w => absurd rfl w⟩
  have c2 : (x < 31 ∧ oL I (32 * y + x + 1).toNat ≠ -1) ↔ tk I y (x + 1) ≠ 0 := by
    rw [k]
    by_cases u : x < 31
    · rw [show 32 * y + x + 1 = 32 * y + (x + 1) by omega, oL_at (show inS y (x + 1) from ⟨by omega, by omega, by omega, by omega⟩)]
      by_cases v : lO I y (x + 1) = -1
      · rw [if_pos v]; exact ⟨fun w => absurd v w.2, fun w => absurd rfl w⟩
      · rw [if_neg v]; exact ⟨fun _ => by decide, fun _ => ⟨u, v⟩⟩
    · rw [o y (x + 1) (fun i => by have := i.2.2.2; omega), if_pos rfl]
      exact ⟨fun w => absurd w.1 u, fun w => absurd rfl w⟩
  have c3 : (0 < y ∧ oL I (32 * y + x - 32).toNat ≠ -1) ↔ tk I (y - 1) x ≠ 0 := by
    rw [k]
    by_cases u : 0 < y
    · rw [show 32 * y + x - 32 = 32 * (y - 1) + x by omega, oL_at (show inS (y - 1) x from ⟨by omega, by omega, by omega, by omega⟩)]
      by_cases v : lO I (y - 1) x = -1
      · rw [if_pos v]; exact ⟨fun w => absurd v w.2, fun w => absurd rfl w⟩
      · rw [if_neg v]; exact ⟨fun _ => by decide, fun _ => ⟨u, v⟩⟩
    · rw [o (y - 1) x (fun i => by have := i.1; omega), if_pos rfl]
      exact ⟨fun w => absurd w.1 u, fun w => absurd rfl w⟩
  have c4 : (y < 15 ∧ oL I (32 * y + x + 32).toNat ≠ -1) ↔ tk I (y + 1) x ≠ 0 := by
    rw [k]
    by_cases u : y < 15
    · rw [show 32 * y + x + 32 = 32 * (y + 1) + x by omega, oL_at (show inS (y + 1) x from ⟨by omega, by omega, by omega, by omega⟩)]
      by_cases v : lO I (y + 1) x = -1
      · rw [if_pos v]; exact ⟨fun w => absurd v w.2, fun w => absurd rfl w⟩
      · rw [if_neg v]; exact ⟨fun _ => by decide, fun _ => ⟨u, v⟩⟩
    · rw [o (y + 1) x (fun i => by have := i.2.1; omega), if_pos rfl]
      exact ⟨fun w => absurd w.1 u, fun w => absurd rfl w⟩
  unfold tcE sd4
  rw [c1, c2, c3, c4]
  have b1 := tk_bd I y (x - 1)
  have b2 := tk_bd I y (x + 1)
  have b3 := tk_bd I (y - 1) x
  have b4 := tk_bd I (y + 1) x
  omega
theorem tc_iff (h : Hs I) (hA : Hb I a n1) {R C : Int} (hr : rmL I (rce I a) R C) : tcB (oL I) (rce I a) R C ↔ sdC I a n1 R C ≠ 0 := by
  unfold tcB sdC
  constructor
  · rintro ⟨y, x, u, v⟩
    obtain ⟨j, hj, e1, e2⟩ := (cell_j hA.1.2.2.1).mp u
    have v2 := (tcE_iff h (hr y x u).1).mp v
    have g0 : sd4 I (R + rd I (bI a 2) j) (C + rd I (bI a 3) j) ≤ smN (fun j => sd4 I (R + rd I (bI a 2) j) (C + rd I (bI a 3) j)) n1 := smN_ge (f := fun j => sd4 I (R + rd I (bI a 2) j) (C + rd I (bI a 3) j)) (n := n1) (k := j) (fun j _ => (sd4_bd I _ _).1) hj
    have w2 := (sd4_bd I (R + rd I (bI a 2) j) (C + rd I (bI a 3) j)).1
    rw [e1, e2] at v2
    omega
  · intro u
    obtain ⟨j, hj, v⟩ := smN_ex u
    have w := (cell_j (R := R) (C := C) hA.1.2.2.1).mpr ⟨j, hj, rfl, rfl⟩
    exact ⟨_, _, w, (tcE_iff h (hr _ _ w).1).mpr v⟩
/-- one BIT: the places of both -/
theorem pl_iff (np : nx p) (ha : a < 10) (a0 : ¬ lyB I a) (h : Hs I) (hA : Hb I a n1) {to : Int} : plS I a (rce I a) n1 wn to (plR p) (plC p) ↔ mL (pl I a p) wn ∧ (to ≠ 0 → sdC I a n1 (plR p) (plC p) ≠ 0) := by
  rw [← may_iff ha h hA a0 np]
  unfold plS
  constructor
  · rintro ⟨g1, g2, g3, g4, g5⟩; exact ⟨⟨g2, g3, g1, g5⟩, g4⟩
  · rintro ⟨⟨g2, g3, g1, g5⟩, g4⟩; exact ⟨g1, g2, g3, g4, g5⟩
theorem fzA_iff (ha : a < 10) (a0 : ¬ lyB I a) (h : Hs I) (hA : Hb I a n1) : fzA I (oL I) a wn p ↔ nx p ∧ plS I a (rce I a) n1 wn 1 (plR p) (plC p) := by
  unfold fzA
  constructor
  · rintro ⟨g1, g2, g3, g4⟩
    exact ⟨g1, (pl_iff g1 ha a0 h hA).mpr ⟨g4, fun _ => (tc_iff h hA (rmP_iff.mp g2)).mp g3⟩⟩
  · rintro ⟨g1, g2⟩
    have t := (pl_iff g1 ha a0 h hA).mp g2
    have r := (rm_iff h g1).mp g2.2.1
    exact ⟨g1, rmP_iff.mpr r, (tc_iff h hA r).mpr (t.2 (by decide)), t.1⟩
/-- two BITS -/
theorem fz2_iff (ne : a ≠ b) (ha : a < 10) (hb : b < 10) (a0 : ¬ lyB I a) (b0 : ¬ lyB I b) (h : Hs I) (hA : Hb I a n1) (hB : Hb I b n2) : fz2 I (oL I) a b wn p q ↔ (nx p ∧ nx q) ∧ (plS I a (rce I a) n1 wn 0 (plR p) (plC p) ∧ plS I b (rce I b) n2 wn 0 (plR q) (plC q)) ∧ (sdC I a n1 (plR p) (plC p) ≠ 0 ∨ sdC I b n2 (plR q) (plC q) ≠ 0) ∧ ((sdC I a n1 (plR p) (plC p) ≠ 0 ∧ sdC I b n2 (plR q) (plC q) ≠ 0) ∨ 0 < csV I (rce I a) b n2 (plR q - plR p) (plC q - plC p)) ∧ (csV I (rce I a) b n2 (plR q - plR p) (plC q - plC p) ≠ -1 ∧ waV I a b (plR q - plR p) ≠ -1 ∧ wdV I a b (plC q - plC p) ≠ -1) ∧ cW I wn (rce I a) (rce I b) (plR p) (plC p) (plR q) (plC q) := by
  unfold fz2 fzB
  have wv := wq_val hA hB (rs := plR q - plR p) (cs := plC q - plC p)
  have cv := cs_val (I := I) (b := b) (n2 := n2) (rs := plR q - plR p) (cs := plC q - plC p) (ce := rce I a) hB.1.2.2.1.2.1
  constructor
  · rintro ⟨np, r1, nq, r2, t1, t2, m⟩
    obtain ⟨hp, hR1, hC1⟩ := nx_b np
    obtain ⟨hq, hR2, hC2⟩ := nx_b nq
    rw [rce_pl hp] at r2 t1 t2
    obtain ⟨m1, m2, o, w, c⟩ := (may_2 ne np nq ha hb a0 b0 h hA hB).mp m
    rw [show tcP (oL I) (rce I a) p ↔ sdC I a n1 (plR p) (plC p) ≠ 0 from tc_iff h hA (rmP_iff.mp r1), show tcP (oL I) (rce I b) q ↔ sdC I b n2 (plR q) (plC q) ≠ 0 from tc_iff h hB (rmP_iff.mp r2)] at t1 t2
    have la : lyB (pl (pl I a p) b q) a := (ly_pl hq ne).mpr (ly_plq hp)
    rw [sdA_nb m.1 ha hb la (ly_plq hq), nbS_sy (ok_95 m.1 hb (ly_plq hq)) (ok_95 m.1 ha la), ← sdA_nb m.1 hb ha (ly_plq hq) la, sd_2 ne hp hq ha hb hB hR2 hC2 m.1 o] at t2
    exact ⟨⟨np, nq⟩, ⟨(pl_iff np ha a0 h hA).mpr ⟨m1, fun u => absurd rfl u⟩, (pl_iff nq hb b0 h hB).mpr ⟨m2, fun u => absurd rfl u⟩⟩, t1, t2, ⟨fun u => o (cv.mp u), fun u => w (Or.inl (wv.1.mp u)), fun u => w (Or.inr (wv.2.mp u))⟩, c⟩
  · rintro ⟨⟨np, nq⟩, ⟨s1, s2⟩, t1, t2, ⟨o, w1, w2⟩, c⟩
    obtain ⟨hp, hR1, hC1⟩ := nx_b np
    obtain ⟨hq, hR2, hC2⟩ := nx_b nq
    have m1 := ((pl_iff np ha a0 h hA).mp s1).1
    have m2 := ((pl_iff nq hb b0 h hB).mp s2).1
    have r1 := (rm_iff h np).mp s1.2.1
    have r2 := (rm_iff h nq).mp s2.2.1
    have o2 : ¬ ovl I (rce I a) b n2 (plR q - plR p) (plC q - plC p) := fun u => o (cv.mpr u)
    have m : mL (pl (pl I a p) b q) wn := (may_2 ne np nq ha hb a0 b0 h hA hB).mpr ⟨m1, m2, o2, fun u => u.elim (fun v => w1 (wv.1.mpr v)) (fun v => w2 (wv.2.mpr v)), c⟩
    have la : lyB (pl (pl I a p) b q) a := (ly_pl hq ne).mpr (ly_plq hp)
    rw [rce_pl hp, show tcP (oL I) (rce I a) p ↔ sdC I a n1 (plR p) (plC p) ≠ 0 from tc_iff h hA r1, show tcP (oL I) (rce I b) q ↔ sdC I b n2 (plR q) (plC q) ≠ 0 from tc_iff h hB r2]
    rw [sdA_nb m.1 ha hb la (ly_plq hq), nbS_sy (ok_95 m.1 hb (ly_plq hq)) (ok_95 m.1 ha la), ← sdA_nb m.1 hb ha (ly_plq hq) la, sd_2 ne hp hq ha hb hB hR2 hC2 m.1 o2]
    exact ⟨np, rmP_iff.mpr r1, nq, rmP_iff.mpr r2, t1, t2, m⟩
theorem fz2_sy (ne : a ≠ b) (ha : a < 10) (hb : b < 10) : fz2 I (oL I) a b wn p q → fz2 I (oL I) b a wn q p := by
  unfold fz2 fzB
  rintro ⟨np, r1, nq, r2, t1, t2, m⟩
  obtain ⟨hp, _, _⟩ := nx_b np
  obtain ⟨hq, _, _⟩ := nx_b nq
  rw [rce_pl hp] at r2 t1 t2
  have la : lyB (pl (pl I a p) b q) a := (ly_pl hq ne).mpr (ly_plq hp)
  rw [sdA_nb m.1 ha hb la (ly_plq hq), nbS_sy (ok_95 m.1 hb (ly_plq hq)) (ok_95 m.1 ha la), ← sdA_nb m.1 hb ha (ly_plq hq) la] at t2
  rw [pl_comm ne hp hq] at m t2
  refine ⟨nq, r2, np, by rw [rce_pl hq]; exact r1, by rw [rce_pl hq]; exact t1.symm, ?_, m⟩
  rw [rce_pl hq]
  rcases t2 with u | u
  · exact Or.inl u.symm
  · exact Or.inr u
end TC
