/-! join, joins: both -/
theorem BS_cmp {g A B w A' B' c : Int} {S : Int → Int → Prop} {u v : Int → Int → Int} (h : BS g A B S u) (h' : BS w A' B' S v) (e : ∀ x y, S x y → v x y = c + u x y) (gn : g ≠ -1) : w ≠ -1 ∧ A = A' ∧ B = B' ∧ w = c + g := by
  obtain ⟨h0, h1, h2⟩ := h
  obtain ⟨k0, k1, k2⟩ := h'
  obtain ⟨a1, a2, a3⟩ := h2 gn
  have wn : w ≠ -1 := fun q => k1 q _ _ a1
  obtain ⟨b1, b2, b3⟩ := k2 wn
  have c1 := a3 _ _ b1
  have c2 := b3 _ _ a1
  have e1 := e _ _ a1
  have e2 := e _ _ b1
  rw [a2] at e1
  rw [b2] at e2
  rw [e1] at c2
  refine ⟨wn, by omega, by omega, by omega⟩
section CI
variable {I : Nat → Nat → Int32} {J : Nat → Nat → Int64}
theorem any_iff (h : Inv I J) : rd I 142 4 ≠ 0 ↔ anyL I := by
  have i := h.2.2.2.2.2.2.2
  unfold lyN at i
  rw [i]
  constructor
  · intro u
    obtain ⟨b, hb, v⟩ := smN_ex u
    exact ⟨b, hb, Classical.byContradiction fun w => v (if_neg w)⟩
  · rintro ⟨b, hb, l⟩ u
    have := smN_ge (f := fun b => if lyB I b then (1 : Int) else 0) (n := 10) (k := b) (fun j _ => by show (0 : Int) ≤ if _ then _ else _; split <;> omega) hb
    have v : (fun b => if lyB I b then (1 : Int) else 0) b = 1 := if_pos l
    omega
theorem loC_iff (h : Inv I J) {q : Nat} : loC I q ↔ q < 10 ∧ rd I 173 q ≠ 0 ∧ rd I 177 q = 0 ∧ anyL I := by
  unfold loC
  constructor
  · rintro ⟨a, b, c, d⟩
    exact ⟨a, (h.2.1 q a).1.2.1.mp b, by rw [← (h.2.1 q a).2.1.1]; exact c, (any_iff h).mp d⟩
  · rintro ⟨a, b, c, d⟩
    exact ⟨a, (h.2.1 q a).1.2.1.mpr b, by rw [(h.2.1 q a).2.1.1]; exact c, (any_iff h).mpr d⟩
theorem hK_of (h : Inv I J) : ∀ q, q < 10 → rd I (bI q 0) 4 ≠ 0 → bK I q (rce I q) (nCe I q) := fun q hq u => (Hb_of h hq ((h.2.1 q hq).1.2.1.mp u)).1
theorem Inv_fS {I' : Nat → Nat → Int32} {J' : Nat → Nat → Int64} (h : Inv I J) (hx : fS I I') (hj : ∀ id k, id ≠ 140 → id ≠ 141 → J' id k = J id k) : Inv I' J' := Inv_sc h (fun id k u => hx id k (fun v => u (Or.inl v))) hj (rg_cg h.2.2.1 (fun k => hx _ _ (by omega)) (fun k => hx _ _ (by omega)))
theorem Inv_sJ {I' : Nat → Nat → Int32} {Y : Nat → Prop} (h : Inv I J) (hx : sJ Y I I') (hy : ∀ k, Y k → ¬ lyB I k) (hr : rg I') : Inv I' J := Inv_sc h (fun id k u => hx id k (fun v => u (by
  rcases v with v | v | v | v
  · unfold scr; unfold S3 at v; omega
  · unfold scr; omega
  · unfold scr; omega
  · exact Or.inr (Or.inr (Or.inr (Or.inr (Or.inr (Or.inr ⟨v.1, hy k v.2⟩)))))))) (fun _ _ _ _ => rfl) hr
/-- the reference's part of two memories is one -/
abbrev rP2 (I I' : Nat → Nat → Int32) : Prop := ∀ id k, 171 ≤ id → rd I' id k = rd I id k
theorem rP_fR {I' : Nat → Nat → Int32} (h : rP2 I I') : fR I I' := fun id k u => h id k (by omega)
theorem rP_any {I' : Nat → Nat → Int32} (h : rP2 I I') : anyL I' ↔ anyL I := by
  unfold anyL lyB
  simp only [fun b => h 177 b (by omega)]
theorem fzA_rP {I' : Nat → Nat → Int32} (h : rP2 I I') {a wn : Nat} {p : Int} : fzA I' (oL I') a wn p ↔ fzA I (oL I) a wn p := by
  rw [oL_R (rP_fR h)]
  exact fzA_cg (fun _ _ => rfl) (rP_fR h)
theorem fz2_rP {I' : Nat → Nat → Int32} (h : rP2 I I') {a b wn : Nat} {p q : Int} : fz2 I' (oL I') a b wn p q ↔ fz2 I (oL I) a b wn p q := by
  rw [oL_R (rP_fR h)]
  exact fz2_cg (fun _ _ => rfl) (rP_fR h)
theorem cal_joins (h : Inv I J) {a : Int} (ba : -2147483648 ≤ a ∧ a < 2147483648) : both yX11_joins kX11_joins yX12_joins kX12_joins [.int (iI a)] I J := by
  have hs := h.2.2.2.2.2.2.1
  obtain ⟨wn, w⟩ := id h.2.2.2.2.2.1
  refine x11_joins (hK_of h) (shK_of h) w ba (fun g => ?_) (fun qa ea la I' J' m fx j p => ?_)
  · refine x12_joins h.2.2.1 w.r w.le w.2.2.2.1 hs.1 ba (fun _ => sameA_mk h) (fun qa e1 e2 e3 e4 e5 => ?_)
    exact absurd ((loC_iff h).mpr ⟨e2, e3, e4, e5⟩) (g qa e1)
  · obtain ⟨l1, l2, l3, l4⟩ := (loC_iff h).mp la
    have rp : rP2 I I' := fun id k u => fx id k (by omega)
    have h' := Inv_fS h fx j
    have w' : wRL I' J' wn := wRL_S fx j w
    refine x12_joins h'.2.2.1 w'.r w'.le w'.2.2.2.1 h'.2.2.2.2.2.2.1.1 ba (fun g => ?_) (fun q' e1 e2 e3 e4 e5 I2 s2 r2 => ?_)
    · rcases g with g | g
      · exact absurd (by rw [rp _ _ (by omega)]; exact l3) (g qa ea l1 (by rw [rp _ _ (by omega)]; exact l2))
      · exact absurd ((rP_any rp).mpr l4) g
    · have eq : q' = qa := by omega
      subst eq
      refine sameA_mk2 ?_ (Inv_sJ h' s2 (fun k e => by rw [e]; exact lyZ e4) r2)
      have c := cn_pE (I := I) (Z := fun x => fzA I' (oL I') q' wn x) p plS_rg (fun x => by
        rw [fzA_rP rp]
        exact fzA_iff l1 (lyZ l3) hs (Hb_of h l1 l2))
      exact c.symm
/-- what the class and the reference find for one -/
theorem one_eq (h : Inv I J) {q wn : Nat} (hq : q < 10) (hb : rd I 173 q ≠ 0) (h0 : rd I 177 q = 0) {x : Int} : fzA I (oL I) q wn x ↔ nx x ∧ plS I q (rce I q) (nCe I q) wn 1 (plR x) (plC x) := fzA_iff hq (lyZ h0) h.2.2.2.2.2.2.1 (Hb_of h hq hb)
theorem wW_cg {I' : Nat → Nat → Int32} (h : ∀ id k, 144 ≤ id → id ≤ 150 → rd I' id k = rd I id k) : wW I' = wW I := by
  have o : ∀ y x, owAt I' y x = owAt I y x := fun y x => by unfold owAt; rw [h 144 _ (by omega) (by omega)]
  unfold wW mT
  simp only [o, fun l => h 147 l (by omega) (by omega), fun l => h 150 l (by omega) (by omega)]
set_option maxHeartbeats 4000000 in
theorem cal_join1 (h : Inv I J) {a : Int} (ba : -2147483648 ≤ a ∧ a < 2147483648) : both yX11_join kX11_join yX12_join kX12_join [.int (iI a), .int (iI (-1))] I J := by
  have H := h.2.1
  have hs := h.2.2.2.2.2.2.1
  obtain ⟨wn, w⟩ := id h.2.2.2.2.2.1
  refine x11_join (hK_of h) (shK_of h) w (fw_of h) (fun q hq => (H q hq).1.1) ba (by decide) (fun g => ?_) (fun qa ea la _ no I' J' fx j => ?_) (fun qa ea la _ R C gg bs gn rng I1 I2 J' fx j w2 => ?_) (fun qa qb o => by omega) (fun qa qb o => by omega)
  · have g' : ∀ q : Nat, a = q → ¬ loC I q := g.elim id (fun u => absurd rfl u.1)
    refine x12_join1 h.2.2.1 w.r w.le w.2.2.2.1 hs.1 ba (fun _ => sameA_mk h) (fun qa e1 e2 e3 e4 e5 => ?_) (fun qa e1 e2 e3 e4 e5 => ?_)
    · exact absurd ((loC_iff h).mpr ⟨e2, e3, e4, e5⟩) (g' qa e1)
    · exact absurd ((loC_iff h).mpr ⟨e2, e3, e4, e5⟩) (g' qa e1)
  · obtain ⟨l1, l2, l3, l4⟩ := (loC_iff h).mp la
    have rp : rP2 I I' := fun id k u => fx id k (by omega)
    have h' := Inv_fS h fx j
    have w' : wRL I' J' wn := wRL_S fx j w
    refine x12_join1 h'.2.2.1 w'.r w'.le w'.2.2.2.1 h'.2.2.2.2.2.2.1.1 ba (fun g => ?_) (fun q' e1 e2 e3 e4 e5 _ I2 s2 r2 => ?_) (fun q' e1 e2 e3 e4 e5 bw bA bB b' bn => ?_)
    · rcases g with g | g
      · exact absurd (by rw [rp _ _ (by omega)]; exact l3) (g qa ea l1 (by rw [rp _ _ (by omega)]; exact l2))
      · exact absurd ((rP_any rp).mpr l4) g
    · exact sameA_mk (Inv_sJ h' s2 (fun k e => by rw [e]; exact lyZ e4) r2)
    · have eq : q' = qa := by omega
      subst eq
      have u := (b'.2.2 bn).1.1
      rw [fzA_rP rp] at u
      exact absurd ((one_eq h l1 l2 l3).mp u) (no bA)
  · obtain ⟨l1, l2, l3, l4⟩ := (loC_iff h).mp la
    have bq := bI_ne l1 (show 0 < 13 by decide)
    have h1 := Inv_fS h fx j
    have rp1 : rP2 I I1 := fun id k u => fx id k (by omega)
    have rp2 : rP2 I I2 := fun id k u => by rw [w2.fr id k (by omega) (by omega) (by omega)]; exact rp1 id k u
    have w' : wRL I1 J' wn := wRL_S fx j w
    have c0 : rd I2 171 12 = wn := by rw [rp2 _ _ (by omega)]; exact w.r
    have hr2 : rg I2 := rg_cg h.2.2.1 (fun k => rp2 _ _ (by omega)) (fun k => rp2 _ _ (by omega))
    refine x12_join1 hr2 c0 w.le (fun v hv => by rw [rp2 _ _ (by omega)]; exact w.2.2.2.1 v hv) ((okL_R (rP_fR rp2) 10).mpr hs.1) ba (fun g => ?_) (fun q' e1 e2 e3 e4 e5 no => ?_) (fun q' e1 e2 e3 e4 e5 bw bA bB b' bn I3 s3 r3 => ?_)
    · rcases g with g | g
      · exact absurd (by rw [rp2 _ _ (by omega)]; exact l3) (g qa ea l1 (by rw [rp2 _ _ (by omega)]; exact l2))
      · exact absurd ((rP_any rp2).mpr l4) g
    · have eq : q' = qa := by omega
      subst eq
      have u := (bs.2.2 gn).1.1
      exact absurd ((fzA_rP rp2).mpr ((one_eq h l1 l2 l3).mpr u)) (no _)
    · have eq : q' = qa := by omega
      subst eq
      have bs' : BS gg (pn R C) 0 (fun x y => fzA I2 (oL I2) q' wn x ∧ y = 0) (fun x _ => gnC I q' (nCe I q') (plR x) (plC x)) := BS_cg bs (fun x y => by rw [fzA_rP rp2, one_eq h l1 l2 l3])
      have cmp := BS_cmp (c := wA I) bs' b' (fun x y u => by
        have u1 := (fzA_rP rp2).mp u.1
        show wA (pl I2 q' x) = wA I + gnC I q' (nCe I q') (plR x) (plC x)
        rw [wA_R (pl_fR (rP_fR rp2) (by have := nx_bd u1.1; omega))]
        exact worth_1 u1.1 l1 (lyZ l3) hs (Hb_of h l1 l2) u1.2.2.2) gn
      obtain ⟨_, cA_, cB_, cw⟩ := cmp
      have u1 := (fzA_rP rp2).mp (b'.2.2 bn).1.1
      rw [← cA_] at s3 u1 b'
      have p := pn_rc rng
      have m : mL (pl I1 q' (pn R C)) wn := (mL_R (pl_fR (rP_fR rp1) (by have := nx_bd p.2.2; omega)) wn).mpr u1.2.2.2
      have rce1 : rce I1 q' = rce I q' := rce_R (rP_fR rp1) q'
      have y3 : ∀ id k, ¬ sc0 id k → rd I3 id k = rd (pl I2 q' (pn R C)) id k := fun id k u => s3 id k (fun v => u (by
        rcases v with v | v | v | v
        · unfold sc0; unfold S3 at v; omega
        · unfold sc0; omega
        · unfold sc0; omega
        · exact absurd v.2 (fun z => z)))
      have i3 : Inv I3 J' := by
        refine Inv_put (I1 := I2) (J' := J') h1 l1 (by rw [rp1 _ _ (by omega)]; exact l2) (by rw [show lyB I1 q' ↔ lyB I q' from by unfold lyB; rw [rp1 _ _ (by omega)]]; exact lyZ l3) rng m (by rw [rce1]; exact w2) (fun id k u v => ?_) ?_ ?_ ?_ (fun _ _ _ _ => rfl)
        · rw [y3 id k v, pl_pn rng, rd_3 rng, if_neg (fun z => u ⟨Or.inr (Or.inr z.1), z.2⟩), if_neg (fun z => u ⟨Or.inr (Or.inl z.1), z.2⟩), if_neg (fun z => u ⟨Or.inl z.1, z.2⟩)]
        · rw [y3 _ _ (by unfold sc0; omega), pl_pn rng, rd_3 rng, if_neg (by omega), if_neg (by omega), if_pos ⟨rfl, rfl⟩]
        · rw [y3 _ _ (by unfold sc0; omega), pl_pn rng, rd_3 rng, if_neg (by omega), if_pos ⟨rfl, rfl⟩]
        · rw [y3 _ _ (by unfold sc0; omega), pl_pn rng, rd_3 rng, if_pos ⟨rfl, rfl⟩]
      refine sameA_mk2 ?_ i3
      have e1 : wW I3 = wW I2 := wW_cg (fun id k u1 u2 => by rw [y3 id k (by unfold sc0; omega), pl_pn rng, rd_3 rng, if_neg (by omega), if_neg (by omega), if_neg (by omega)])
      have e2 : wW I3 = wA I3 := worth_eq i3.2.2.2.2.2.2.1
      have e3 : wA I3 = wA (pl I2 q' (pn R C)) := wA_R (fun id k u => y3 id k (by unfold sc0; omega))
      have e4 := (b'.2.2 bn).2.1
      rw [← e1, e2, e3]
      exact e4
end CI
