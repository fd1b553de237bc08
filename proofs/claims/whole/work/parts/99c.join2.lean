/-! join of two: both -/
theorem wPM_pl {I I' : Nat → Nat → Int32} {a b : Nat} {ce : Nat → Int} {R C p : Int} (hp : pb0 p) (hb : b < 10) (w : wPut I I' b ce R C) : wPut (pl I a p) (pl I' a p) b ce R C := by
  have bq := bI_ne hb (show 0 < 13 by decide)
  have o : ∀ {id : Nat} (Z : Nat → Nat → Int32) (k : Nat), id ≤ 170 → rd (pl Z a p) id k = rd Z id k := fun Z k u => pl_o hp (by omega) k
  have ta : ∀ i, tF (pl I a p) (bI b 7) (bI b 8) 5 i = tF I (bI b 7) (bI b 8) 5 i := fun i => tF_cg (fun k => o I k (by have := bI_ne hb (show 7 < 13 by decide); omega)) (fun k => o I k (by have := bI_ne hb (show 8 < 13 by decide); omega)) 5 i
  have td : ∀ i, tF (pl I a p) (bI b 10) (bI b 11) 10 i = tF I (bI b 10) (bI b 11) 10 i := fun i => tF_cg (fun k => o I k (by have := bI_ne hb (show 10 < 13 by decide); omega)) (fun k => o I k (by have := bI_ne hb (show 11 < 13 by decide); omega)) 10 i
  have la : ∀ l, laA (pl I a p) b R l ↔ laA I b R l := fun l => by unfold laA; rw [ta]
  have ld : ∀ l, laD (pl I a p) b C l ↔ laD I b C l := fun l => by unfold laD; rw [td]
  refine wPM_mk ⟨fun k => ?_, fun k => ?_, fun l => ?_, fun l => ?_, fun l => ?_, fun l => ?_, ?_, ?_, ?_, ?_, fun id k u1 u2 u3 => ?_⟩
  · rw [o I' k (by omega), o I k (by omega)]; exact w.sg k
  · rw [o I' k (by omega), o I k (by omega)]; exact w.ow k
  · rw [o I' l (by omega), w.a1 l]
    by_cases g : laA I b R l
    · rw [if_pos g, if_pos ((la l).mpr g), ta]
    · rw [if_neg g, if_neg (fun u => g ((la l).mp u)), o I l (by omega)]
  · rw [o I' l (by omega), o I l (by omega), w.a2 l]; exact (if_cg (la l)).symm
  · rw [o I' l (by omega), w.d1 l]
    by_cases g : laD I b C l
    · rw [if_pos g, if_pos ((ld l).mpr g), td]
    · rw [if_neg g, if_neg (fun u => g ((ld l).mp u)), o I l (by omega)]
  · rw [o I' l (by omega), o I l (by omega), w.d2 l]; exact (if_cg (ld l)).symm
  · rw [o I' _ (by omega)]; exact w.lie
  · rw [o I' _ (by omega)]; exact w.ro
  · rw [o I' _ (by omega)]; exact w.co
  · rw [o I' _ (by omega), o I _ (by omega)]; exact w.ly
  · rw [pl_rd hp, pl_rd hp, w.fr id k u1 u2 u3]
section CJ
variable {I : Nat → Nat → Int32} {J : Nat → Nat → Int64}
/-- what the class and the reference find for two -/
theorem two_eq (h : Inv I J) {a b wn : Nat} (ne : a ≠ b) (ha : a < 10) (hb : b < 10) (ba : rd I 173 a ≠ 0) (bb : rd I 173 b ≠ 0) (a0 : rd I 177 a = 0) (b0 : rd I 177 b = 0) {x y : Int} : fz2 I (oL I) a b wn x y ↔ SP I a b (nCe I a) (nCe I b) wn (rce I a) (rce I b) x y := by
  have hA := Hb_of h ha ba
  have hB := Hb_of h hb bb
  rw [fz2_iff ne ha hb (lyZ a0) (lyZ b0) h.2.2.2.2.2.2.1 hA hB]
  unfold SP
  rw [gW_ne hA.1 hB.1 (shK_of h)]
  have s1 := sdC_bd hA.1.2.2.1 (plR x) (plC x)
  have s2 := sdC_bd hB.1.2.2.1 (plR y) (plC y)
  constructor
  · rintro ⟨n, p, t1, t2, c, d⟩
    exact ⟨n, p, by omega, ⟨by omega, c⟩, d⟩
  · rintro ⟨n, p, t1, ⟨t2, c⟩, d⟩
    exact ⟨n, p, by omega, by omega, c, d⟩
theorem two_w (h : Inv I J) {a b wn : Nat} (ne : a ≠ b) (ha : a < 10) (hb : b < 10) (ba : rd I 173 a ≠ 0) (bb : rd I 173 b ≠ 0) (a0 : rd I 177 a = 0) (b0 : rd I 177 b = 0) {x y : Int} (s : SP I a b (nCe I a) (nCe I b) wn (rce I a) (rce I b) x y) : mL (pl (pl I a x) b y) wn ∧ wA (pl (pl I a x) b y) = wA I + gW I a b (nCe I a) (nCe I b) (rce I a) (plR x) (plC x) (plR y) (plC y) := by
  have hA := Hb_of h ha ba
  have hB := Hb_of h hb bb
  have f := (two_eq h ne ha hb ba bb a0 b0).mpr s
  have m : mL (pl (pl I a x) b y) wn := f.2.2.2.2.2.2
  refine ⟨m, ?_⟩
  have g := (gW_ne hA.1 hB.1 (shK_of h)).mp s.2.2.2.1
  rw [worth_2 ne s.1.1 s.1.2 ha hb (lyZ a0) (lyZ b0) h.2.2.2.2.2.2.1 hA hB m]
  have e : gW I a b (nCe I a) (nCe I b) (rce I a) (plR x) (plC x) (plR y) (plC y) = _ := if_pos g
  rw [e]
/-- the reference's set, by the lesser first -/
theorem set_2 {a b wn : Nat} (ne : a ≠ b) (ha : a < 10) (hb : b < 10) {lo hi : Nat} (hl : (a < b ∧ lo = a ∧ hi = b) ∨ (b < a ∧ lo = b ∧ hi = a)) (x y : Int) : (∃ p' q' : Int, fz2 I (oL I) a b wn p' q' ∧ x = xx a b p' q' ∧ y = yy a b p' q') ↔ fz2 I (oL I) lo hi wn x y := by
  rcases hl with ⟨u, e1, e2⟩ | ⟨u, e1, e2⟩
  · subst e1 e2
    have c : ((lo : Int) < hi) := by omega
    constructor
    · rintro ⟨p', q', f, ex, ey⟩
      rw [show xx (lo : Int) hi p' q' = p' from if_pos (Or.inr c)] at ex
      rw [show yy (lo : Int) hi p' q' = q' from if_pos (Or.inr c)] at ey
      rw [ex, ey]; exact f
    · intro f
      exact ⟨x, y, f, (if_pos (Or.inr c)).symm, (if_pos (Or.inr c)).symm⟩
  · subst e1 e2
    have c : ¬ ((hi : Int) < lo) := by omega
    constructor
    · rintro ⟨p', q', f, ex, ey⟩
      rw [show xx (hi : Int) lo p' q' = q' from if_neg (by omega)] at ex
      rw [show yy (hi : Int) lo p' q' = p' from if_neg (by omega)] at ey
      rw [ex, ey]; exact fz2_sy ne ha hb f
    · intro f
      exact ⟨y, x, fz2_sy (fun e => ne e.symm) hb ha f, (show xx (hi : Int) lo y x = x from if_neg (by omega)).symm, (show yy (hi : Int) lo y x = y from if_neg (by omega)).symm⟩
theorem w_2 {a b : Nat} (ne : a ≠ b) {lo hi : Nat} (hl : (a < b ∧ lo = a ∧ hi = b) ∨ (b < a ∧ lo = b ∧ hi = a)) {x y : Int} (hx : pb0 x) (hy : pb0 y) : (if (a : Int) < b then wA (pl (pl I a x) b y) else wA (pl (pl I a y) b x)) = wA (pl (pl I lo x) hi y) := by
  rcases hl with ⟨u, e1, e2⟩ | ⟨u, e1, e2⟩
  · subst e1 e2
    rw [if_pos (by omega)]
  · subst e1 e2
    rw [if_neg (by omega), pl_comm ne hy hx]
set_option maxHeartbeats 8000000 in
theorem cal_join2 (h : Inv I J) {a b : Int} (ba : -2147483648 ≤ a ∧ a < 2147483648) (bb : -2147483648 ≤ b ∧ b < 2147483648) (hb1 : b ≠ -1) : both yX11_join kX11_join yX12_join kX12_join [.int (iI a), .int (iI b)] I J := by
  have H := h.2.1
  have hs := h.2.2.2.2.2.2.1
  obtain ⟨wn, w⟩ := id h.2.2.2.2.2.1
  refine x11_join (hK_of h) (shK_of h) w (fw_of h) (fun q hq => (H q hq).1.1) ba bb (fun g => ?_) (fun qa ea la e => absurd e hb1) (fun qa ea la e => absurd e hb1) (fun lo hi o lt la lb no I' J' fx j => ?_) (fun lo hi o lt la lb R1 C1 R2 C2 gg bs gn rg1 rg2 I1 I2 I3 J' fx j w2 w3 => ?_)
  · have key : ∀ qa qb : Nat, a = qa → qa < 10 → rd I 173 qa ≠ 0 → rd I 177 qa = 0 → b = qb → qb < 10 → rd I 173 qb ≠ 0 → rd I 177 qb = 0 → qa ≠ qb → anyL I → False := fun qa qb e1 e2 e3 e4 e5 e6 e7 e8 e9 e10 => by
      rcases g with g | ⟨_, g | g⟩
      · exact g qa e1 ((loC_iff h).mpr ⟨e2, e3, e4, e10⟩)
      · exact g qb e5 ((loC_iff h).mpr ⟨e6, e7, e8, e10⟩)
      · omega
    exact x12_join2 h.2.2.1 w.r w.le w.2.2.2.1 hs.1 ba bb hb1 (fun _ => sameA_mk h) (fun qa qb e1 e2 e3 e4 e5 e6 e7 e8 e9 e10 => (key qa qb e1 e2 e3 e4 e5 e6 e7 e8 e9 e10).elim) (fun qa qb e1 e2 e3 e4 e5 e6 e7 e8 e9 e10 => (key qa qb e1 e2 e3 e4 e5 e6 e7 e8 e9 e10).elim)
  · obtain ⟨l1, l2, l3, l4⟩ := (loC_iff h).mp la
    obtain ⟨k1, k2, k3, k4⟩ := (loC_iff h).mp lb
    have rp : rP2 I I' := fun id k u => fx id k (by omega)
    have h' := Inv_fS h fx j
    have w' : wRL I' J' wn := wRL_S fx j w
    refine x12_join2 h'.2.2.1 w'.r w'.le w'.2.2.2.1 h'.2.2.2.2.2.2.1.1 ba bb hb1 (fun g => ?_) (fun qa qb e1 e2 e3 e4 e5 e6 e7 e8 e9 e10 _ I2 s2 r2 => ?_) (fun qa qb e1 e2 e3 e4 e5 e6 e7 e8 e9 e10 bw bA bB b' bn => ?_)
    · have y1 : rd I' 173 lo ≠ 0 ∧ rd I' 177 lo = 0 := ⟨by rw [rp _ _ (by omega)]; exact l2, by rw [rp _ _ (by omega)]; exact l3⟩
      have y2 : rd I' 173 hi ≠ 0 ∧ rd I' 177 hi = 0 := ⟨by rw [rp _ _ (by omega)]; exact k2, by rw [rp _ _ (by omega)]; exact k3⟩
      rcases g with g | g | g | g
      · rcases o with o | o
        · exact absurd y1.2 (g lo o.1 l1 y1.1)
        · exact absurd y2.2 (g hi o.1 k1 y2.1)
      · rcases o with o | o
        · exact absurd y2.2 (g hi o.2 k1 y2.1)
        · exact absurd y1.2 (g lo o.2 l1 y1.1)
      · omega
      · exact absurd ((rP_any rp).mpr l4) g
    · exact sameA_mk (Inv_sJ h' s2 (fun k e => by
        rcases e with e | e
        · rw [e]; exact lyZ e4
        · rw [e]; exact lyZ e8) r2)
    · have hl : (qa < qb ∧ lo = qa ∧ hi = qb) ∨ (qb < qa ∧ lo = qb ∧ hi = qa) := by clear b' no; omega
      have u := (set_2 (I := I') (wn := wn) e9 e2 e6 hl bA bB).mp (b'.2.2 bn).1
      rw [fz2_rP rp, two_eq h (by omega) l1 k1 l2 k2 l3 k3] at u
      exact absurd u (no bA bB)
  · obtain ⟨l1, l2, l3, l4⟩ := (loC_iff h).mp la
    obtain ⟨k1, k2, k3, k4⟩ := (loC_iff h).mp lb
    have bq := bI_ne l1 (show 0 < 13 by decide)
    have br := bI_ne k1 (show 0 < 13 by decide)
    have h1 := Inv_fS h fx j
    have rp1 : rP2 I I1 := fun id k u => fx id k (by omega)
    have rp2 : rP2 I I2 := fun id k u => by rw [w2.fr id k (by omega) (by omega) (by omega)]; exact rp1 id k u
    have rp3 : rP2 I I3 := fun id k u => by rw [w3.fr id k (by omega) (by omega) (by omega)]; exact rp2 id k u
    have c0 : rd I3 171 12 = wn := by rw [rp3 _ _ (by omega)]; exact w.r
    have hr3 : rg I3 := rg_cg h.2.2.1 (fun k => rp3 _ _ (by omega)) (fun k => rp3 _ _ (by omega))
    refine x12_join2 hr3 c0 w.le (fun v hv => by rw [rp3 _ _ (by omega)]; exact w.2.2.2.1 v hv) ((okL_R (rP_fR rp3) 10).mpr hs.1) ba bb hb1 (fun g => ?_) (fun qa qb e1 e2 e3 e4 e5 e6 e7 e8 e9 e10 no => ?_) (fun qa qb e1 e2 e3 e4 e5 e6 e7 e8 e9 e10 bw bA bB b' bn nn I4 s4 r4 => ?_)
    · have y1 : rd I3 173 lo ≠ 0 ∧ rd I3 177 lo = 0 := ⟨by rw [rp3 _ _ (by omega)]; exact l2, by rw [rp3 _ _ (by omega)]; exact l3⟩
      have y2 : rd I3 173 hi ≠ 0 ∧ rd I3 177 hi = 0 := ⟨by rw [rp3 _ _ (by omega)]; exact k2, by rw [rp3 _ _ (by omega)]; exact k3⟩
      rcases g with g | g | g | g
      · rcases o with o | o
        · exact absurd y1.2 (g lo o.1 l1 y1.1)
        · exact absurd y2.2 (g hi o.1 k1 y2.1)
      · rcases o with o | o
        · exact absurd y2.2 (g hi o.2 k1 y2.1)
        · exact absurd y1.2 (g lo o.2 l1 y1.1)
      · omega
      · exact absurd ((rP_any rp3).mpr l4) g
    · have hl : (qa < qb ∧ lo = qa ∧ hi = qb) ∨ (qb < qa ∧ lo = qb ∧ hi = qa) := by clear bs no; omega
      have u := (bs.2.2 gn).1
      rw [← two_eq h (by omega) l1 k1 l2 k2 l3 k3, ← fz2_rP rp3, ← set_2 e9 e2 e6 hl] at u
      obtain ⟨p', q', f, _⟩ := u
      exact absurd f (no p' q')
    · have hl : (qa < qb ∧ lo = qa ∧ hi = qb) ∨ (qb < qa ∧ lo = qb ∧ hi = qa) := by clear bs b'; omega
      have b2 : BS bw bA bB (SP I lo hi (nCe I lo) (nCe I hi) wn (rce I lo) (rce I hi)) (fun x y => if (qa : Int) < qb then wA (pl (pl I3 qa x) qb y) else wA (pl (pl I3 qa y) qb x)) := BS_cg b' (fun x y => by rw [set_2 e9 e2 e6 hl, fz2_rP rp3, two_eq h (by omega) l1 k1 l2 k2 l3 k3])
      have wv : ∀ x y, SP I lo hi (nCe I lo) (nCe I hi) wn (rce I lo) (rce I hi) x y → (if (qa : Int) < qb then wA (pl (pl I3 qa x) qb y) else wA (pl (pl I3 qa y) qb x)) = wA (pl (pl I lo x) hi y) := fun x y s => by
        have b1 := (nx_b s.1.1).1
        have b2 := (nx_b s.1.2).1
        rw [w_2 e9 hl b1 b2]
        exact wA_R (pl_fR (pl_fR (rP_fR rp3) b1) b2)
      have cmp := BS_cmp (c := wA I) bs b2 (fun x y s => by
        show (if (qa : Int) < qb then wA (pl (pl I3 qa x) qb y) else wA (pl (pl I3 qa y) qb x)) = _
        rw [wv x y s, (two_w h (by omega) l1 k1 l2 k2 l3 k3 s).2]) gn
      obtain ⟨_, cA_, cB_, cw⟩ := cmp
      have s0 := (bs.2.2 gn).1
      have m2 := (two_w h (by omega) l1 k1 l2 k2 l3 k3 s0).1
      have e4w := (b2.2.2 bn).2.1
      rw [← cA_, ← cB_] at s4 e4w
      have e4v : wA (pl (pl I lo (pn R1 C1)) hi (pn R2 C2)) = bw := by rw [← wv _ _ s0]; exact e4w
      have p1 := pn_rc rg1
      have p2 := pn_rc rg2
      have b1 := (nx_b p1.2.2).1
      have b3 := (nx_b p2.2.2).1
      have lne : lo ≠ hi := by omega
      have s4' : sJ (fun _ => False) (pl (pl I3 lo (pn R1 C1)) hi (pn R2 C2)) I4 := by
        rcases hl with ⟨u, v1, v2⟩ | ⟨u, v1, v2⟩
        · rw [if_pos u, ← v1, ← v2] at s4; exact s4
        · rw [if_neg (by omega), ← v1, ← v2] at s4; exact s4
      have y4 : ∀ id k, ¬ sc0 id k → rd I4 id k = rd (pl (pl I3 lo (pn R1 C1)) hi (pn R2 C2)) id k := fun id k u => s4' id k (fun v => u (by
        rcases v with v | v | v | v
        · unfold sc0; unfold S3 at v; omega
        · unfold sc0; omega
        · unfold sc0; omega
        · exact absurd v.2 (fun z => z)))
      have m1 : mL (pl I lo (pn R1 C1)) wn := ((may_2 lne p1.2.2 p2.2.2 l1 k1 (lyZ l3) (lyZ k3) hs (Hb_of h l1 l2) (Hb_of h k1 k2)).mp m2).1
      have im : Inv (pl I2 lo (pn R1 C1)) J' := by
        refine Inv_put (I1 := I2) (J' := J') h1 l1 (by rw [rp1 _ _ (by omega)]; exact l2) (by rw [show lyB I1 lo ↔ lyB I lo from by unfold lyB; rw [rp1 _ _ (by omega)]]; exact lyZ l3) rg1 ((mL_R (pl_fR (rP_fR rp1) b1) wn).mpr m1) (by rw [rce_R (rP_fR rp1)]; exact w2) (fun id k u v => ?_) ?_ ?_ ?_ (fun _ _ _ _ => rfl)
        · rw [pl_pn rg1, rd_3 rg1, if_neg (fun z => u ⟨Or.inr (Or.inr z.1), z.2⟩), if_neg (fun z => u ⟨Or.inr (Or.inl z.1), z.2⟩), if_neg (fun z => u ⟨Or.inl z.1, z.2⟩)]
        · rw [pl_pn rg1, rd_3 rg1, if_neg (by omega), if_neg (by omega), if_pos ⟨rfl, rfl⟩]
        · rw [pl_pn rg1, rd_3 rg1, if_neg (by omega), if_pos ⟨rfl, rfl⟩]
        · rw [pl_pn rg1, rd_3 rg1, if_pos ⟨rfl, rfl⟩]
      have fm : fR (pl I lo (pn R1 C1)) (pl I2 lo (pn R1 C1)) := pl_fR (rP_fR rp2) b1
      have i4 : Inv I4 J' := by
        refine Inv_put (I1 := pl I3 lo (pn R1 C1)) (J' := J') im k1 (by rw [pl_o b1 (by decide), rp2 _ _ (by omega)]; exact k2) (fun z => ?_) rg2 ((mL_R (pl_fR fm b3) wn).mpr m2) (wPM_pl b1 k1 (by rw [rce_pl b1, rce_R (rP_fR rp2)]; exact w3)) (fun id k u v => ?_) ?_ ?_ ?_ (fun _ _ _ _ => rfl)
        · rw [ly_pl b1 (fun e => lne e.symm)] at z
          unfold lyB at z
          rw [rp2 _ _ (by omega)] at z
          exact z k3
        · rw [y4 id k v, pl_pn rg2, rd_3 rg2, if_neg (fun z => u ⟨Or.inr (Or.inr z.1), z.2⟩), if_neg (fun z => u ⟨Or.inr (Or.inl z.1), z.2⟩), if_neg (fun z => u ⟨Or.inl z.1, z.2⟩)]
        · rw [y4 _ _ (by unfold sc0; omega), pl_pn rg2, rd_3 rg2, if_neg (by omega), if_neg (by omega), if_pos ⟨rfl, rfl⟩]
        · rw [y4 _ _ (by unfold sc0; omega), pl_pn rg2, rd_3 rg2, if_neg (by omega), if_pos ⟨rfl, rfl⟩]
        · rw [y4 _ _ (by unfold sc0; omega), pl_pn rg2, rd_3 rg2, if_pos ⟨rfl, rfl⟩]
      refine sameA_mk2 ?_ i4
      have e1 : wW I4 = wW I3 := wW_cg (fun id k u1 u2 => by rw [y4 id k (by unfold sc0; omega), pl_o b3 (by omega), pl_o b1 (by omega)])
      have e2 : wW I4 = wA I4 := worth_eq i4.2.2.2.2.2.2.1
      have e3 : wA I4 = wA (pl (pl I lo (pn R1 C1)) hi (pn R2 C2)) := by
        have r1 : fR (pl (pl I3 lo (pn R1 C1)) hi (pn R2 C2)) I4 := fun id k u => y4 id k (by unfold sc0; omega)
        rw [wA_R r1]
        exact wA_R (pl_fR (pl_fR (rP_fR rp3) b1) b3)
      rw [← e1, e2, e3]
      exact e4v
theorem cal_join (h : Inv I J) {a b : Int} (ba : -2147483648 ≤ a ∧ a < 2147483648) (bb : -2147483648 ≤ b ∧ b < 2147483648) : both yX11_join kX11_join yX12_join kX12_join [.int (iI a), .int (iI b)] I J := by
  by_cases e : b = -1
  · rw [e]; exact cal_join1 h ba
  · exact cal_join2 h ba bb e
end CJ
