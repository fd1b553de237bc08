/-! a BIT comes, a BIT goes: the sheet of both -/
theorem at_put {I I' : Nat → Nat → Int32} {w : Nat} {ce : Nat → Int} {R C : Int} {f : Nat → Int} (h : ∀ k, rd I' w k = if k < 512 ∧ cA ce R C ((k / 32 : Nat) : Int) ((k % 32 : Nat) : Int) ≠ 95 then f k else rd I w k) {y x : Int} (i : inS y x) : rd I' w (y * 32 + x).toNat = if cA ce R C y x ≠ 95 then f (y * 32 + x).toNat else rd I w (y * 32 + x).toNat := by
  have t : 0 ≤ y ∧ y < 16 ∧ 0 ≤ x ∧ x < 32 := i
  rw [h, show (((y * 32 + x).toNat / 32 : Nat) : Int) = y by omega, show (((y * 32 + x).toNat % 32 : Nat) : Int) = x by omega]
  by_cases g : cA ce R C y x ≠ 95
  · rw [if_pos ⟨by omega, g⟩, if_pos g]
  · rw [if_neg (fun u => g u.2), if_neg g]
theorem lane_put {I I' : Nat → Nat → Int32} {Q P N q : Nat} {t : Int → Int} {R : Int} {rT rT' : Nat → Int → Int} (hq : q < 10) (h0 : ¬ lyB I q) (l1 : lyB I' q) (le : ∀ b, b ≠ q → (lyB I' b ↔ lyB I b)) (re : ∀ b (l : Int), b ≠ q → rT' b l = rT b l) (rq : ∀ l : Int, rT' q l = t (l - R)) (hc : ∀ l : Nat, l < N → rd I Q l = smN (fun b => if lyB I b ∧ rT b (l : Int) ≠ 0 then 1 else 0) 10) (hv : ∀ l : Nat, l < N → ∀ b, b < 10 → lyB I b → rT b (l : Int) ≠ 0 → rd I P l = rT b (l : Int)) (nq : ∀ b, b < 10 → lyB I b → ∀ y : Nat, y < N → ¬ qrP (t ((y : Int) - R)) (rT b (y : Int))) (g1 : ∀ l : Nat, l < N → rd I' P l = if t ((l : Int) - R) ≠ 0 then t ((l : Int) - R) else rd I P l) (g2 : ∀ l : Nat, l < N → rd I' Q l = if t ((l : Int) - R) ≠ 0 then rd I Q l + 1 else rd I Q l) : ∀ l : Nat, l < N → (rd I' Q l = smN (fun b => if lyB I' b ∧ rT' b (l : Int) ≠ 0 then 1 else 0) 10 ∧ ∀ b, b < 10 → lyB I' b → rT' b (l : Int) ≠ 0 → rd I' P l = rT' b (l : Int)) := by
  intro l hl
  constructor
  · have e : smN (fun b => if lyB I' b ∧ rT' b (l : Int) ≠ 0 then (1 : Int) else 0) 10 = smN (fun b => (if lyB I b ∧ rT b (l : Int) ≠ 0 then (1 : Int) else 0) + (if b = q then (if t ((l : Int) - R) ≠ 0 then (1 : Int) else 0) else 0)) 10 := smN_cg (fun b _ => by
      show (if lyB I' b ∧ rT' b (l : Int) ≠ 0 then (1 : Int) else 0) = (if lyB I b ∧ rT b (l : Int) ≠ 0 then (1 : Int) else 0) + (if b = q then (if t ((l : Int) - R) ≠ 0 then (1 : Int) else 0) else 0)
      by_cases f : b = q
      · rw [if_pos f, f, if_neg (show ¬ (lyB I q ∧ rT q (l : Int) ≠ 0) from fun u => h0 u.1), rq]
        by_cases u : t ((l : Int) - R) ≠ 0
        · rw [if_pos u, if_pos ⟨l1, u⟩]; rfl
        · rw [if_neg u, if_neg (fun v => u v.2)]; rfl
      · rw [if_neg f, re b _ f, Int.add_zero]
        by_cases u : lyB I b ∧ rT b (l : Int) ≠ 0
        · rw [if_pos u, if_pos ⟨(le b f).mpr u.1, u.2⟩]
        · rw [if_neg u, if_neg (fun v => u ⟨(le b f).mp v.1, v.2⟩)])
    rw [e, smN_pl, ← hc l hl, smN_one (f := fun b => if b = q then (if t ((l : Int) - R) ≠ 0 then (1 : Int) else 0) else 0) hq (fun j _ hj => if_neg hj), if_pos rfl, g2 l hl]
    by_cases u : t ((l : Int) - R) ≠ 0
    · rw [if_pos u, if_pos u]
    · rw [if_neg u, if_neg u]; omega
  · intro b hb lb rb
    rw [g1 l hl]
    by_cases f : b = q
    · rw [f, rq] at rb ⊢
      rw [if_pos rb]
    · rw [re b _ f] at rb ⊢
      have lb2 := (le b f).mp lb
      by_cases u : t ((l : Int) - R) ≠ 0
      · rw [if_pos u]
        exact Classical.byContradiction fun v => nq b hb lb2 l hl ⟨u, rb, v⟩
      · rw [if_neg u]
        exact hv l hl b hb lb2 rb
theorem lane_del {I I' : Nat → Nat → Int32} {Q P N q : Nat} {t : Int → Int} {R : Int} {rT rT' : Nat → Int → Int} (hq : q < 10) (l1 : lyB I q) (h0 : ¬ lyB I' q) (le : ∀ b, b ≠ q → (lyB I' b ↔ lyB I b)) (re : ∀ b (l : Int), b ≠ q → rT' b l = rT b l) (rq : ∀ l : Int, rT q l = t (l - R)) (hc : ∀ l : Nat, l < N → rd I Q l = smN (fun b => if lyB I b ∧ rT b (l : Int) ≠ 0 then 1 else 0) 10) (hv : ∀ l : Nat, l < N → ∀ b, b < 10 → lyB I b → rT b (l : Int) ≠ 0 → rd I P l = rT b (l : Int)) (g1 : ∀ l : Nat, l < N → rd I' P l = if t ((l : Int) - R) ≠ 0 then t ((l : Int) - R) else rd I P l) (g2 : ∀ l : Nat, l < N → rd I' Q l = if t ((l : Int) - R) ≠ 0 then rd I Q l + (-1) else rd I Q l) : ∀ l : Nat, l < N → (rd I' Q l = smN (fun b => if lyB I' b ∧ rT' b (l : Int) ≠ 0 then 1 else 0) 10 ∧ ∀ b, b < 10 → lyB I' b → rT' b (l : Int) ≠ 0 → rd I' P l = rT' b (l : Int)) := by
  intro l hl
  constructor
  · have e : smN (fun b => if lyB I b ∧ rT b (l : Int) ≠ 0 then (1 : Int) else 0) 10 = smN (fun b => (if lyB I' b ∧ rT' b (l : Int) ≠ 0 then (1 : Int) else 0) + (if b = q then (if t ((l : Int) - R) ≠ 0 then (1 : Int) else 0) else 0)) 10 := smN_cg (fun b _ => by
      show (if lyB I b ∧ rT b (l : Int) ≠ 0 then (1 : Int) else 0) = (if lyB I' b ∧ rT' b (l : Int) ≠ 0 then (1 : Int) else 0) + (if b = q then (if t ((l : Int) - R) ≠ 0 then (1 : Int) else 0) else 0)
      by_cases f : b = q
      · rw [if_pos f, f, if_neg (show ¬ (lyB I' q ∧ rT' q (l : Int) ≠ 0) from fun u => h0 u.1), rq]
        by_cases u : t ((l : Int) - R) ≠ 0
        · rw [if_pos u, if_pos ⟨l1, u⟩]; rfl
        · rw [if_neg u, if_neg (fun v => u v.2)]; rfl
      · rw [if_neg f, re b _ f, Int.add_zero]
        by_cases u : lyB I b ∧ rT b (l : Int) ≠ 0
        · rw [if_pos u, if_pos ⟨(le b f).mpr u.1, u.2⟩]
        · rw [if_neg u, if_neg (fun v => u ⟨(le b f).mp v.1, v.2⟩)])
    have c := hc l hl
    rw [e, smN_pl, smN_one (f := fun b => if b = q then (if t ((l : Int) - R) ≠ 0 then (1 : Int) else 0) else 0) hq (fun j _ hj => if_neg hj), if_pos rfl] at c
    rw [g2 l hl]
    by_cases u : t ((l : Int) - R) ≠ 0
    · rw [if_pos u] at c ⊢; omega
    · rw [if_neg u] at c ⊢; omega
  · intro b hb lb rb
    have f : b ≠ q := fun e => h0 (e ▸ lb)
    rw [re b _ f] at rb ⊢
    have lb2 := (le b f).mp lb
    rw [g1 l hl]
    have v := hv l hl b hb lb2 rb
    by_cases u : t ((l : Int) - R) ≠ 0
    · rw [if_pos u]
      have w := hv l hl q hq l1 (by rw [rq]; exact u)
      rw [rq] at w
      omega
    · rw [if_neg u]; exact v
theorem laA_iff {I : Nat → Nat → Int32} {q n : Nat} (hb : Hb I q n) {R : Int} {l : Nat} (hl : l < 16) : laA I q R l ↔ tA I q ((l : Int) - R) ≠ 0 := by
  unfold laA
  rw [tF_tA hb]
  exact ⟨fun u => u.2.2.2, fun u => by
    have t : 0 ≤ (l : Int) - R ∧ (l : Int) - R < 5 := Classical.byContradiction fun v => u (tA_o v)
    exact ⟨t.1, t.2, hl, u⟩⟩
theorem laD_iff {I : Nat → Nat → Int32} {q n : Nat} (hb : Hb I q n) {R : Int} {l : Nat} (hl : l < 32) : laD I q R l ↔ tD I q ((l : Int) - R) ≠ 0 := by
  unfold laD
  rw [tF_tD hb]
  exact ⟨fun u => u.2.2.2, fun u => by
    have t : 0 ≤ (l : Int) - R ∧ (l : Int) - R < 10 := Classical.byContradiction fun v => u (tD_o v)
    exact ⟨t.1, t.2, hl, u⟩⟩
theorem keep_put {I I1 I2 : Nat → Nat → Int32} {q n wn : Nat} {p : Int} (hq : q < 10) (np : nx p) (h : Hs I) (hb : Hb I q n) (h0 : ¬ lyB I q) (m : mL (pl I q p) wn) (w : wPM I I1 q (rce I q) (plR p) (plC p) (fun k => cA (rce I q) (plR p) (plC p) ((k / 32 : Nat) : Int) ((k % 32 : Nat) : Int)) q 1 1) (hc : ∀ id k, 143 ≤ id → id ≤ 150 → rd I2 id k = rd I1 id k) (hr : fR (pl I q p) I2) : Hs I2 := by
  obtain ⟨hp, hR, hC⟩ := nx_b np
  have mp := (mL_pl hp hq h0).mp m
  have rm := mp.1.2
  have hnq := mp.2.1.2
  have qe : ∀ {a}, lyB I a → a ≠ q := fun la e => h0 (e ▸ la)
  have le : ∀ b, b ≠ q → (lyB I2 b ↔ lyB I b) := fun b hbq => by
    have : lyB I2 b ↔ lyB (pl I q p) b := by unfold lyB; rw [ly_R hr]
    rw [this]; exact ly_pl hp hbq
  have l1 : lyB I2 q := by
    have : lyB I2 q ↔ lyB (pl I q p) q := by unfold lyB; rw [ly_R hr]
    rw [this]; exact ly_plq hp
  obtain ⟨hok, hq2, hso, hA, hD⟩ := h
  refine ⟨(okL_R hr 10).mpr m.1, (nQ_R hr).mpr m.2.1, fun y x => ?_, ?_, ?_⟩
  · rw [show lS I2 y x = lS (pl I q p) y x from lsN_R hr y x 10, show lO I2 y x = lO (pl I q p) y x from loN_R hr y x 10, lS_pl hp hq h0 m.1, lO_pl hp hq h0 m.1]
    unfold lQ
    by_cases i : inS y x
    · unfold sgAt owAt
      rw [if_pos i, if_pos i, hc 143 _ (by omega) (by omega), hc 144 _ (by omega) (by omega), at_put w.sg i, at_put w.ow i]
      have s := hso y x
      unfold sgAt owAt at s
      rw [if_pos i, if_pos i] at s
      rw [s.1, s.2]
      have t : 0 ≤ y ∧ y < 16 ∧ 0 ≤ x ∧ x < 32 := i
      rw [show (((y * 32 + x).toNat / 32 : Nat) : Int) = y by omega, show (((y * 32 + x).toNat % 32 : Nat) : Int) = x by omega]
      exact ⟨rfl, rfl⟩
    · have c : ¬ cA (rce I q) (plR p) (plC p) y x ≠ 95 := fun u => i (rm y x u).1
      have s := lS_out hok i
      rw [if_neg c, if_neg c]
      unfold sgAt owAt
      rw [if_neg i, if_neg i]
      exact ⟨s.1.symm, s.2.symm⟩
  · refine lane_put (I := I) (I' := I2) (Q := 147) (P := 146) (N := 16) (q := q) (t := tA I q) (R := plR p) (rT := rTa I) (rT' := rTa I2) hq h0 l1 le (fun b l hbq => by rw [rTa_R hr, rTa_pl hp hbq]) (fun l => by rw [rTa_R hr, rTa_plq hp]) (fun l hl => (hA l hl).1) (fun l hl => (hA l hl).2) (fun b hb1 lb y hy u => hnq b hb1 lb (Or.inl ⟨y, hy, by rw [rTa_plq hp, rTa_pl hp (qe lb)]; exact u⟩)) (fun l hl => ?_) (fun l hl => ?_)
    · rw [hc 146 _ (by omega) (by omega), w.a1]
      have la := laA_iff hb (R := plR p) hl
      by_cases u : laA I q (plR p) l
      · rw [if_pos u, if_pos (la.mp u), tF_tA hb]
      · rw [if_neg u, if_neg (fun v => u (la.mpr v))]
    · rw [hc 147 _ (by omega) (by omega), w.a2]
      exact if_cg (laA_iff hb hl)
  · refine lane_put (I := I) (I' := I2) (Q := 150) (P := 149) (N := 32) (q := q) (t := tD I q) (R := plC p) (rT := rTd I) (rT' := rTd I2) hq h0 l1 le (fun b l hbq => by rw [rTd_R hr, rTd_pl hp hbq]) (fun l => by rw [rTd_R hr, rTd_plq hp]) (fun l hl => (hD l hl).1) (fun l hl => (hD l hl).2) (fun b hb1 lb y hy u => hnq b hb1 lb (Or.inr ⟨y, hy, by rw [rTd_plq hp, rTd_pl hp (qe lb)]; exact u⟩)) (fun l hl => ?_) (fun l hl => ?_)
    · rw [hc 149 _ (by omega) (by omega), w.d1]
      have la := laD_iff hb (R := plC p) hl
      by_cases u : laD I q (plC p) l
      · rw [if_pos u, if_pos (la.mp u), tF_tD hb]
      · rw [if_neg u, if_neg (fun v => u (la.mpr v))]
    · rw [hc 150 _ (by omega) (by omega), w.d2]
      exact if_cg (laD_iff hb hl)
/-- BIT q no more -/
abbrev un (I : Nat → Nat → Int32) (q : Nat) : Nat → Nat → Int32 := wr I 177 q 0
theorem un_rd {I : Nat → Nat → Int32} {q : Nat} (id k : Nat) : rd (un I q) id k = if id = 177 ∧ k = q then 0 else rd I id k := rd_wr (by decide) (by decide)
theorem ly_un {I : Nat → Nat → Int32} {q b : Nat} : lyB (un I q) b ↔ b ≠ q ∧ lyB I b := by
  unfold lyB
  rw [un_rd]
  by_cases e : b = q
  · rw [if_pos ⟨rfl, e⟩]; exact ⟨fun u => absurd rfl u, fun u => absurd e u.1⟩
  · rw [if_neg (fun u => e u.2)]; exact ⟨fun u => ⟨e, u⟩, fun u => u.2⟩
theorem un_o {I : Nat → Nat → Int32} {q id : Nat} (h : id ≠ 177) (k : Nat) : rd (un I q) id k = rd I id k := rd_wr_row h
theorem rce_un {I : Nat → Nat → Int32} {q : Nat} (b : Nat) : rce (un I q) b = rce I b := funext fun k => un_o (by decide) _
theorem rcA_un {I : Nat → Nat → Int32} {q : Nat} (b : Nat) (y x : Int) : rcA (un I q) b y x = rcA I b y x := by
  unfold rcA
  rw [rce_un, un_o (by decide), un_o (by decide)]
theorem rTa_un {I : Nat → Nat → Int32} {q : Nat} (b : Nat) (y : Int) : rTa (un I q) b y = rTa I b y := by
  rw [rTa_tA, rTa_tA, un_o (by decide)]
  unfold tA
  rw [rce_un, un_o (by decide)]
theorem rTd_un {I : Nat → Nat → Int32} {q : Nat} (b : Nat) (y : Int) : rTd (un I q) b y = rTd I b y := by
  rw [rTd_tD, rTd_tD, un_o (by decide)]
  unfold tD
  rw [rce_un, un_o (by decide)]
theorem okL_un {I : Nat → Nat → Int32} {q : Nat} (h : okL I 10) : okL (un I q) 10 := fun b hb lb y x g => by
  rw [rcA_un] at g
  have t := h b hb (ly_un.mp lb).2 y x g
  refine ⟨t.1, fun a hab la => ?_⟩
  rw [rcA_un]
  exact t.2 a hab (ly_un.mp la).2
theorem nQ_un {I : Nat → Nat → Int32} {q : Nat} (h : nQ I) : nQ (un I q) := fun a b hab hb la lb u => by
  refine h a b hab hb (ly_un.mp la).2 (ly_un.mp lb).2 ?_
  unfold qrl at *
  simp only [rTa_un, rTd_un] at u
  exact u
theorem l_un {I : Nat → Nat → Int32} {q : Nat} (h : okL I 10) (hq : q < 10) (l1 : lyB I q) (y x : Int) : lS (un I q) y x = (if rcA I q y x ≠ 95 then 95 else lS I y x) ∧ lO (un I q) y x = if rcA I q y x ≠ 95 then -1 else lO I y x := by
  have h' := okL_un (q := q) h
  by_cases g : rcA I q y x ≠ 95
  · rw [if_pos g, if_pos g]
    have o : lO (un I q) y x = -1 := lO_no.mpr (fun b hb lb => by
      rw [rcA_un]
      apply Classical.byContradiction
      intro u
      exact (ly_un.mp lb).1 (ok_u h hb hq (ly_un.mp lb).2 l1 u g))
    exact ⟨lS_no o, o⟩
  · rw [if_neg g, if_neg g]
    rcases lO_ca I y x with u | ⟨b, hb, u⟩
    · have o : lO (un I q) y x = -1 := lO_no.mpr (fun b hb lb => by
        rw [rcA_un]; exact lO_no.mp u b hb (ly_un.mp lb).2)
      rw [lS_no o, lS_no u, o, u]; exact ⟨rfl, rfl⟩
    · obtain ⟨_, lb, v⟩ := (lO_iff h).mp u
      have ne : b ≠ q := fun e => g (e ▸ v)
      have lb' : lyB (un I q) b := ly_un.mpr ⟨ne, lb⟩
      have v' : rcA (un I q) b y x ≠ 95 := by rw [rcA_un]; exact v
      rw [lS_at h' hb lb' v', lS_at h hb lb v, rcA_un, u, lO_iff h']
      exact ⟨rfl, hb, lb', v'⟩
theorem keep_del {I I1 I2 : Nat → Nat → Int32} {q n : Nat} (hq : q < 10) (h : Hs I) (hb : Hb I q n) (l1 : lyB I q) (w : wPM I I1 q (rce I q) (rd I 178 q) (rd I 179 q) (fun _ => 95) (-1) (-1) 0) (hc : ∀ id k, 143 ≤ id → id ≤ 150 → rd I2 id k = rd I1 id k) (hr : fR (un I q) I2) : Hs I2 := by
  have le : ∀ b, b ≠ q → (lyB I2 b ↔ lyB I b) := fun b hbq => by
    have : lyB I2 b ↔ lyB (un I q) b := by unfold lyB; rw [ly_R hr]
    rw [this, ly_un]; exact ⟨fun u => u.2, fun u => ⟨hbq, u⟩⟩
  have h0 : ¬ lyB I2 q := by
    have : lyB I2 q ↔ lyB (un I q) q := by unfold lyB; rw [ly_R hr]
    rw [this, ly_un]; exact fun u => u.1 rfl
  obtain ⟨hok, hq2, hso, hA, hD⟩ := h
  refine ⟨(okL_R hr 10).mpr (okL_un hok), (nQ_R hr).mpr (nQ_un hq2), fun y x => ?_, ?_, ?_⟩
  · have lu := l_un hok hq l1 y x
    have rq : rcA I q y x = cA (rce I q) (rd I 178 q) (rd I 179 q) y x := rfl
    rw [show lS I2 y x = lS (un I q) y x from lsN_R hr y x 10, show lO I2 y x = lO (un I q) y x from loN_R hr y x 10, lu.1, lu.2, rq]
    by_cases i : inS y x
    · unfold sgAt owAt
      rw [if_pos i, if_pos i, hc 143 _ (by omega) (by omega), hc 144 _ (by omega) (by omega), at_put w.sg i, at_put w.ow i]
      have s := hso y x
      unfold sgAt owAt at s
      rw [if_pos i, if_pos i] at s
      rw [s.1, s.2]
      exact ⟨rfl, rfl⟩
    · have c : ¬ cA (rce I q) (rd I 178 q) (rd I 179 q) y x ≠ 95 := fun u => i (hok q hq l1 y x u).1
      have s := lS_out hok i
      rw [if_neg c, if_neg c]
      unfold sgAt owAt
      rw [if_neg i, if_neg i]
      exact ⟨s.1.symm, s.2.symm⟩
  · refine lane_del (I := I) (I' := I2) (Q := 147) (P := 146) (N := 16) (q := q) (t := tA I q) (R := rd I 178 q) (rT := rTa I) (rT' := rTa I2) hq l1 h0 le (fun b l hbq => by rw [rTa_R hr, rTa_un]) (fun l => rTa_tA I q l) (fun l hl => (hA l hl).1) (fun l hl => (hA l hl).2) (fun l hl => ?_) (fun l hl => ?_)
    · rw [hc 146 _ (by omega) (by omega), w.a1]
      have la := laA_iff hb (R := rd I 178 q) hl
      by_cases u : laA I q (rd I 178 q) l
      · rw [if_pos u, if_pos (la.mp u), tF_tA hb]
      · rw [if_neg u, if_neg (fun v => u (la.mpr v))]
    · rw [hc 147 _ (by omega) (by omega), w.a2]
      exact if_cg (laA_iff hb hl)
  · refine lane_del (I := I) (I' := I2) (Q := 150) (P := 149) (N := 32) (q := q) (t := tD I q) (R := rd I 179 q) (rT := rTd I) (rT' := rTd I2) hq l1 h0 le (fun b l hbq => by rw [rTd_R hr, rTd_un]) (fun l => rTd_tD I q l) (fun l hl => (hD l hl).1) (fun l hl => (hD l hl).2) (fun l hl => ?_) (fun l hl => ?_)
    · rw [hc 149 _ (by omega) (by omega), w.d1]
      have la := laD_iff hb (R := rd I 179 q) hl
      by_cases u : laD I q (rd I 179 q) l
      · rw [if_pos u, if_pos (la.mp u), tF_tD hb]
      · rw [if_neg u, if_neg (fun v => u (la.mpr v))]
    · rw [hc 150 _ (by omega) (by omega), w.d2]
      exact if_cg (laD_iff hb hl)
