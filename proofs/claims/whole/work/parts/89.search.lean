/-! Search of the class: its calls -/
theorem gnC_S {I I' : Nat → Nat → Int32} {b : Nat} (hb : b < 10) (h : fS I I') (n : Nat) : gnC I' b n = gnC I b n := funext fun R => funext fun C => by
  show fwC I' b R C + sdC I' b n R C = fwC I b R C + sdC I b n R C
  rw [fwC_S hb h, sdC_S hb h]
theorem tcC_S {I I' : Nat → Nat → Int32} {b : Nat} (hb : b < 10) (h : fS I I') (n : Nat) : tcC I' b n = tcC I b n := funext fun R => funext fun C => sdC_S hb h n R C
theorem pE_S {I I1 I2 : Nat → Nat → Int32} {P m b n wn : Nat} {ce : Nat → Int} {to : Int} (hb : b < 10) (h : fS I I1) (g : pE I2 P m (plS I1 b ce n wn to) (gnC I1 b n) (tcC I1 b n)) : pE I2 P m (plS I b ce n wn to) (gnC I b n) (tcC I b n) := by
  rw [gnC_S hb h, tcC_S hb h] at g
  exact pE_cg g (fun R C => (plS_S hb h).symm)
theorem pR3_S {I I1 I2 : Nat → Nat → Int32} {a b n : Nat} {ca : Nat → Int} (ha : a < 10) (hb : b < 10) (h : fS I I1) (g : pR3 I1 I2 a b n ca) : pR3 I I2 a b n ca := by
  obtain ⟨g1, g2, g3⟩ := g
  exact ⟨fun i hi => by rw [g1 i hi, waV_S ha hb h], fun i hi => by rw [g2 i hi, wdV_S ha hb h], fun i k hi hk => by rw [g3 i k hi hk, csV_S hb h]⟩
theorem pR3_fr {I I1 I2 : Nat → Nat → Int32} {a b n : Nat} {ca : Nat → Int} (g : pR3 I I1 a b n ca) (hx : ∀ id k, 164 ≤ id → id ≤ 166 → rd I2 id k = rd I1 id k) : pR3 I I2 a b n ca := by
  obtain ⟨g1, g2, g3⟩ := g
  exact ⟨fun i hi => by rw [hx _ _ (by omega) (by omega)]; exact g1 i hi, fun i hi => by rw [hx _ _ (by omega) (by omega)]; exact g2 i hi, fun i k hi hk => by rw [hx _ _ (by omega) (by omega)]; exact g3 i k hi hk⟩
abbrev wPut (I I' : Nat → Nat → Int32) (b : Nat) (ce : Nat → Int) (R C : Int) : Prop := wPM I I' b ce R C (fun k => cA ce R C ((k / 32 : Nat) : Int) ((k % 32 : Nat) : Int)) b 1 1
theorem bK_put {I I' : Nat → Nat → Int32} {a b n : Nat} {ca cb : Nat → Int} {R C : Int} (ha : a < 10) (ne : a ≠ b) (g : bK I b cb n) (w : wPut I I' a ca R C) : bK I' b cb n := bK_row g (fun r k hr => w.fr _ _ (by have := bI_mod g.1 hr; omega) (by unfold bI; omega) (by have := bI_mod g.1 hr; omega))
/-- few BITS in a lane -/
def fw (I : Nat → Nat → Int32) : Prop := (∀ l : Nat, l < 16 → 0 ≤ rd I 147 l ∧ rd I 147 l ≤ 900) ∧ (∀ l : Nat, l < 32 → 0 ≤ rd I 150 l ∧ rd I 150 l ≤ 900) ∧ 0 ≤ rd I 142 4 ∧ rd I 142 4 ≤ 900
theorem x7_countAlone {I : Nat → Nat → Int32} {J : Nat → Nat → Int64} {F : Option Value → zM → Prop} {a n1 wn : Nat} {ca : Nat → Int} (hA : bK I a ca n1) (hs : shK I) (hL : wRL I J wn) (h : ∀ (I' : Nat → Nat → Int32) (J' : Nat → Nat → Int64) (m : Nat), fS I I' → (∀ id k, id ≠ 140 → id ≠ 141 → J' id k = J id k) → pE I' 152 m (plS I a ca n1 wn 1) (gnC I a n1) (tcC I a n1) → F (some (.int (iI (m : Int)))) (gM I' J')) : Cl yX7_countAlone kX7_countAlone [.ref 151, .ref (bI a 0), .ref 142, .ref 134] (gM I J) F := by
  refine cl_s (by decide) (by decide) (Nat.le_of_ble_eq_true rfl) rt_i ?_
  show Wp _ F 0 [(0, .ref 151), (1, .ref (bI a 0)), (2, .ref 142), (3, .ref 134)] [] _
  refine w_aload_n dX7_countAlone_0 rfl ?_
  refine v_getR (j := 152) dX7_countAlone_1 fX7_12 ⟨by decide, rfl⟩ rfl rfl ?_
  refine w_aload_n dX7_countAlone_4 rfl ?_
  refine w_iconst (v := iI 1) dX7_countAlone_5 rfl ?_
  refine w_aload_n dX7_countAlone_6 rfl ?_
  refine w_aload_n dX7_countAlone_7 rfl ?_
  refine v_callV4 dX7_countAlone_8 lX7_32 vX5_collect (by decide) rfl rfl ⟨by decide, rfl⟩ (by decide) rfl (Nat.le_of_ble_eq_true rfl) ?_
  refine x5_collect_a hA hs hL (Or.inr rfl) (fun I1 J1 m x1 j1 p1 => ?_)
  have fx : fS I I1 := fun id k g => x1 id k (by omega)
  refine w_aload_n dX7_countAlone_11 rfl ?_
  refine v_getR (j := 152) dX7_countAlone_12 fX7_12 ⟨by decide, rfl⟩ rfl rfl ?_
  refine v_getI dX7_countAlone_15 fX7_36 ⟨by decide, rfl⟩ (Or.inl rfl) (fun z15 e15 b15 => ?_)
  have f15 : z15 = m := by rw [e15]; exact p1.2.1
  subst f15
  refine v_iret dX7_countAlone_18 rfl ⟨rfl, rfl⟩ ?_
  exact h I1 J1 m fx j1 p1
theorem x7_joinAlone {I : Nat → Nat → Int32} {J : Nat → Nat → Int64} {F : Option Value → zM → Prop} {a n1 wn : Nat} {ca : Nat → Int} (hA : bK I a ca n1) (hs : shK I) (hL : wRL I J wn) (hf : fw I) (hnu : rd I (bI a 0) 0 = a) (h0 : (∀ x, ¬ (nx x ∧ plS I a ca n1 wn 1 (plR x) (plC x))) → ∀ (I' : Nat → Nat → Int32) (J' : Nat → Nat → Int64), fS I I' → (∀ id k, id ≠ 140 → id ≠ 141 → J' id k = J id k) → F (some (.int (iI 0))) (gM I' J')) (h1 : ∀ R C g : Int, BS g (pn R C) 0 (fun x y => (nx x ∧ plS I a ca n1 wn 1 (plR x) (plC x)) ∧ y = 0) (fun x _ => gnC I a n1 (plR x) (plC x)) → g ≠ -1 → (-5 < R ∧ R < 16 ∧ -10 < C ∧ C < 32) → ∀ (I1 I2 : Nat → Nat → Int32) (J' : Nat → Nat → Int64), fS I I1 → (∀ id k, id ≠ 140 → id ≠ 141 → J' id k = J id k) → wPut I1 I2 a ca R C → F (some (.int (iI 1))) (gM I2 J')) : Cl yX7_joinAlone kX7_joinAlone [.ref 151, .ref (bI a 0), .ref 142, .ref 134] (gM I J) F := by
  refine cl_s (by decide) (by decide) (Nat.le_of_ble_eq_true rfl) rt_z ?_
  show Wp _ F 0 [(0, .ref 151), (1, .ref (bI a 0)), (2, .ref 142), (3, .ref 134)] [] _
  refine w_aload_n dX7_joinAlone_0 rfl ?_
  refine v_getR (j := 152) dX7_joinAlone_1 fX7_12 ⟨by decide, rfl⟩ rfl rfl ?_
  refine w_aload_n dX7_joinAlone_4 rfl ?_
  refine w_iconst (v := iI 1) dX7_joinAlone_5 rfl ?_
  refine w_aload_n dX7_joinAlone_6 rfl ?_
  refine w_aload_n dX7_joinAlone_7 rfl ?_
  refine v_callV4 dX7_joinAlone_8 lX7_32 vX5_collect (by decide) rfl rfl ⟨by decide, rfl⟩ (by decide) rfl (Nat.le_of_ble_eq_true rfl) ?_
  refine x5_collect_a hA hs hL (Or.inr rfl) (fun I1 J1 m x1 j1 p1 => ?_)
  have fx : fS I I1 := fun id k g => x1 id k (by omega)
  refine w_aload_n dX7_joinAlone_11 rfl ?_
  refine v_getR (j := 152) dX7_joinAlone_12 fX7_12 ⟨by decide, rfl⟩ rfl rfl ?_
  refine v_callV0 dX7_joinAlone_15 lX7_40 vX5_best (by decide) rfl rfl ⟨by decide, rfl⟩ (by decide) rfl (Nat.le_of_ble_eq_true rfl) ?_
  have m512 := p1.1
  refine x5_best p1.1 p1.2.1 (fun m0 => ?_) (fun i hi b1 b2 => ?_)
  rotate_left
  have q := p1.2.2.1 i hi
  have r : -5 < rd I1 153 i ∧ rd I1 153 i < 16 ∧ -10 < rd I1 154 i ∧ rd I1 154 i < 32 := q.1.2.1.1
  rotate_left
  · refine w_istore dX7_joinAlone_18 rfl rfl ?_
    refine w_iload dX7_joinAlone_20 rfl ?_
    refine w_iconst (v := iI (-1)) dX7_joinAlone_22 rfl ?_
    refine v_icmp_ne 28 dX7_joinAlone_23 (by decide) (by decide) (by decide) (fun q => absurd q (by decide)) (fun _ => ?_)
    refine w_iconst (v := iI 0) dX7_joinAlone_26 rfl ?_
    refine v_zret dX7_joinAlone_27 rfl ⟨rfl, rfl⟩ (by decide) ?_
    refine h0 (fun x u => ?_) I1 J1 fx j1
    obtain ⟨j, hj, _⟩ := p1.2.2.2.2 _ _ u.2
    omega
  · refine w_istore dX7_joinAlone_18 rfl rfl ?_
    refine w_iload dX7_joinAlone_20 rfl ?_
    refine w_iconst (v := iI (-1)) dX7_joinAlone_22 rfl ?_
    refine v_icmp_ne 28 dX7_joinAlone_23 (by decide) (by first | omega | (clear h0 h1; omega)) (by first | omega | (clear h0 h1; omega)) (fun c23 => ?_) (fun c23 => ?_)
    · refine w_aload_n dX7_joinAlone_28 rfl ?_
      refine w_aload_n dX7_joinAlone_29 rfl ?_
      refine w_aload_n dX7_joinAlone_30 rfl ?_
      refine v_getR (j := 152) dX7_joinAlone_31 fX7_12 ⟨by decide, rfl⟩ rfl rfl ?_
      refine v_getR (j := 153) dX7_joinAlone_34 fX7_44 ⟨by decide, rfl⟩ rfl rfl ?_
      refine w_iload dX7_joinAlone_37 rfl ?_
      refine v_iald dX7_joinAlone_39 ⟨by decide, rfl⟩ (by first | omega | (clear h0 h1; omega)) (by first | omega | (clear h0 h1; omega)) (by decide) (fun z39 e39 b39 => ?_)
      have f39 : z39 = rd I1 153 i := by rw [e39, Int.toNat_natCast]
      clear e39
      subst f39
      refine w_aload_n dX7_joinAlone_40 rfl ?_
      refine v_getR (j := 152) dX7_joinAlone_41 fX7_12 ⟨by decide, rfl⟩ rfl rfl ?_
      refine v_getR (j := 154) dX7_joinAlone_44 fX7_47 ⟨by decide, rfl⟩ rfl rfl ?_
      refine w_iload dX7_joinAlone_47 rfl ?_
      refine v_iald dX7_joinAlone_49 ⟨by decide, rfl⟩ (by first | omega | (clear h0 h1; omega)) (by first | omega | (clear h0 h1; omega)) (by decide) (fun z49 e49 b49 => ?_)
      have f49 : z49 = rd I1 154 i := by rw [e49, Int.toNat_natCast]
      clear e49
      subst f49
      refine v_callV3 dX7_joinAlone_50 lX7_50 vX8_put (by decide) rfl rfl ⟨by decide, rfl⟩ (by decide) rfl (Nat.le_of_ble_eq_true rfl) ?_
      refine x8_put hA.1 (bK_S fx hA).2.1 (RBc_S hA.1 fx hA.2.2.1) (fun l hl => by rw [fx _ _ (by omega)]; have := hf.1 l hl; omega) (fun l hl => by rw [fx _ _ (by omega)]; have := hf.2.1 l hl; omega) (by rw [fx _ _ (by omega)]; have := hf.2.2; omega) (by omega) (by omega) (by rw [fx _ _ (bI_lt hA.1 (by decide))]; exact hnu) (fun I2 w2 => ?_)
      refine w_iconst (v := iI 1) dX7_joinAlone_53 rfl ?_
      refine v_zret dX7_joinAlone_54 rfl ⟨rfl, rfl⟩ (by decide) ?_
      have bs := BS_1 p1 (fun R C => by have a1 := fwC_bd hs a R C; have a2 := sdC_bd hA.2.2.1 R C; show 0 ≤ fwC I a R C + sdC I a n1 R C; omega) hi b1 b2
      refine h1 _ _ _ bs ?_ r I1 I2 J1 fx j1 w2
      have e : rd I1 155 i = gnC I a n1 (rd I1 153 i) (rd I1 154 i) := q.2.1
      have := (fun R C => by have a1 := fwC_bd hs a R C; have a2 := sdC_bd hA.2.2.1 R C; show 0 ≤ fwC I a R C + sdC I a n1 R C; omega : ∀ R C, 0 ≤ gnC I a n1 R C) (rd I1 153 i) (rd I1 154 i)
      rw [e]
      omega
    · refine w_iconst (v := iI 0) dX7_joinAlone_26 rfl ?_
      refine v_zret dX7_joinAlone_27 rfl ⟨rfl, rfl⟩ (by decide) ?_
      refine h0 (fun x u => ?_) I1 J1 fx j1
      obtain ⟨j, hj, _⟩ := p1.2.2.2.2 _ _ u.2
      omega
theorem x7_joinBoth_e {I I0 I1 : Nat → Nat → Int32} {J J' : Nat → Nat → Int64} {F : Option Value → zM → Prop} {a b n1 n2 wn : Nat} {ca cb : Nat → Int} (hA : bK I a ca n1) (hB : bK I b cb n2) (hne : a ≠ b) (hs : shK I) (hf : fw I) (hnu : rd I (bI a 0) 0 = a) (hnv : rd I (bI b 0) 0 = b) {m1 m2 : Nat} (hQ : sQ I I0 a b n1 n2 m1 m2 wn ca cb) (hx : x5 I0 I1) (hj : (∀ id k, id ≠ 140 → id ≠ 141 → J' id k = J id k)) (hb : bS I1 (PI I I0 a b n1 n2 m1 m2 wn ca cb) (wI I I0 a b n1 n2 ca)) (hg : rd I1 151 4 ≠ -1) {f : Int} (h1 : ∀ R1 C1 R2 C2 g : Int, BS g (pn R1 C1) (pn R2 C2) (SP I a b n1 n2 wn ca cb) (fun x y => gW I a b n1 n2 ca (plR x) (plC x) (plR y) (plC y)) → g ≠ -1 → (-5 < R1 ∧ R1 < 16 ∧ -10 < C1 ∧ C1 < 32) → (-5 < R2 ∧ R2 < 16 ∧ -10 < C2 ∧ C2 < 32) → ∀ (I1 I2 I3 : Nat → Nat → Int32) (J' : Nat → Nat → Int64), fS I I1 → (∀ id k, id ≠ 140 → id ≠ 141 → J' id k = J id k) → wPut I1 I2 a ca R1 C1 → wPut I2 I3 b cb R2 C2 → F (some (.int (iI 1))) (gM I3 J')) : Wp (sE kX7_joinBoth RX7) F 166 [(0, .ref 151), (1, .ref (bI a 0)), (2, .ref (bI b 0)), (3, .ref 142), (4, .ref 134), (5, .int (iI f))] [] (gM I1 J') := by
  have pl_ := BS_pl hQ hb
  obtain ⟨i, k, ei, ek, hi, hk, _⟩ := (hb.2.2 hg).1
  rw [ei, ek, Int.toNat_natCast, Int.toNat_natCast] at pl_
  have q := sQ_at hQ hi hk
  obtain ⟨⟨r1, r2⟩, ⟨mm1, mm2⟩, _⟩ := q
  have fx : fS I I1 := fun id k g => by rw [hx id k (by omega)]; exact hQ.1 id k g
  refine w_aload_n dX7_joinBoth_166 rfl ?_
  refine w_aload_n dX7_joinBoth_167 rfl ?_
  refine w_aload_n dX7_joinBoth_168 rfl ?_
  refine v_getR (j := 152) dX7_joinBoth_169 fX7_12 ⟨by decide, rfl⟩ rfl rfl ?_
  refine v_getR (j := 153) dX7_joinBoth_172 fX7_44 ⟨by decide, rfl⟩ rfl rfl ?_
  refine w_aload_n dX7_joinBoth_175 rfl ?_
  refine v_getI dX7_joinBoth_176 fX7_75 ⟨by decide, rfl⟩ (Or.inl rfl) (fun z176 e176 b176 => ?_)
  have f176 : z176 = i := by rw [e176]; exact ei
  refine v_iald dX7_joinBoth_179 ⟨by decide, rfl⟩ (by clear h1; omega) (by clear h1; omega) (by decide) (fun z179 e179 b179 => ?_)
  have f179 : z179 = rd I0 153 i := by rw [e179, f176, Int.toNat_natCast, hx _ _ (by omega)]
  clear e179
  subst f179
  refine w_aload_n dX7_joinBoth_180 rfl ?_
  refine v_getR (j := 152) dX7_joinBoth_181 fX7_12 ⟨by decide, rfl⟩ rfl rfl ?_
  refine v_getR (j := 154) dX7_joinBoth_184 fX7_47 ⟨by decide, rfl⟩ rfl rfl ?_
  refine w_aload_n dX7_joinBoth_187 rfl ?_
  refine v_getI dX7_joinBoth_188 fX7_75 ⟨by decide, rfl⟩ (Or.inl rfl) (fun z188 e188 b188 => ?_)
  have f188 : z188 = i := by rw [e188]; exact ei
  refine v_iald dX7_joinBoth_191 ⟨by decide, rfl⟩ (by clear h1; omega) (by clear h1; omega) (by decide) (fun z191 e191 b191 => ?_)
  have f191 : z191 = rd I0 154 i := by rw [e191, f188, Int.toNat_natCast, hx _ _ (by omega)]
  clear e191
  subst f191
  refine v_callV3 dX7_joinBoth_192 lX7_50 vX8_put (by decide) rfl rfl ⟨by decide, rfl⟩ (by decide) rfl (Nat.le_of_ble_eq_true rfl) ?_
  refine x8_put hA.1 (bK_S fx hA).2.1 (RBc_S hA.1 fx hA.2.2.1) (fun l hl => by rw [fx _ _ (by omega)]; have := hf.1 l hl; omega) (fun l hl => by rw [fx _ _ (by omega)]; have := hf.2.1 l hl; omega) (by rw [fx _ _ (by omega)]; have := hf.2.2; omega) (by omega) (by omega) (by rw [fx _ _ (bI_lt hA.1 (by decide))]; exact hnu) (fun I2 w2 => ?_)
  have B2 := bK_put hA.1 hne (bK_S fx hB) w2
  have x2 : ∀ id k, 151 ≤ id → id ≤ 166 → rd I2 id k = rd I1 id k := fun id k g1 g2 => w2.fr id k (by omega) (by have := bI_mod hA.1 (show 0 < 13 by decide); omega) (by omega)
  refine w_aload_n dX7_joinBoth_195 rfl ?_
  refine w_aload_n dX7_joinBoth_196 rfl ?_
  refine w_aload_n dX7_joinBoth_197 rfl ?_
  refine v_getR (j := 157) dX7_joinBoth_198 fX7_18 ⟨by decide, rfl⟩ rfl rfl ?_
  refine v_getR (j := 158) dX7_joinBoth_201 fX7_44 ⟨by decide, rfl⟩ rfl rfl ?_
  refine w_aload_n dX7_joinBoth_204 rfl ?_
  refine v_getI dX7_joinBoth_205 fX7_78 ⟨by decide, rfl⟩ (Or.inl rfl) (fun z205 e205 b205 => ?_)
  have f205 : z205 = k := by rw [e205, x2 _ _ (by decide) (by decide)]; exact ek
  refine v_iald dX7_joinBoth_208 ⟨by decide, rfl⟩ (by clear h1; omega) (by clear h1; omega) (by decide) (fun z208 e208 b208 => ?_)
  have f208 : z208 = rd I0 158 k := by rw [e208, f205, Int.toNat_natCast, x2 _ _ (by decide) (by decide), hx _ _ (by omega)]
  clear e208
  subst f208
  refine w_aload_n dX7_joinBoth_209 rfl ?_
  refine v_getR (j := 157) dX7_joinBoth_210 fX7_18 ⟨by decide, rfl⟩ rfl rfl ?_
  refine v_getR (j := 159) dX7_joinBoth_213 fX7_47 ⟨by decide, rfl⟩ rfl rfl ?_
  refine w_aload_n dX7_joinBoth_216 rfl ?_
  refine v_getI dX7_joinBoth_217 fX7_78 ⟨by decide, rfl⟩ (Or.inl rfl) (fun z217 e217 b217 => ?_)
  have f217 : z217 = k := by rw [e217, x2 _ _ (by decide) (by decide)]; exact ek
  refine v_iald dX7_joinBoth_220 ⟨by decide, rfl⟩ (by clear h1; omega) (by clear h1; omega) (by decide) (fun z220 e220 b220 => ?_)
  have f220 : z220 = rd I0 159 k := by rw [e220, f217, Int.toNat_natCast, x2 _ _ (by decide) (by decide), hx _ _ (by omega)]
  clear e220
  subst f220
  refine v_callV3 dX7_joinBoth_221 lX7_50 vX8_put (by decide) rfl rfl ⟨by decide, rfl⟩ (by decide) rfl (Nat.le_of_ble_eq_true rfl) ?_
  refine x8_put hB.1 B2.2.1 B2.2.2.1 (fun l hl => ?_) (fun l hl => ?_) ?_ (by omega) (by omega) ?_ (fun I3 w3 => ?_)
  · rw [w2.a2, fx _ _ (by omega)]; have := hf.1 l hl; split <;> omega
  · rw [w2.d2, fx _ _ (by omega)]; have := hf.2.1 l hl; split <;> omega
  · rw [w2.ly, fx _ _ (by omega)]; have := hf.2.2; omega
  · rw [w2.fr _ _ (by have := bI_mod hB.1 (show 0 < 13 by decide); omega) (by unfold bI; omega) (by have := bI_mod hB.1 (show 0 < 13 by decide); omega), fx _ _ (bI_lt hB.1 (by decide))]; exact hnv
  refine w_iconst (v := iI 1) dX7_joinBoth_224 rfl ?_
  refine v_zret dX7_joinBoth_225 rfl ⟨rfl, rfl⟩ (by decide) ?_
  exact h1 _ _ _ _ _ pl_ hg r1 r2 I1 I2 I3 J' fx hj w2 w3
theorem x7_joinBoth {I : Nat → Nat → Int32} {J : Nat → Nat → Int64} {F : Option Value → zM → Prop} {a b n1 n2 wn : Nat} {ca cb : Nat → Int} (hA : bK I a ca n1) (hB : bK I b cb n2) (hne : a ≠ b) (hs : shK I) (hf : fw I) (hnu : rd I (bI a 0) 0 = a) (hnv : rd I (bI b 0) 0 = b) (hL : wRL I J wn) (h0 : (∀ x y, ¬ SP I a b n1 n2 wn ca cb x y) → ∀ (I' : Nat → Nat → Int32) (J' : Nat → Nat → Int64), fS I I' → (∀ id k, id ≠ 140 → id ≠ 141 → J' id k = J id k) → F (some (.int (iI 0))) (gM I' J')) (h1 : ∀ R1 C1 R2 C2 g : Int, BS g (pn R1 C1) (pn R2 C2) (SP I a b n1 n2 wn ca cb) (fun x y => gW I a b n1 n2 ca (plR x) (plC x) (plR y) (plC y)) → g ≠ -1 → (-5 < R1 ∧ R1 < 16 ∧ -10 < C1 ∧ C1 < 32) → (-5 < R2 ∧ R2 < 16 ∧ -10 < C2 ∧ C2 < 32) → ∀ (I1 I2 I3 : Nat → Nat → Int32) (J' : Nat → Nat → Int64), fS I I1 → (∀ id k, id ≠ 140 → id ≠ 141 → J' id k = J id k) → wPut I1 I2 a ca R1 C1 → wPut I2 I3 b cb R2 C2 → F (some (.int (iI 1))) (gM I3 J')) : Cl yX7_joinBoth kX7_joinBoth [.ref 151, .ref (bI a 0), .ref (bI b 0), .ref 142, .ref 134] (gM I J) F := by
  refine cl_s (by decide) (by decide) (Nat.le_of_ble_eq_true rfl) rt_z ?_
  show Wp _ F 0 [(0, .ref 151), (1, .ref (bI a 0)), (2, .ref (bI b 0)), (3, .ref 142), (4, .ref 134)] [] _
  refine w_aload_n dX7_joinBoth_0 rfl ?_
  refine v_getR (j := 152) dX7_joinBoth_1 fX7_12 ⟨by decide, rfl⟩ rfl rfl ?_
  refine w_aload_n dX7_joinBoth_4 rfl ?_
  refine w_iconst (v := iI 0) dX7_joinBoth_5 rfl ?_
  refine w_aload_n dX7_joinBoth_6 rfl ?_
  refine w_aload dX7_joinBoth_7 rfl ?_
  refine v_callV4 dX7_joinBoth_9 lX7_32 vX5_collect (by decide) rfl rfl ⟨by decide, rfl⟩ (by decide) rfl (Nat.le_of_ble_eq_true rfl) ?_
  refine x5_collect_a hA hs hL (Or.inl rfl) (fun I1 J1 m1 x1 j1 p1 => ?_)
  have f1 : fS I I1 := fun id k g => x1 id k (by omega)
  refine w_aload_n dX7_joinBoth_12 rfl ?_
  refine v_getR (j := 157) dX7_joinBoth_13 fX7_18 ⟨by decide, rfl⟩ rfl rfl ?_
  refine w_aload_n dX7_joinBoth_16 rfl ?_
  refine w_iconst (v := iI 0) dX7_joinBoth_17 rfl ?_
  refine w_aload_n dX7_joinBoth_18 rfl ?_
  refine w_aload dX7_joinBoth_19 rfl ?_
  refine v_callV4 dX7_joinBoth_21 lX7_32 vX5_collect (by decide) rfl rfl ⟨by decide, rfl⟩ (by decide) rfl (Nat.le_of_ble_eq_true rfl) ?_
  refine x5_collect_d (bK_S f1 hB) (shK_S f1 hs) (wRL_S f1 j1 hL) (Or.inl rfl) (fun I2 J2 m2 x2 j2 p2 => ?_)
  have f2 : fS I I2 := fun id k g => by rw [x2 id k (by omega)]; exact f1 id k g
  refine w_aload_n dX7_joinBoth_24 rfl ?_
  refine v_getR (j := 163) dX7_joinBoth_25 fX7_28 ⟨by decide, rfl⟩ rfl rfl ?_
  refine w_aload_n dX7_joinBoth_28 rfl ?_
  refine w_aload_n dX7_joinBoth_29 rfl ?_
  refine v_callV2 dX7_joinBoth_30 lX7_56 vX4_compare (by decide) rfl rfl ⟨by decide, rfl⟩ (by decide) rfl (Nat.le_of_ble_eq_true rfl) ?_
  refine x4_compare (bK_S f2 hA) (bK_S f2 hB) (fun I3 x3 p3 => ?_)
  have m2b := p2.1
  have m1b := p1.1
  refine w_aload_n dX7_joinBoth_33 rfl ?_
  refine v_getR (j := 157) dX7_joinBoth_34 fX7_18 ⟨by decide, rfl⟩ rfl rfl ?_
  refine w_aload_n dX7_joinBoth_37 rfl ?_
  refine v_getR (j := 162) dX7_joinBoth_38 fX7_21 ⟨by decide, rfl⟩ rfl rfl ?_
  refine v_callV1 dX7_joinBoth_41 lX7_60 vX5_listTouching (by decide) rfl rfl ⟨by decide, rfl⟩ (by decide) rfl (Nat.le_of_ble_eq_true rfl) ?_
  refine x5_listTouching p2.1 (by rw [x3 _ _ (by omega)]; exact p2.2.1) (fun I4 f x4 t4 => ?_)
  refine w_istore dX7_joinBoth_44 rfl rfl ?_
  refine w_aload_n dX7_joinBoth_46 rfl ?_
  refine w_iconst (v := iI (-1)) dX7_joinBoth_47 rfl ?_
  refine v_putI dX7_joinBoth_48 fX7_64 ⟨by decide, rfl⟩ rfl (Or.inl rfl) ?_
  refine w_iconst (v := iI 0) dX7_joinBoth_51 rfl ?_
  refine w_istore dX7_joinBoth_52 rfl rfl ?_
  have hQ : sQ I (wr I4 151 4 (-1)) a b n1 n2 m1 m2 wn ca cb := ⟨fun id k g => by rw [rd_wr_row (by omega), x4 id k (by omega), x3 id k (by omega), x2 id k (by omega)]; exact x1 id k (by omega), pE_fr p1 (fun id k _ _ => by rw [rd_wr_row (by omega), x4 id k (by omega), x3 id k (by omega), x2 id k (by omega)]), pE_fr (pE_S hB.1 f1 p2) (fun id k _ _ => by rw [rd_wr_row (by omega), x4 id k (by omega), x3 id k (by omega)]), pR3_fr (pR3_S hA.1 hB.1 f2 p3) (fun id k _ _ => by rw [rd_wr_row (by omega), x4 id k (by omega)])⟩
  have hT : tE (wr I4 151 4 (-1)) f m2 := by
    unfold tE at *
    simp only [rd_wr_row (show 162 ≠ 151 by decide), rd_wr_row (show 161 ≠ 151 by decide)]
    exact t4
  have j0 : ∀ id k, id ≠ 140 → id ≠ 141 → J2 id k = J id k := fun id k u v => by rw [j2 id k u v]; exact j1 id k u v
  have fxI := hQ.1
  have hL0 : wRL I J2 wn := wRL_fr hL rfl rfl (fun _ _ => rfl) (fun _ _ => rfl) j0
  refine x7_joinBoth_l hA hB hs hQ hL0 hT (fun I' J' hx hJ hb => ?_) (m1 + 1) 0 (wr I4 151 4 (-1)) J2 (by omega) (by omega) (fun _ _ _ => rfl) (fun _ _ _ _ => rfl) ?_
  · have jj : ∀ id k, id ≠ 140 → id ≠ 141 → J' id k = J id k := fun id k u v => by rw [hJ id k u v]; exact j0 id k u v
    have fx' : fS I I' := fun id k g => by rw [hx id k (by omega)]; exact fxI id k g
    refine w_aload_n dX7_joinBoth_156 rfl ?_
    refine v_getI dX7_joinBoth_157 fX7_64 ⟨by decide, rfl⟩ (Or.inl rfl) (fun z157 e157 b157 => ?_)
    have f157 : z157 = rd I' 151 4 := e157
    clear e157
    subst f157
    refine w_iconst (v := iI (-1)) dX7_joinBoth_160 rfl ?_
    refine v_icmp_ne 166 dX7_joinBoth_161 (by decide) (by clear h0 h1; omega) (by clear h0 h1; omega) (fun c161 => ?_) (fun c161 => ?_)
    · exact x7_joinBoth_e hA hB hne hs hf hnu hnv hQ hx jj hb (by omega) h1
    · refine w_iconst (v := iI 0) dX7_joinBoth_164 rfl ?_
      refine v_zret dX7_joinBoth_165 rfl ⟨rfl, rfl⟩ (by decide) ?_
      refine h0 (fun x y u => ?_) I' J' fx' jj
      exact (BS_pl hQ hb).2.1 (by omega) x y u
  · refine ⟨?_, fun _ x y u => ?_, fun u => ?_⟩
    · rw [rd_wr_eq (by decide) (by decide)]; decide
    · obtain ⟨i', k', v1, v2, v3, v4, v5, v6⟩ := u.2
      have := u.1
      omega
    · rw [rd_wr_eq (by decide) (by decide)] at u; exact absurd rfl u
