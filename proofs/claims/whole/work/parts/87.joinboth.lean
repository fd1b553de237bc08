/-! joinBoth of the class -/
abbrev x5 (I0 I' : Nat → Nat → Int32) : Prop := ∀ id k, ¬ (id = 151 ∧ 4 ≤ k ∧ k ≤ 6) → rd I' id k = rd I0 id k
def gO (I I0 : Nat → Nat → Int32) (a b n1 n2 wn : Nat) (ca cb : Nat → Int) (i k : Nat) : Prop := gW I a b n1 n2 ca (rd I0 153 i) (rd I0 154 i) (rd I0 158 k) (rd I0 159 k) ≠ -1 ∧ cW I wn ca cb (rd I0 153 i) (rd I0 154 i) (rd I0 158 k) (rd I0 159 k)
noncomputable def wI (I I0 : Nat → Nat → Int32) (a b n1 n2 : Nat) (ca : Nat → Int) (x y : Int) : Int := gW I a b n1 n2 ca (rd I0 153 x.toNat) (rd I0 154 x.toNat) (rd I0 158 y.toNat) (rd I0 159 y.toNat)
def PI (I I0 : Nat → Nat → Int32) (a b n1 n2 m1 m2 wn : Nat) (ca cb : Nat → Int) (x y : Int) : Prop := ∃ i k : Nat, x = i ∧ y = k ∧ i < m1 ∧ k < m2 ∧ (rd I0 156 i ≠ 0 ∨ rd I0 161 k ≠ 0) ∧ gO I I0 a b n1 n2 wn ca cb i k
abbrev bS (I' : Nat → Nat → Int32) (S : Int → Int → Prop) (w : Int → Int → Int) : Prop := BS (rd I' 151 4) (rd I' 151 5) (rd I' 151 6) S w
theorem x7_weigh_s {I I0 I' : Nat → Nat → Int32} {J J0 : Nat → Nat → Int64} {F : Option Value → zM → Prop} {a b n1 n2 m1 m2 wn : Nat} {ca cb : Nat → Int} (hA : bK I a ca n1) (hB : bK I b cb n2) (hs : shK I) (hQ : sQ I I0 a b n1 n2 m1 m2 wn ca cb) (hL : wRL I J0 wn) (hx : x5 I0 I') (hJ : (∀ id k, id ≠ 140 → id ≠ 141 → J id k = J0 id k)) {i k : Nat} (hi : i < m1) (hk : k < m2) {S : Int → Int → Prop} (hS : ∀ x y, S x y → x < i ∨ (x = i ∧ y < k)) (hb : bS I' S (wI I I0 a b n1 n2 ca)) (h : ∀ (I3 : Nat → Nat → Int32) (J' : Nat → Nat → Int64), x5 I0 I3 → (∀ id k, id ≠ 140 → id ≠ 141 → J' id k = J0 id k) → bS I3 (fun x y => S x y ∨ (x = i ∧ y = k ∧ gO I I0 a b n1 n2 wn ca cb i k)) (wI I I0 a b n1 n2 ca) → F none (gM I3 J')) : Cl yX7_weigh kX7_weigh [.ref 151, .ref (bI a 0), .int (iI (i : Int)), .ref (bI b 0), .int (iI (k : Int)), .ref 142, .ref 134] (gM I' J) F := by
  have e1 : rd I' 153 i = rd I0 153 i := hx _ _ (by omega)
  have e2 : rd I' 154 i = rd I0 154 i := hx _ _ (by omega)
  have e3 : rd I' 158 k = rd I0 158 k := hx _ _ (by omega)
  have e4 : rd I' 159 k = rd I0 159 k := hx _ _ (by omega)
  have gb := gW_bd hA hB hs (rd I0 153 i) (rd I0 154 i) (rd I0 158 k) (rd I0 159 k)
  have q := sQ_at hQ hi hk
  have wv : (wI I I0 a b n1 n2 ca) (i : Int) (k : Int) = gW I a b n1 n2 ca (rd I0 153 i) (rd I0 154 i) (rd I0 158 k) (rd I0 159 k) := by
    unfold wI
    rw [Int.toNat_natCast, Int.toNat_natCast]
  refine x7_weigh hA hB hs (sQ_fr hQ hx) (wRL_fr hL rfl rfl (fun _ _ => rfl) (fun _ _ => rfl) hJ) hi hk hb.1 (fun g c J' j => ?_) (fun g J' j => ?_)
  · rw [e1, e2, e3, e4] at g c ⊢
    have n1' : gW I a b n1 n2 ca (rd I0 153 i) (rd I0 154 i) (rd I0 158 k) (rd I0 159 k) ≠ -1 := by have := hb.1; omega
    refine h _ J' (fun id k' u => ?_) (fun id k' u v => by rw [j id k' u v]; exact hJ id k' u v) ?_
    · rw [rd_wr_ne (by omega), rd_wr_ne (by omega), rd_wr_ne (by omega)]; exact hx id k' u
    · unfold bS
      rw [rd_wr_eq (by omega) (by omega), rd_wr_ne (by omega), rd_wr_ne (by omega), rd_wr_eq (by omega) (by omega), rd_wr_ne (by omega), rd_wr_eq (by omega) (by omega)]
      have y := BS_yes (x := (i : Int)) (y := (k : Int)) (v := gW I a b n1 n2 ca (rd I0 153 i) (rd I0 154 i) (rd I0 158 k) (rd I0 159 k)) hb wv (by omega) (Or.inl g)
      refine BS_cg y (fun x y => ?_)
      constructor
      · rintro (u | u)
        · exact Or.inl u
        · exact Or.inr ⟨u.1, u.2.1⟩
      · rintro (u | u)
        · exact Or.inl u
        · exact Or.inr ⟨u.1, u.2, n1', c⟩
  · rw [e1, e2, e3, e4] at g
    refine h I' J' hx (fun id k' u v => by rw [j id k' u v]; exact hJ id k' u v) ?_
    by_cases G : gO I I0 a b n1 n2 wn ca cb i k
    · have nl : ¬ rd I' 151 4 < gW I a b n1 n2 ca (rd I0 153 i) (rd I0 154 i) (rd I0 158 k) (rd I0 159 k) := fun u => g ⟨u, G.2⟩
      have g1 := G.1
      have y := BS_no (x := (i : Int)) (y := (k : Int)) (v := gW I a b n1 n2 ca (rd I0 153 i) (rd I0 154 i) (rd I0 158 k) (rd I0 159 k)) hb wv (by omega) (fun u => by
        rcases u with u | ⟨u1, u2⟩
        · exact nl u
        · have t := hS _ _ (hb.2.2 (by omega)).1
          omega)
      refine BS_cg y (fun x y => ?_)
      constructor
      · rintro (u | u)
        · exact Or.inl u
        · exact Or.inr ⟨u.1, u.2.1⟩
      · rintro (u | u)
        · exact Or.inl u
        · exact Or.inr ⟨u.1, u.2, G⟩
    · refine BS_cg hb (fun x y => ?_)
      constructor
      · rintro (u | u)
        · exact u
        · exact absurd u.2.2 G
      · exact Or.inl
theorem x7_joinBoth_1 {I I0 : Nat → Nat → Int32} {J0 : Nat → Nat → Int64} {F : Option Value → zM → Prop} {a b n1 n2 m1 m2 wn : Nat} {ca cb : Nat → Int} (hA : bK I a ca n1) (hB : bK I b cb n2) (hs : shK I) (hQ : sQ I I0 a b n1 n2 m1 m2 wn ca cb) (hL : wRL I J0 wn) {f i : Nat} (hi : i < m1) (ht : rd I0 156 i ≠ 0) (h : ∀ (I' : Nat → Nat → Int32) (J : Nat → Nat → Int64), x5 I0 I' → (∀ id k, id ≠ 140 → id ≠ 141 → J id k = J0 id k) → bS I' (fun x y => x < ((i : Int) + 1) ∧ PI I I0 a b n1 n2 m1 m2 wn ca cb x y) (wI I I0 a b n1 n2 ca) → Wp (sE kX7_joinBoth RX7) F 150 [(0, .ref 151), (1, .ref (bI a 0)), (2, .ref (bI b 0)), (3, .ref 142), (4, .ref 134), (5, .int (iI (f : Int))), (6, .int (iI (i : Int)))] [] (gM I' J)) : ∀ (nz : Nat) (k : Nat) (I' : Nat → Nat → Int32) (J : Nat → Nat → Int64), m2 - k < nz → k ≤ m2 → x5 I0 I' → (∀ id k, id ≠ 140 → id ≠ 141 → J id k = J0 id k) → bS I' (fun x y => (x < (i : Int) ∧ PI I I0 a b n1 n2 m1 m2 wn ca cb x y) ∨ (x = i ∧ y < k ∧ PI I I0 a b n1 n2 m1 m2 wn ca cb x y)) (wI I I0 a b n1 n2 ca) → Wp (sE kX7_joinBoth RX7) F 82 [(0, .ref 151), (1, .ref (bI a 0)), (2, .ref (bI b 0)), (3, .ref 142), (4, .ref 134), (5, .int (iI (f : Int))), (6, .int (iI (i : Int))), (7, .int (iI (k : Int)))] [] (gM I' J) := by
  intro nz
  induction nz with
  | zero =>
    intro k I' J hmz hk hx hJ hb
    exact absurd hmz (Nat.not_lt_zero _)
  | succ nz ih =>
    intro k I' J hmz hk hx hJ hb
    refine w_iload dX7_joinBoth_82 rfl ?_
    refine w_aload_n dX7_joinBoth_84 rfl ?_
    refine v_getR (j := 157) dX7_joinBoth_85 fX7_18 ⟨by decide, rfl⟩ rfl rfl ?_
    refine v_getI dX7_joinBoth_88 fX7_36 ⟨by decide, rfl⟩ (Or.inl rfl) (fun z88 e88 b88 => ?_)
    have f88 : z88 = m2 := by rw [e88, hx _ _ (by omega)]; exact hQ.2.2.1.2.1
    have mm := hQ.2.2.1.1
    have mm1 := hQ.2.1.1
    refine v_icmp_ge 113 dX7_joinBoth_91 (by decide) (by clear h; omega) (by clear h; omega) (fun c91 => ?_) (fun c91 => ?_)
    · refine w_goto 150 dX7_joinBoth_113 (by decide) ?_
      refine w_keep 7 ?_
      refine h I' J hx hJ (BS_cg hb (fun x y => ?_))
      constructor
      · rintro ⟨u1, u2⟩
        by_cases g : x < (i : Int)
        · exact Or.inl ⟨g, u2⟩
        · obtain ⟨i', k', v1, v2, v3, v4, v5, v6⟩ := id u2
          exact Or.inr ⟨by omega, by omega, u2⟩
      · rintro (⟨u1, u2⟩ | ⟨u1, u2, u3⟩)
        · exact ⟨by omega, u2⟩
        · exact ⟨by omega, u3⟩
    · refine w_aload_n dX7_joinBoth_94 rfl ?_
      refine w_aload_n dX7_joinBoth_95 rfl ?_
      refine w_iload dX7_joinBoth_96 rfl ?_
      refine w_aload_n dX7_joinBoth_98 rfl ?_
      refine w_iload dX7_joinBoth_99 rfl ?_
      refine w_aload_n dX7_joinBoth_101 rfl ?_
      refine w_aload dX7_joinBoth_102 rfl ?_
      refine v_callV6 dX7_joinBoth_104 lX7_71 vX7_weigh (by decide) rfl rfl ⟨by decide, rfl⟩ (by decide) rfl (Nat.le_of_ble_eq_true rfl) ?_
      refine x7_weigh_s hA hB hs hQ hL hx hJ hi (show k < m2 by omega) (S := (fun x y => (x < (i : Int) ∧ PI I I0 a b n1 n2 m1 m2 wn ca cb x y) ∨ (x = i ∧ y < k ∧ PI I I0 a b n1 n2 m1 m2 wn ca cb x y))) (fun x y u => by
        rcases u with u | u
        · exact Or.inl u.1
        · exact Or.inr ⟨u.1, u.2.1⟩) hb (fun I3 J3 x3 j3 b3 => ?_)
      refine v_iinc dX7_joinBoth_107 rfl rfl rfl ?_
      refine w_goto 82 dX7_joinBoth_110 (by decide) ?_
      rw [show (k : Int) + 1 = ((k + 1 : Nat) : Int) by omega]
      refine ih (k + 1) I3 J3 (by omega) (by omega) x3 j3 (BS_cg b3 (fun x y => ?_))
      constructor
      · rintro (u | ⟨u1, u2, u3⟩)
        · exact Or.inl (Or.inl u)
        · by_cases g : y < k
          · exact Or.inl (Or.inr ⟨u1, g, u3⟩)
          · have ey : y = k := by omega
            obtain ⟨i', k', v1, v2, v3, v4, v5, v6⟩ := id u3
            have a1 : i' = i := by omega
            have a2 : k' = k := by omega
            rw [a1, a2] at v6
            exact Or.inr ⟨u1, ey, v6⟩
      · rintro ((u | ⟨u1, u2, u3⟩) | ⟨u1, u2, u3⟩)
        · exact Or.inl u
        · exact Or.inr ⟨u1, by omega, u3⟩
        · exact Or.inr ⟨u1, by omega, i, k, u1, u2, hi, by omega, Or.inl ht, u3⟩
theorem x7_joinBoth_2 {I I0 : Nat → Nat → Int32} {J0 : Nat → Nat → Int64} {F : Option Value → zM → Prop} {a b n1 n2 m1 m2 wn : Nat} {ca cb : Nat → Int} (hA : bK I a ca n1) (hB : bK I b cb n2) (hs : shK I) (hQ : sQ I I0 a b n1 n2 m1 m2 wn ca cb) (hL : wRL I J0 wn) {f i : Nat} (hi : i < m1) (ht : rd I0 156 i = 0) (hT : tE I0 f m2) (h : ∀ (I' : Nat → Nat → Int32) (J : Nat → Nat → Int64), x5 I0 I' → (∀ id k, id ≠ 140 → id ≠ 141 → J id k = J0 id k) → bS I' (fun x y => x < ((i : Int) + 1) ∧ PI I I0 a b n1 n2 m1 m2 wn ca cb x y) (wI I I0 a b n1 n2 ca) → Wp (sE kX7_joinBoth RX7) F 150 [(0, .ref 151), (1, .ref (bI a 0)), (2, .ref (bI b 0)), (3, .ref 142), (4, .ref 134), (5, .int (iI (f : Int))), (6, .int (iI (i : Int)))] [] (gM I' J)) : ∀ (nz : Nat) (k : Nat) (I' : Nat → Nat → Int32) (J : Nat → Nat → Int64), f - k < nz → k ≤ f → x5 I0 I' → (∀ id k, id ≠ 140 → id ≠ 141 → J id k = J0 id k) → bS I' (fun x y => (x < (i : Int) ∧ PI I I0 a b n1 n2 m1 m2 wn ca cb x y) ∨ (x = i ∧ (∃ t, t < k ∧ rd I0 162 t = y) ∧ PI I I0 a b n1 n2 m1 m2 wn ca cb x y)) (wI I I0 a b n1 n2 ca) → Wp (sE kX7_joinBoth RX7) F 119 [(0, .ref 151), (1, .ref (bI a 0)), (2, .ref (bI b 0)), (3, .ref 142), (4, .ref 134), (5, .int (iI (f : Int))), (6, .int (iI (i : Int))), (7, .int (iI (k : Int)))] [] (gM I' J) := by
  intro nz
  induction nz with
  | zero =>
    intro k I' J hmz hk hx hJ hb
    exact absurd hmz (Nat.not_lt_zero _)
  | succ nz ih =>
    intro k I' J hmz hk hx hJ hb
    have tf := hT.1
    have mz := hQ.2.2.1.1
    refine w_iload dX7_joinBoth_119 rfl ?_
    refine w_iload dX7_joinBoth_121 rfl ?_
    refine v_icmp_ge 150 dX7_joinBoth_123 (by decide) (by clear h; omega) (by clear h; omega) (fun c123 => ?_) (fun c123 => ?_)
    · refine w_keep 7 ?_
      refine h I' J hx hJ (BS_cg hb (fun x y => ?_))
      constructor
      · rintro ⟨u1, u2⟩
        by_cases g : x < (i : Int)
        · exact Or.inl ⟨g, u2⟩
        · obtain ⟨i', k', v1, v2, v3, v4, v5, v6⟩ := id u2
          have a1 : i' = i := by omega
          rw [a1] at v5
          obtain ⟨t, t1, t2⟩ := hT.2.2.2 k' v4 (v5.resolve_left (fun z => z ht))
          exact Or.inr ⟨by omega, ⟨t, by omega, by omega⟩, u2⟩
      · rintro (⟨u1, u2⟩ | ⟨u1, u2, u3⟩)
        · exact ⟨by omega, u2⟩
        · exact ⟨by omega, u3⟩
    · refine w_aload_n dX7_joinBoth_126 rfl ?_
      refine w_aload_n dX7_joinBoth_127 rfl ?_
      refine w_iload dX7_joinBoth_128 rfl ?_
      refine w_aload_n dX7_joinBoth_130 rfl ?_
      refine w_aload_n dX7_joinBoth_131 rfl ?_
      refine v_getR (j := 162) dX7_joinBoth_132 fX7_21 ⟨by decide, rfl⟩ rfl rfl ?_
      refine w_iload dX7_joinBoth_135 rfl ?_
      refine v_iald dX7_joinBoth_137 ⟨by decide, rfl⟩ (by have := hT.1; have := hQ.2.2.1.1; clear h; omega) (by have := hT.1; have := hQ.2.2.1.1; clear h; omega) (by decide) (fun z137 e137 b137 => ?_)
      have f137 : z137 = rd I0 162 k := by rw [e137, hx _ _ (by omega)]; rfl
      clear e137
      subst f137
      have tk_ := hT.2.1 k (by omega)
      obtain ⟨kk, ek⟩ : ∃ kk : Nat, rd I0 162 k = kk := ⟨(rd I0 162 k).toNat, by omega⟩
      rw [ek]
      have mm := hQ.2.2.1.1
      have mm1 := hQ.2.1.1
      have t161 : rd I0 161 kk ≠ 0 := by have := tk_.2.2; rw [ek, Int.toNat_natCast] at this; exact this
      refine w_aload_n dX7_joinBoth_138 rfl ?_
      refine w_aload dX7_joinBoth_139 rfl ?_
      refine v_callV6 dX7_joinBoth_141 lX7_71 vX7_weigh (by decide) rfl rfl ⟨by decide, rfl⟩ (by decide) rfl (Nat.le_of_ble_eq_true rfl) ?_
      refine x7_weigh_s hA hB hs hQ hL hx hJ hi (show kk < m2 by omega) (S := (fun x y => (x < (i : Int) ∧ PI I I0 a b n1 n2 m1 m2 wn ca cb x y) ∨ (x = i ∧ (∃ t, t < k ∧ rd I0 162 t = y) ∧ PI I I0 a b n1 n2 m1 m2 wn ca cb x y))) (fun x y u => by
        rcases u with u | ⟨u1, ⟨t, u2, u3⟩, _⟩
        · exact Or.inl u.1
        · refine Or.inr ⟨u1, ?_⟩
          have := hT.2.2.1 t k u2 (by omega)
          omega) hb (fun I3 J3 x3 j3 b3 => ?_)
      refine v_iinc dX7_joinBoth_144 rfl rfl rfl ?_
      refine w_goto 119 dX7_joinBoth_147 (by decide) ?_
      rw [show (k : Int) + 1 = ((k + 1 : Nat) : Int) by omega]
      refine ih (k + 1) I3 J3 (by omega) (by omega) x3 j3 (BS_cg b3 (fun x y => ?_))
      constructor
      · rintro (u | ⟨u1, ⟨t, u2, u4⟩, u3⟩)
        · exact Or.inl (Or.inl u)
        · by_cases g : t < k
          · exact Or.inl (Or.inr ⟨u1, ⟨t, g, u4⟩, u3⟩)
          · have et : t = k := by omega
            rw [et, ek] at u4
            obtain ⟨i', k', v1, v2, v3, v4, v5, v6⟩ := id u3
            have a1 : i' = i := by omega
            have a2 : k' = kk := by omega
            rw [a1, a2] at v6
            exact Or.inr ⟨u1, by omega, v6⟩
      · rintro ((u | ⟨u1, ⟨t, u2, u4⟩, u3⟩) | ⟨u1, u2, u3⟩)
        · exact Or.inl u
        · exact Or.inr ⟨u1, ⟨t, by omega, u4⟩, u3⟩
        · exact Or.inr ⟨u1, ⟨k, by omega, by rw [ek]; exact u2.symm⟩, i, kk, u1, u2, hi, by omega, Or.inr t161, u3⟩
theorem x7_joinBoth_l {I I0 : Nat → Nat → Int32} {J0 : Nat → Nat → Int64} {F : Option Value → zM → Prop} {a b n1 n2 m1 m2 wn : Nat} {ca cb : Nat → Int} (hA : bK I a ca n1) (hB : bK I b cb n2) (hs : shK I) (hQ : sQ I I0 a b n1 n2 m1 m2 wn ca cb) (hL : wRL I J0 wn) {f : Nat} (hT : tE I0 f m2) (h : ∀ (I' : Nat → Nat → Int32) (J : Nat → Nat → Int64), x5 I0 I' → (∀ id k, id ≠ 140 → id ≠ 141 → J id k = J0 id k) → bS I' (PI I I0 a b n1 n2 m1 m2 wn ca cb) (wI I I0 a b n1 n2 ca) → Wp (sE kX7_joinBoth RX7) F 156 [(0, .ref 151), (1, .ref (bI a 0)), (2, .ref (bI b 0)), (3, .ref 142), (4, .ref 134), (5, .int (iI (f : Int)))] [] (gM I' J)) : ∀ (nz : Nat) (i : Nat) (I' : Nat → Nat → Int32) (J : Nat → Nat → Int64), m1 - i < nz → i ≤ m1 → x5 I0 I' → (∀ id k, id ≠ 140 → id ≠ 141 → J id k = J0 id k) → bS I' (fun x y => x < (i : Int) ∧ PI I I0 a b n1 n2 m1 m2 wn ca cb x y) (wI I I0 a b n1 n2 ca) → Wp (sE kX7_joinBoth RX7) F 54 [(0, .ref 151), (1, .ref (bI a 0)), (2, .ref (bI b 0)), (3, .ref 142), (4, .ref 134), (5, .int (iI (f : Int))), (6, .int (iI (i : Int)))] [] (gM I' J) := by
  intro nz
  induction nz with
  | zero =>
    intro i I' J hmz hi hx hJ hb
    exact absurd hmz (Nat.not_lt_zero _)
  | succ nz ih =>
    intro i I' J hmz hi hx hJ hb
    refine w_iload dX7_joinBoth_54 rfl ?_
    refine w_aload_n dX7_joinBoth_56 rfl ?_
    refine v_getR (j := 152) dX7_joinBoth_57 fX7_12 ⟨by decide, rfl⟩ rfl rfl ?_
    refine v_getI dX7_joinBoth_60 fX7_36 ⟨by decide, rfl⟩ (Or.inl rfl) (fun z60 e60 b60 => ?_)
    have f60 : z60 = m1 := by rw [e60, hx _ _ (by omega)]; exact hQ.2.1.2.1
    have mm1 := hQ.2.1.1
    refine v_icmp_ge 156 dX7_joinBoth_63 (by decide) (by clear h; omega) (by clear h; omega) (fun c63 => ?_) (fun c63 => ?_)
    · refine w_keep 6 ?_
      refine h I' J hx hJ (BS_cg hb (fun x y => ?_))
      constructor
      · intro u
        obtain ⟨i', k', v1, v2, v3, v4, v5, v6⟩ := id u
        exact ⟨by clear h; omega, u⟩
      · exact fun u => u.2
    · refine w_aload_n dX7_joinBoth_66 rfl ?_
      refine v_getR (j := 152) dX7_joinBoth_67 fX7_12 ⟨by decide, rfl⟩ rfl rfl ?_
      refine v_getR (j := 156) dX7_joinBoth_70 fX7_67 ⟨by decide, rfl⟩ rfl rfl ?_
      refine w_iload dX7_joinBoth_73 rfl ?_
      refine v_zald dX7_joinBoth_75 ⟨by decide, rfl⟩ (by clear h; omega) (by clear h; omega) (by decide) (fun z75 e75 b75 => ?_)
      have f75 : z75 = rd I0 156 i := by rw [e75, hx _ _ (by omega)]; rfl
      refine v_if_eq 116 dX7_joinBoth_76 (by decide) (by clear h; omega) (fun c76 => ?_) (fun c76 => ?_)
      · refine w_iconst (v := iI 0) dX7_joinBoth_116 rfl ?_
        refine w_istore dX7_joinBoth_117 rfl rfl ?_
        have kont : ∀ (I' : Nat → Nat → Int32) (J : Nat → Nat → Int64), x5 I0 I' → (∀ id k, id ≠ 140 → id ≠ 141 → J id k = J0 id k) → bS I' (fun x y => x < ((i : Int) + 1) ∧ PI I I0 a b n1 n2 m1 m2 wn ca cb x y) (wI I I0 a b n1 n2 ca) → Wp (sE kX7_joinBoth RX7) F 150 [(0, .ref 151), (1, .ref (bI a 0)), (2, .ref (bI b 0)), (3, .ref 142), (4, .ref 134), (5, .int (iI (f : Int))), (6, .int (iI (i : Int)))] [] (gM I' J) := by
          intro I3 J3 x3 j3 b3
          refine v_iinc dX7_joinBoth_150 rfl rfl rfl ?_
          refine w_goto 54 dX7_joinBoth_153 (by decide) ?_
          rw [show (i : Int) + 1 = ((i + 1 : Nat) : Int) by omega] at b3
          show Wp (sE kX7_joinBoth RX7) F 54 [(0, .ref 151), (1, .ref (bI a 0)), (2, .ref (bI b 0)), (3, .ref 142), (4, .ref 134), (5, .int (iI (f : Int))), (6, .int (iI ((i : Int) + 1)))] [] (gM I3 J3)
          rw [show (i : Int) + 1 = ((i + 1 : Nat) : Int) by omega]
          exact ih (i + 1) I3 J3 (by omega) (by omega) x3 j3 b3
        refine x7_joinBoth_2 hA hB hs hQ hL (show i < m1 by clear h; omega) (show rd I0 156 i = 0 by clear h; omega) hT kont (f + 1) 0 I' J (by omega) (by omega) hx hJ (BS_cg hb (fun x y => ?_))
        constructor
        · rintro (u | ⟨_, ⟨t, u2, _⟩, u3⟩)
          · exact u
          · omega
        · exact Or.inl
      · refine w_iconst (v := iI 0) dX7_joinBoth_79 rfl ?_
        refine w_istore dX7_joinBoth_80 rfl rfl ?_
        have kont : ∀ (I' : Nat → Nat → Int32) (J : Nat → Nat → Int64), x5 I0 I' → (∀ id k, id ≠ 140 → id ≠ 141 → J id k = J0 id k) → bS I' (fun x y => x < ((i : Int) + 1) ∧ PI I I0 a b n1 n2 m1 m2 wn ca cb x y) (wI I I0 a b n1 n2 ca) → Wp (sE kX7_joinBoth RX7) F 150 [(0, .ref 151), (1, .ref (bI a 0)), (2, .ref (bI b 0)), (3, .ref 142), (4, .ref 134), (5, .int (iI (f : Int))), (6, .int (iI (i : Int)))] [] (gM I' J) := by
          intro I3 J3 x3 j3 b3
          refine v_iinc dX7_joinBoth_150 rfl rfl rfl ?_
          refine w_goto 54 dX7_joinBoth_153 (by decide) ?_
          rw [show (i : Int) + 1 = ((i + 1 : Nat) : Int) by omega] at b3
          show Wp (sE kX7_joinBoth RX7) F 54 [(0, .ref 151), (1, .ref (bI a 0)), (2, .ref (bI b 0)), (3, .ref 142), (4, .ref 134), (5, .int (iI (f : Int))), (6, .int (iI ((i : Int) + 1)))] [] (gM I3 J3)
          rw [show (i : Int) + 1 = ((i + 1 : Nat) : Int) by omega]
          exact ih (i + 1) I3 J3 (by omega) (by omega) x3 j3 b3
        refine x7_joinBoth_1 hA hB hs hQ hL (show i < m1 by clear h; omega) (show rd I0 156 i ≠ 0 by clear h; omega) kont (m2 + 1) 0 I' J (by omega) (by omega) hx hJ (BS_cg hb (fun x y => ?_))
        constructor
        · rintro (u | ⟨_, u2, u3⟩)
          · exact u
          · obtain ⟨i', k', v1, v2, v3, v4, v5, v6⟩ := u3
            omega
        · exact Or.inl
