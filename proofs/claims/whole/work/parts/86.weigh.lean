/-! Search of the class: two BITS -/
noncomputable def gW (I : Nat → Nat → Int32) (a b n1 n2 : Nat) (ca : Nat → Int) (R1 C1 R2 C2 : Int) : Int := if (0 < csV I ca b n2 (R2 - R1) (C2 - C1) ∨ (0 < sdC I a n1 R1 C1 ∧ 0 < sdC I b n2 R2 C2)) ∧ csV I ca b n2 (R2 - R1) (C2 - C1) ≠ -1 ∧ waV I a b (R2 - R1) ≠ -1 ∧ wdV I a b (C2 - C1) ≠ -1 then gnC I a n1 R1 C1 + gnC I b n2 R2 C2 + csV I ca b n2 (R2 - R1) (C2 - C1) + waV I a b (R2 - R1) + wdV I a b (C2 - C1) else -1
theorem gW_bd {I : Nat → Nat → Int32} {a b n1 n2 : Nat} {ca cb : Nat → Int} (hA : bK I a ca n1) (hB : bK I b cb n2) (hs : shK I) (R1 C1 R2 C2 : Int) : -1 ≤ gW I a b n1 n2 ca R1 C1 R2 C2 ∧ gW I a b n1 n2 ca R1 C1 R2 C2 ≤ 100000 := by
  have f1 := fwC_bd hs a R1 C1
  have f2 := fwC_bd hs b R2 C2
  have s1 := sdC_bd hA.2.2.1 R1 C1
  have s2 := sdC_bd hB.2.2.1 R2 C2
  have c := csV_bd I ca b hB.2.2.1.2.1 (R2 - R1) (C2 - C1)
  have w1 := waV_bd I a b (R2 - R1)
  have w2 := wdV_bd I a b (C2 - C1)
  unfold gW
  split
  · show -1 ≤ fwC I a R1 C1 + sdC I a n1 R1 C1 + (fwC I b R2 C2 + sdC I b n2 R2 C2) + csV I ca b n2 (R2 - R1) (C2 - C1) + waV I a b (R2 - R1) + wdV I a b (C2 - C1) ∧ fwC I a R1 C1 + sdC I a n1 R1 C1 + (fwC I b R2 C2 + sdC I b n2 R2 C2) + csV I ca b n2 (R2 - R1) (C2 - C1) + waV I a b (R2 - R1) + wdV I a b (C2 - C1) ≤ 100000
    omega
  · omega
theorem gW_ne {I : Nat → Nat → Int32} {a b n1 n2 : Nat} {ca cb : Nat → Int} (hA : bK I a ca n1) (hB : bK I b cb n2) (hs : shK I) {R1 C1 R2 C2 : Int} : gW I a b n1 n2 ca R1 C1 R2 C2 ≠ -1 ↔ (0 < csV I ca b n2 (R2 - R1) (C2 - C1) ∨ (0 < sdC I a n1 R1 C1 ∧ 0 < sdC I b n2 R2 C2)) ∧ csV I ca b n2 (R2 - R1) (C2 - C1) ≠ -1 ∧ waV I a b (R2 - R1) ≠ -1 ∧ wdV I a b (C2 - C1) ≠ -1 := by
  have f1 := fwC_bd hs a R1 C1
  have f2 := fwC_bd hs b R2 C2
  have s1 := sdC_bd hA.2.2.1 R1 C1
  have s2 := sdC_bd hB.2.2.1 R2 C2
  have c := csV_bd I ca b hB.2.2.1.2.1 (R2 - R1) (C2 - C1)
  have w1 := waV_bd I a b (R2 - R1)
  have w2 := wdV_bd I a b (C2 - C1)
  unfold gW
  by_cases g : (0 < csV I ca b n2 (R2 - R1) (C2 - C1) ∨ (0 < sdC I a n1 R1 C1 ∧ 0 < sdC I b n2 R2 C2)) ∧ csV I ca b n2 (R2 - R1) (C2 - C1) ≠ -1 ∧ waV I a b (R2 - R1) ≠ -1 ∧ wdV I a b (C2 - C1) ≠ -1
  · rw [if_pos g]
    refine ⟨fun _ => g, fun _ => ?_⟩
    show fwC I a R1 C1 + sdC I a n1 R1 C1 + (fwC I b R2 C2 + sdC I b n2 R2 C2) + csV I ca b n2 (R2 - R1) (C2 - C1) + waV I a b (R2 - R1) + wdV I a b (C2 - C1) ≠ -1
    omega
  · rw [if_neg g]; exact ⟨fun u => absurd rfl u, fun u => absurd u g⟩
def sQ (I I' : Nat → Nat → Int32) (a b n1 n2 m1 m2 wn : Nat) (ca cb : Nat → Int) : Prop := fS I I' ∧ pE I' 152 m1 (plS I a ca n1 wn 0) (gnC I a n1) (tcC I a n1) ∧ pE I' 157 m2 (plS I b cb n2 wn 0) (gnC I b n2) (tcC I b n2) ∧ pR3 I I' a b n2 ca
theorem sQ_fr {I I' I2 : Nat → Nat → Int32} {a b n1 n2 m1 m2 wn : Nat} {ca cb : Nat → Int} (h : sQ I I' a b n1 n2 m1 m2 wn ca cb) (hx : ∀ id k, ¬ (id = 151 ∧ 4 ≤ k ∧ k ≤ 6) → rd I2 id k = rd I' id k) : sQ I I2 a b n1 n2 m1 m2 wn ca cb := by
  obtain ⟨h1, h2, h3, h4, h5, h6⟩ := h
  refine ⟨fun id k g => ?_, pE_fr h2 (fun id k _ _ => hx id k (by omega)), pE_fr h3 (fun id k _ _ => hx id k (by omega)), fun i hi => ?_, fun i hi => ?_, fun i k hi hk => ?_⟩
  · rw [hx id k (by omega)]; exact h1 id k g
  · rw [hx _ _ (by omega)]; exact h4 i hi
  · rw [hx _ _ (by omega)]; exact h5 i hi
  · rw [hx _ _ (by omega)]; exact h6 i k hi hk
theorem sideV {I I' : Nat → Nat → Int32} {a b n : Nat} {ca cb : Nat → Int} (h : pR3 I I' a b n ca) (g : RBc I b cb n) (r c : Int) : (if (-5 ≤ r ∧ r ≤ 5) ∧ -10 ≤ c ∧ c ≤ 10 then rd I' 164 ((r + 5) * 21 + c + 10).toNat else 0) = csV I ca b n r c := by
  by_cases q : (-5 ≤ r ∧ r ≤ 5) ∧ -10 ≤ c ∧ c ≤ 10
  · rw [if_pos q]
    have t := h.2.2 (r + 5).toNat (c + 10).toNat (by omega) (by omega)
    rw [show (((r + 5).toNat : Nat) : Int) - 5 = r by omega, show (((c + 10).toNat : Nat) : Int) - 10 = c by omega, show (r + 5).toNat * 21 + (c + 10).toNat = ((r + 5) * 21 + c + 10).toNat by omega] at t
    exact t
  · rw [if_neg q, csV_far g q]
theorem acrV {I I' : Nat → Nat → Int32} {a b n : Nat} {ca : Nat → Int} (h : pR3 I I' a b n ca) (r : Int) : (if -5 ≤ r ∧ r ≤ 5 then rd I' 165 (r + 5).toNat else 0) = waV I a b r := by
  by_cases q : -5 ≤ r ∧ r ≤ 5
  · rw [if_pos q]
    have t := h.1 (r + 5).toNat (by omega)
    rw [show (((r + 5).toNat : Nat) : Int) - 5 = r by omega] at t
    exact t
  · rw [if_neg q, waV_far q]
theorem dwnV {I I' : Nat → Nat → Int32} {a b n : Nat} {ca : Nat → Int} (h : pR3 I I' a b n ca) (r : Int) : (if -10 ≤ r ∧ r ≤ 10 then rd I' 166 (r + 10).toNat else 0) = wdV I a b r := by
  by_cases q : -10 ≤ r ∧ r ≤ 10
  · rw [if_pos q]
    have t := h.2.1 (r + 10).toNat (by omega)
    rw [show (((r + 10).toNat : Nat) : Int) - 10 = r by omega] at t
    exact t
  · rw [if_neg q, wdV_far q]
/-- the two places' numbers -/
theorem sQ_at {I I' : Nat → Nat → Int32} {a b n1 n2 m1 m2 wn : Nat} {ca cb : Nat → Int} (h : sQ I I' a b n1 n2 m1 m2 wn ca cb) {i k : Nat} (hi : i < m1) (hk : k < m2) : ((-5 < rd I' 153 i ∧ rd I' 153 i < 16 ∧ -10 < rd I' 154 i ∧ rd I' 154 i < 32) ∧ -5 < rd I' 158 k ∧ rd I' 158 k < 16 ∧ -10 < rd I' 159 k ∧ rd I' 159 k < 32) ∧ (m1 ≤ 512 ∧ m2 ≤ 512) ∧ (rd I' 155 i = gnC I a n1 (rd I' 153 i) (rd I' 154 i) ∧ rd I' 160 k = gnC I b n2 (rd I' 158 k) (rd I' 159 k)) ∧ rd I' 156 i = (if 0 < sdC I a n1 (rd I' 153 i) (rd I' 154 i) then 1 else 0) ∧ rd I' 161 k = (if 0 < sdC I b n2 (rd I' 158 k) (rd I' 159 k) then 1 else 0) := by
  have p1 := h.2.1.2.2.1 i hi
  have p2 := h.2.2.1.2.2.1 k hk
  exact ⟨⟨p1.1.2.1.1, p2.1.2.1.1⟩, ⟨h.2.1.1, h.2.2.1.1⟩, ⟨p1.2.1, p2.2.1⟩, p1.2.2, p2.2.2⟩
theorem x7_gainOf {I I' : Nat → Nat → Int32} {J : Nat → Nat → Int64} {F : Option Value → zM → Prop} {a b n1 n2 m1 m2 wn : Nat} {ca cb : Nat → Int} (hA : bK I a ca n1) (hB : bK I b cb n2) (hs : shK I) (hQ : sQ I I' a b n1 n2 m1 m2 wn ca cb) {i k : Nat} (hi : i < m1) (hk : k < m2) (h : F (some (.int (iI (gW I a b n1 n2 ca (rd I' 153 i) (rd I' 154 i) (rd I' 158 k) (rd I' 159 k))))) (gM I' J)) : Cl yX7_gainOf kX7_gainOf [.ref 151, .int (iI (i : Int)), .int (iI (k : Int))] (gM I' J) F := by
  have q := sQ_at hQ hi hk
  obtain ⟨⟨r1, r2⟩, ⟨mm1, mm2⟩, ⟨g1, g2⟩, t1, t2⟩ := q
  have f1 := fwC_bd hs a (rd I' 153 i) (rd I' 154 i)
  have f2 := fwC_bd hs b (rd I' 158 k) (rd I' 159 k)
  have s1 := sdC_bd hA.2.2.1 (rd I' 153 i) (rd I' 154 i)
  have s2 := sdC_bd hB.2.2.1 (rd I' 158 k) (rd I' 159 k)
  have gg1 : gnC I a n1 (rd I' 153 i) (rd I' 154 i) = fwC I a (rd I' 153 i) (rd I' 154 i) + sdC I a n1 (rd I' 153 i) (rd I' 154 i) := rfl
  have gg2 : gnC I b n2 (rd I' 158 k) (rd I' 159 k) = fwC I b (rd I' 158 k) (rd I' 159 k) + sdC I b n2 (rd I' 158 k) (rd I' 159 k) := rfl
  have tt1 : rd I' 156 i = 0 ↔ ¬ 0 < sdC I a n1 (rd I' 153 i) (rd I' 154 i) := by rw [t1]; split <;> omega
  have tt2 : rd I' 161 k = 0 ↔ ¬ 0 < sdC I b n2 (rd I' 158 k) (rd I' 159 k) := by rw [t2]; split <;> omega
  have tb1 : 0 ≤ rd I' 156 i ∧ rd I' 156 i ≤ 1 := by rw [t1]; split <;> omega
  have tb2 : 0 ≤ rd I' 161 k ∧ rd I' 161 k ≤ 1 := by rw [t2]; split <;> omega
  clear t1 t2
  refine cl_s (by decide) (by decide) (Nat.le_of_ble_eq_true rfl) rt_i ?_
  show Wp _ F 0 [(0, .ref 151), (1, .int (iI (i : Int))), (2, .int (iI (k : Int)))] [] _
  refine w_aload_n dX7_gainOf_0 rfl ?_
  refine v_getR (j := 157) dX7_gainOf_1 fX7_18 ⟨by decide, rfl⟩ rfl rfl ?_
  refine v_getR (j := 158) dX7_gainOf_4 fX7_44 ⟨by decide, rfl⟩ rfl rfl ?_
  refine w_iload_n dX7_gainOf_7 rfl ?_
  refine v_iald dX7_gainOf_8 ⟨by decide, rfl⟩ (by clear h; omega) (by clear h; omega) (by decide) (fun z8 e8 b8 => ?_)
  have f8 : z8 = rd I' 158 k := by rw [e8]; rfl
  clear e8
  subst f8
  refine w_aload_n dX7_gainOf_9 rfl ?_
  refine v_getR (j := 152) dX7_gainOf_10 fX7_12 ⟨by decide, rfl⟩ rfl rfl ?_
  refine v_getR (j := 153) dX7_gainOf_13 fX7_44 ⟨by decide, rfl⟩ rfl rfl ?_
  refine w_iload_n dX7_gainOf_16 rfl ?_
  refine v_iald dX7_gainOf_17 ⟨by decide, rfl⟩ (by clear h; omega) (by clear h; omega) (by decide) (fun z17 e17 b17 => ?_)
  have f17 : z17 = rd I' 153 i := by rw [e17]; rfl
  clear e17
  subst f17
  refine v_isub dX7_gainOf_18 ?_
  refine w_istore_n dX7_gainOf_19 rfl rfl ?_
  refine w_aload_n dX7_gainOf_20 rfl ?_
  refine v_getR (j := 157) dX7_gainOf_21 fX7_18 ⟨by decide, rfl⟩ rfl rfl ?_
  refine v_getR (j := 159) dX7_gainOf_24 fX7_47 ⟨by decide, rfl⟩ rfl rfl ?_
  refine w_iload_n dX7_gainOf_27 rfl ?_
  refine v_iald dX7_gainOf_28 ⟨by decide, rfl⟩ (by clear h; omega) (by clear h; omega) (by decide) (fun z28 e28 b28 => ?_)
  have f28 : z28 = rd I' 159 k := by rw [e28]; rfl
  clear e28
  subst f28
  refine w_aload_n dX7_gainOf_29 rfl ?_
  refine v_getR (j := 152) dX7_gainOf_30 fX7_12 ⟨by decide, rfl⟩ rfl rfl ?_
  refine v_getR (j := 154) dX7_gainOf_33 fX7_47 ⟨by decide, rfl⟩ rfl rfl ?_
  refine w_iload_n dX7_gainOf_36 rfl ?_
  refine v_iald dX7_gainOf_37 ⟨by decide, rfl⟩ (by clear h; omega) (by clear h; omega) (by decide) (fun z37 e37 b37 => ?_)
  have f37 : z37 = rd I' 154 i := by rw [e37]; rfl
  clear e37
  subst f37
  refine v_isub dX7_gainOf_38 ?_
  refine w_istore dX7_gainOf_39 rfl rfl ?_
  refine w_aload_n dX7_gainOf_41 rfl ?_
  refine v_getR (j := 163) dX7_gainOf_42 fX7_28 ⟨by decide, rfl⟩ rfl rfl ?_
  refine w_iload_n dX7_gainOf_45 rfl ?_
  refine w_iload dX7_gainOf_46 rfl ?_
  refine v_callV2 dX7_gainOf_48 lX7_99 vX4_sidesAt (by decide) rfl rfl ⟨by decide, rfl⟩ (by decide) rfl (Nat.le_of_ble_eq_true rfl) ?_
  refine x4_sidesAt (by omega) (by omega) ?_
  rw [sideV hQ.2.2.2 hB.2.2.1]
  have cb_ := csV_bd I ca b hB.2.2.1.2.1 (rd I' 158 k - rd I' 153 i) (rd I' 159 k - rd I' 154 i)
  refine w_istore dX7_gainOf_51 rfl rfl ?_
  refine w_iload dX7_gainOf_53 rfl ?_
  refine v_if_gt 82 dX7_gainOf_55 (by decide) (by clear h; omega) (fun c55 => ?_) (fun c55 => ?_)
  · refine w_iconst (v := iI 1) dX7_gainOf_82 rfl ?_
    refine w_goto 87 dX7_gainOf_83 (by decide) ?_
    refine w_istore dX7_gainOf_87 rfl rfl ?_
    refine w_iload dX7_gainOf_89 rfl ?_
    refine v_if_eq 100 dX7_gainOf_91 (by decide) (by decide) (fun q => absurd q (by decide)) (fun _ => ?_)
    refine w_iload dX7_gainOf_94 rfl ?_
    refine w_iconst (v := iI (-1)) dX7_gainOf_96 rfl ?_
    refine v_icmp_ne 102 dX7_gainOf_97 (by decide) (by clear h; omega) (by clear h; omega) (fun c97 => ?_) (fun c97 => ?_)
    · refine w_aload_n dX7_gainOf_102 rfl ?_
      refine v_getR (j := 163) dX7_gainOf_103 fX7_28 ⟨by decide, rfl⟩ rfl rfl ?_
      refine w_iload_n dX7_gainOf_106 rfl ?_
      refine v_callV1 dX7_gainOf_107 lX7_102 vX4_acrossAt (by decide) rfl rfl ⟨by decide, rfl⟩ (by decide) rfl (Nat.le_of_ble_eq_true rfl) ?_
      refine x4_acrossAt (by omega) ?_
      rw [acrV hQ.2.2.2]
      have wb_ := waV_bd I a b (rd I' 158 k - rd I' 153 i)
      refine w_istore dX7_gainOf_110 rfl rfl ?_
      refine w_aload_n dX7_gainOf_112 rfl ?_
      refine v_getR (j := 163) dX7_gainOf_113 fX7_28 ⟨by decide, rfl⟩ rfl rfl ?_
      refine w_iload dX7_gainOf_116 rfl ?_
      refine v_callV1 dX7_gainOf_118 lX7_106 vX4_downAt (by decide) rfl rfl ⟨by decide, rfl⟩ (by decide) rfl (Nat.le_of_ble_eq_true rfl) ?_
      refine x4_downAt (by omega) ?_
      rw [dwnV hQ.2.2.2]
      have db_ := wdV_bd I a b (rd I' 159 k - rd I' 154 i)
      refine w_istore dX7_gainOf_121 rfl rfl ?_
      refine w_iload dX7_gainOf_123 rfl ?_
      refine w_iconst (v := iI (-1)) dX7_gainOf_125 rfl ?_
      refine v_icmp_eq 135 dX7_gainOf_126 (by decide) (by clear h; omega) (by clear h; omega) (fun c126 => ?_) (fun c126 => ?_)
      · refine w_iconst (v := iI (-1)) dX7_gainOf_135 rfl ?_
        refine v_iret dX7_gainOf_136 rfl ⟨rfl, rfl⟩ ?_
        have ex : (gW I a b n1 n2 ca (rd I' 153 i) (rd I' 154 i) (rd I' 158 k) (rd I' 159 k)) = -1 := if_neg (by clear h; omega)
        rw [ex] at h; exact h
      · refine w_iload dX7_gainOf_129 rfl ?_
        refine w_iconst (v := iI (-1)) dX7_gainOf_131 rfl ?_
        refine v_icmp_ne 137 dX7_gainOf_132 (by decide) (by clear h; omega) (by clear h; omega) (fun c132 => ?_) (fun c132 => ?_)
        · refine w_aload_n dX7_gainOf_137 rfl ?_
          refine v_getR (j := 152) dX7_gainOf_138 fX7_12 ⟨by decide, rfl⟩ rfl rfl ?_
          refine v_getR (j := 155) dX7_gainOf_141 fX7_109 ⟨by decide, rfl⟩ rfl rfl ?_
          refine w_iload_n dX7_gainOf_144 rfl ?_
          refine v_iald dX7_gainOf_145 ⟨by decide, rfl⟩ (by clear h; omega) (by clear h; omega) (by decide) (fun z145 e145 b145 => ?_)
          have f145 : z145 = rd I' 155 i := by rw [e145]; rfl
          clear e145
          subst f145
          refine w_aload_n dX7_gainOf_146 rfl ?_
          refine v_getR (j := 157) dX7_gainOf_147 fX7_18 ⟨by decide, rfl⟩ rfl rfl ?_
          refine v_getR (j := 160) dX7_gainOf_150 fX7_109 ⟨by decide, rfl⟩ rfl rfl ?_
          refine w_iload_n dX7_gainOf_153 rfl ?_
          refine v_iald dX7_gainOf_154 ⟨by decide, rfl⟩ (by clear h; omega) (by clear h; omega) (by decide) (fun z154 e154 b154 => ?_)
          have f154 : z154 = rd I' 160 k := by rw [e154]; rfl
          clear e154
          subst f154
          refine v_iadd dX7_gainOf_155 ?_
          refine w_iload dX7_gainOf_156 rfl ?_
          refine v_iadd dX7_gainOf_158 ?_
          refine w_iload dX7_gainOf_159 rfl ?_
          refine v_iadd dX7_gainOf_161 ?_
          refine w_iload dX7_gainOf_162 rfl ?_
          refine v_iadd dX7_gainOf_164 ?_
          refine v_iret dX7_gainOf_165 rfl ⟨rfl, rfl⟩ ?_
          have ex : (gW I a b n1 n2 ca (rd I' 153 i) (rd I' 154 i) (rd I' 158 k) (rd I' 159 k)) = rd I' 155 i + rd I' 160 k + csV I ca b n2 (rd I' 158 k - rd I' 153 i) (rd I' 159 k - rd I' 154 i) + waV I a b (rd I' 158 k - rd I' 153 i) + wdV I a b (rd I' 159 k - rd I' 154 i) := by
            rw [g1, g2]
            exact if_pos (by clear h; omega)
          rw [ex] at h; exact h
        · refine w_iconst (v := iI (-1)) dX7_gainOf_135 rfl ?_
          refine v_iret dX7_gainOf_136 rfl ⟨rfl, rfl⟩ ?_
          have ex : (gW I a b n1 n2 ca (rd I' 153 i) (rd I' 154 i) (rd I' 158 k) (rd I' 159 k)) = -1 := if_neg (by clear h; omega)
          rw [ex] at h; exact h
    · refine w_iconst (v := iI (-1)) dX7_gainOf_100 rfl ?_
      refine v_iret dX7_gainOf_101 rfl ⟨rfl, rfl⟩ ?_
      have ex : (gW I a b n1 n2 ca (rd I' 153 i) (rd I' 154 i) (rd I' 158 k) (rd I' 159 k)) = -1 := if_neg (by clear h; omega)
      rw [ex] at h; exact h
  · refine w_aload_n dX7_gainOf_58 rfl ?_
    refine v_getR (j := 152) dX7_gainOf_59 fX7_12 ⟨by decide, rfl⟩ rfl rfl ?_
    refine v_getR (j := 156) dX7_gainOf_62 fX7_67 ⟨by decide, rfl⟩ rfl rfl ?_
    refine w_iload_n dX7_gainOf_65 rfl ?_
    refine v_zald dX7_gainOf_66 ⟨by decide, rfl⟩ (by clear h; omega) (by clear h; omega) (by decide) (fun z66 e66 b66 => ?_)
    have f66 : z66 = rd I' 156 i := by rw [e66]; rfl
    clear e66
    subst f66
    refine v_if_eq 86 dX7_gainOf_67 (by decide) (by clear h; omega) (fun c67 => ?_) (fun c67 => ?_)
    · refine w_iconst (v := iI 0) dX7_gainOf_86 rfl ?_
      refine w_istore dX7_gainOf_87 rfl rfl ?_
      refine w_iload dX7_gainOf_89 rfl ?_
      refine v_if_eq 100 dX7_gainOf_91 (by decide) (by decide) (fun _ => ?_) (fun q => absurd q (by decide))
      refine w_iconst (v := iI (-1)) dX7_gainOf_100 rfl ?_
      refine v_iret dX7_gainOf_101 rfl ⟨rfl, rfl⟩ ?_
      have ex : (gW I a b n1 n2 ca (rd I' 153 i) (rd I' 154 i) (rd I' 158 k) (rd I' 159 k)) = -1 := if_neg (by clear h; omega)
      rw [ex] at h; exact h
    · refine w_aload_n dX7_gainOf_70 rfl ?_
      refine v_getR (j := 157) dX7_gainOf_71 fX7_18 ⟨by decide, rfl⟩ rfl rfl ?_
      refine v_getR (j := 161) dX7_gainOf_74 fX7_67 ⟨by decide, rfl⟩ rfl rfl ?_
      refine w_iload_n dX7_gainOf_77 rfl ?_
      refine v_zald dX7_gainOf_78 ⟨by decide, rfl⟩ (by clear h; omega) (by clear h; omega) (by decide) (fun z78 e78 b78 => ?_)
      have f78 : z78 = rd I' 161 k := by rw [e78]; rfl
      clear e78
      subst f78
      refine v_if_eq 86 dX7_gainOf_79 (by decide) (by clear h; omega) (fun c79 => ?_) (fun c79 => ?_)
      · refine w_iconst (v := iI 0) dX7_gainOf_86 rfl ?_
        refine w_istore dX7_gainOf_87 rfl rfl ?_
        refine w_iload dX7_gainOf_89 rfl ?_
        refine v_if_eq 100 dX7_gainOf_91 (by decide) (by decide) (fun _ => ?_) (fun q => absurd q (by decide))
        refine w_iconst (v := iI (-1)) dX7_gainOf_100 rfl ?_
        refine v_iret dX7_gainOf_101 rfl ⟨rfl, rfl⟩ ?_
        have ex : (gW I a b n1 n2 ca (rd I' 153 i) (rd I' 154 i) (rd I' 158 k) (rd I' 159 k)) = -1 := if_neg (by clear h; omega)
        rw [ex] at h; exact h
      · refine w_iconst (v := iI 1) dX7_gainOf_82 rfl ?_
        refine w_goto 87 dX7_gainOf_83 (by decide) ?_
        refine w_istore dX7_gainOf_87 rfl rfl ?_
        refine w_iload dX7_gainOf_89 rfl ?_
        refine v_if_eq 100 dX7_gainOf_91 (by decide) (by decide) (fun q => absurd q (by decide)) (fun _ => ?_)
        refine w_iload dX7_gainOf_94 rfl ?_
        refine w_iconst (v := iI (-1)) dX7_gainOf_96 rfl ?_
        refine v_icmp_ne 102 dX7_gainOf_97 (by decide) (by clear h; omega) (by clear h; omega) (fun c97 => ?_) (fun c97 => ?_)
        · refine w_aload_n dX7_gainOf_102 rfl ?_
          refine v_getR (j := 163) dX7_gainOf_103 fX7_28 ⟨by decide, rfl⟩ rfl rfl ?_
          refine w_iload_n dX7_gainOf_106 rfl ?_
          refine v_callV1 dX7_gainOf_107 lX7_102 vX4_acrossAt (by decide) rfl rfl ⟨by decide, rfl⟩ (by decide) rfl (Nat.le_of_ble_eq_true rfl) ?_
          refine x4_acrossAt (by omega) ?_
          rw [acrV hQ.2.2.2]
          have wb_ := waV_bd I a b (rd I' 158 k - rd I' 153 i)
          refine w_istore dX7_gainOf_110 rfl rfl ?_
          refine w_aload_n dX7_gainOf_112 rfl ?_
          refine v_getR (j := 163) dX7_gainOf_113 fX7_28 ⟨by decide, rfl⟩ rfl rfl ?_
          refine w_iload dX7_gainOf_116 rfl ?_
          refine v_callV1 dX7_gainOf_118 lX7_106 vX4_downAt (by decide) rfl rfl ⟨by decide, rfl⟩ (by decide) rfl (Nat.le_of_ble_eq_true rfl) ?_
          refine x4_downAt (by omega) ?_
          rw [dwnV hQ.2.2.2]
          have db_ := wdV_bd I a b (rd I' 159 k - rd I' 154 i)
          refine w_istore dX7_gainOf_121 rfl rfl ?_
          refine w_iload dX7_gainOf_123 rfl ?_
          refine w_iconst (v := iI (-1)) dX7_gainOf_125 rfl ?_
          refine v_icmp_eq 135 dX7_gainOf_126 (by decide) (by clear h; omega) (by clear h; omega) (fun c126 => ?_) (fun c126 => ?_)
          · refine w_iconst (v := iI (-1)) dX7_gainOf_135 rfl ?_
            refine v_iret dX7_gainOf_136 rfl ⟨rfl, rfl⟩ ?_
            have ex : (gW I a b n1 n2 ca (rd I' 153 i) (rd I' 154 i) (rd I' 158 k) (rd I' 159 k)) = -1 := if_neg (by clear h; omega)
            rw [ex] at h; exact h
          · refine w_iload dX7_gainOf_129 rfl ?_
            refine w_iconst (v := iI (-1)) dX7_gainOf_131 rfl ?_
            refine v_icmp_ne 137 dX7_gainOf_132 (by decide) (by clear h; omega) (by clear h; omega) (fun c132 => ?_) (fun c132 => ?_)
            · refine w_aload_n dX7_gainOf_137 rfl ?_
              refine v_getR (j := 152) dX7_gainOf_138 fX7_12 ⟨by decide, rfl⟩ rfl rfl ?_
              refine v_getR (j := 155) dX7_gainOf_141 fX7_109 ⟨by decide, rfl⟩ rfl rfl ?_
              refine w_iload_n dX7_gainOf_144 rfl ?_
              refine v_iald dX7_gainOf_145 ⟨by decide, rfl⟩ (by clear h; omega) (by clear h; omega) (by decide) (fun z145 e145 b145 => ?_)
              have f145 : z145 = rd I' 155 i := by rw [e145]; rfl
              clear e145
              subst f145
              refine w_aload_n dX7_gainOf_146 rfl ?_
              refine v_getR (j := 157) dX7_gainOf_147 fX7_18 ⟨by decide, rfl⟩ rfl rfl ?_
              refine v_getR (j := 160) dX7_gainOf_150 fX7_109 ⟨by decide, rfl⟩ rfl rfl ?_
              refine w_iload_n dX7_gainOf_153 rfl ?_
              refine v_iald dX7_gainOf_154 ⟨by decide, rfl⟩ (by clear h; omega) (by clear h; omega) (by decide) (fun z154 e154 b154 => ?_)
              have f154 : z154 = rd I' 160 k := by rw [e154]; rfl
              clear e154
              subst f154
              refine v_iadd dX7_gainOf_155 ?_
              refine w_iload dX7_gainOf_156 rfl ?_
              refine v_iadd dX7_gainOf_158 ?_
              refine w_iload dX7_gainOf_159 rfl ?_
              refine v_iadd dX7_gainOf_161 ?_
              refine w_iload dX7_gainOf_162 rfl ?_
              refine v_iadd dX7_gainOf_164 ?_
              refine v_iret dX7_gainOf_165 rfl ⟨rfl, rfl⟩ ?_
              have ex : (gW I a b n1 n2 ca (rd I' 153 i) (rd I' 154 i) (rd I' 158 k) (rd I' 159 k)) = rd I' 155 i + rd I' 160 k + csV I ca b n2 (rd I' 158 k - rd I' 153 i) (rd I' 159 k - rd I' 154 i) + waV I a b (rd I' 158 k - rd I' 153 i) + wdV I a b (rd I' 159 k - rd I' 154 i) := by
                rw [g1, g2]
                exact if_pos (by clear h; omega)
              rw [ex] at h; exact h
            · refine w_iconst (v := iI (-1)) dX7_gainOf_135 rfl ?_
              refine v_iret dX7_gainOf_136 rfl ⟨rfl, rfl⟩ ?_
              have ex : (gW I a b n1 n2 ca (rd I' 153 i) (rd I' 154 i) (rd I' 158 k) (rd I' 159 k)) = -1 := if_neg (by clear h; omega)
              rw [ex] at h; exact h
        · refine w_iconst (v := iI (-1)) dX7_gainOf_100 rfl ?_
          refine v_iret dX7_gainOf_101 rfl ⟨rfl, rfl⟩ ?_
          have ex : (gW I a b n1 n2 ca (rd I' 153 i) (rd I' 154 i) (rd I' 158 k) (rd I' 159 k)) = -1 := if_neg (by clear h; omega)
          rw [ex] at h; exact h
theorem far_can {I : Nat → Nat → Int32} {wn : Nat} {ca cb : Nat → Int} {R1 C1 R2 C2 : Int} (h : ¬ (-5 ≤ R2 - R1 ∧ R2 - R1 ≤ 5)) (h1 : wC I wn ca R1 C1) (h2 : wC I wn cb R2 C2) : cW I wn ca cb R1 C1 R2 C2 := fun y hy => by
  by_cases g : 0 ≤ (y : Int) - R2 ∧ (y : Int) - R2 < 5
  · have e : (fun x => p2S I ca cb R1 C1 R2 C2 y x) = (fun x => pS I cb R2 C2 y x) := funext fun x => by
      unfold p2S pS
      have z : cA ca R1 C1 y x = 95 := by unfold cA; rw [if_neg (by omega)]
      rw [z, if_neg (show ¬ ((95 : Int) ≠ 95) by decide)]
    rw [e]; exact h2 y hy
  · have e : (fun x => p2S I ca cb R1 C1 R2 C2 y x) = (fun x => pS I ca R1 C1 y x) := funext fun x => by
      unfold p2S
      have z : cA cb R2 C2 y x = 95 := by unfold cA; rw [if_neg (by omega)]
      rw [z, if_neg (show ¬ ((95 : Int) ≠ 95) by decide)]
    rw [e]; exact h1 y hy
/-- written and wiped -/
theorem wiped {I I1 I2 : Nat → Nat → Int32} {ce : Nat → Int} {R C : Int} {f : Nat → Int} (hz : ∀ y x : Int, cA ce R C y x ≠ 95 → inS y x ∧ sgAt I y x = 95) (p1 : pnt I I1 143 ce R C f) (p2 : pnt I1 I2 143 ce R C (fun _ => 95)) : I2 = I := rd_ext fun id k => by
  rw [p2 id k]
  by_cases g : id = 143 ∧ k < 512 ∧ cA ce R C ((k / 32 : Nat) : Int) ((k % 32 : Nat) : Int) ≠ 95
  · rw [if_pos g]
    have z := (hz _ _ g.2.2).2
    unfold sgAt at z
    rw [if_pos (hz _ _ g.2.2).1, show (((k / 32 : Nat) : Int) * 32 + ((k % 32 : Nat) : Int)).toNat = k by omega, ← g.1] at z
    exact z.symm
  · rw [if_neg g, p1 id k, if_neg g]
theorem fS_pnt {I I' I1 : Nat → Nat → Int32} {ce : Nat → Int} {R C : Int} {f : Nat → Int} (h : fS I I') (p : pnt I' I1 143 ce R C f) (id k : Nat) (g : id ≠ 143) (g2 : ¬ (151 ≤ id ∧ id ≤ 166)) : rd I1 id k = rd I id k := by
  rw [pnt_row p g]; exact h id k g2
/-- BIT b's own cells, when only the sheet's signs have changed -/
theorem bK_row {I I1 : Nat → Nat → Int32} {b n : Nat} {ce : Nat → Int} (g : bK I b ce n) (h : ∀ r k, r < 13 → rd I1 (bI b r) k = rd I (bI b r) k) : bK I1 b ce n := by
  obtain ⟨g1, g2, g3, g4, g5⟩ := g
  refine ⟨g1, fun k hk => by rw [h 1 k (by decide)]; exact g2 k hk, RBc_fr g3 (h 0 4 (by decide)) (fun k => h 2 k (by decide)) (fun k => h 3 k (by decide)), ?_, g5⟩
  unfold RBe at *
  simp only [h 4 _ (by decide), h 5 _ (by decide), h 8 _ (by decide), h 11 _ (by decide)]
  exact g4
theorem x7_weigh {I I' : Nat → Nat → Int32} {J : Nat → Nat → Int64} {F : Option Value → zM → Prop} {a b n1 n2 m1 m2 wn : Nat} {ca cb : Nat → Int} (hA : bK I a ca n1) (hB : bK I b cb n2) (hs : shK I) (hQ : sQ I I' a b n1 n2 m1 m2 wn ca cb) (hL : wRL I J wn) {i k : Nat} (hi : i < m1) (hk : k < m2) (hb0 : -1 ≤ rd I' 151 4) (hy : rd I' 151 4 < (gW I a b n1 n2 ca (rd I' 153 i) (rd I' 154 i) (rd I' 158 k) (rd I' 159 k)) → (cW I wn ca cb (rd I' 153 i) (rd I' 154 i) (rd I' 158 k) (rd I' 159 k)) → ∀ J' : Nat → Nat → Int64, (∀ id k, id ≠ 140 → id ≠ 141 → J' id k = J id k) → F none (gM (wr (wr (wr I' 151 4 (gW I a b n1 n2 ca (rd I' 153 i) (rd I' 154 i) (rd I' 158 k) (rd I' 159 k))) 151 5 (i : Int)) 151 6 (k : Int)) J')) (hn : ¬ (rd I' 151 4 < (gW I a b n1 n2 ca (rd I' 153 i) (rd I' 154 i) (rd I' 158 k) (rd I' 159 k)) ∧ (cW I wn ca cb (rd I' 153 i) (rd I' 154 i) (rd I' 158 k) (rd I' 159 k))) → ∀ J' : Nat → Nat → Int64, (∀ id k, id ≠ 140 → id ≠ 141 → J' id k = J id k) → F none (gM I' J')) : Cl yX7_weigh kX7_weigh [.ref 151, .ref (bI a 0), .int (iI (i : Int)), .ref (bI b 0), .int (iI (k : Int)), .ref 142, .ref 134] (gM I' J) F := by
  have q := sQ_at hQ hi hk
  obtain ⟨⟨r1, r2⟩, ⟨mm1, mm2⟩, _⟩ := q
  have gb := gW_bd hA hB hs (rd I' 153 i) (rd I' 154 i) (rd I' 158 k) (rd I' 159 k)
  have gn := gW_ne hA hB hs (R1 := rd I' 153 i) (C1 := rd I' 154 i) (R2 := rd I' 158 k) (C2 := rd I' 159 k)
  have p1 := (hQ.2.1.2.2.1 i hi).1
  have p2 := (hQ.2.2.1.2.2.1 k hk).1
  have fx := hQ.1
  have bb := rd_bd I' 151 4
  refine cl_s (by decide) (by decide) (Nat.le_of_ble_eq_true rfl) rt_v ?_
  show Wp _ F 0 [(0, .ref 151), (1, .ref (bI a 0)), (2, .int (iI (i : Int))), (3, .ref (bI b 0)), (4, .int (iI (k : Int))), (5, .ref 142), (6, .ref 134)] [] _
  refine w_aload_n dX7_weigh_0 rfl ?_
  refine w_iload_n dX7_weigh_1 rfl ?_
  refine w_iload dX7_weigh_2 rfl ?_
  refine v_callV2 dX7_weigh_4 lX7_81 vX7_gainOf (by decide) rfl rfl ⟨by decide, rfl⟩ (by decide) rfl (Nat.le_of_ble_eq_true rfl) ?_
  refine x7_gainOf hA hB hs hQ hi hk ?_
  refine w_istore dX7_weigh_7 rfl rfl ?_
  refine w_iload dX7_weigh_9 rfl ?_
  refine w_aload_n dX7_weigh_11 rfl ?_
  refine v_getI dX7_weigh_12 fX7_64 ⟨by decide, rfl⟩ (Or.inl rfl) (fun z12 e12 b12 => ?_)
  have f12 : z12 = rd I' 151 4 := e12
  clear e12
  subst f12
  refine v_icmp_gt 19 dX7_weigh_15 (by decide) (by clear hy hn; omega) (by clear hy hn; omega) (fun c15 => ?_) (fun c15 => ?_)
  · refine w_iconst (v := iI 1) dX7_weigh_19 rfl ?_
    refine w_istore dX7_weigh_20 rfl rfl ?_
    refine w_aload_n dX7_weigh_22 rfl ?_
    refine v_getR (j := 163) dX7_weigh_23 fX7_28 ⟨by decide, rfl⟩ rfl rfl ?_
    refine w_aload_n dX7_weigh_26 rfl ?_
    refine v_getR (j := 157) dX7_weigh_27 fX7_18 ⟨by decide, rfl⟩ rfl rfl ?_
    refine v_getR (j := 158) dX7_weigh_30 fX7_44 ⟨by decide, rfl⟩ rfl rfl ?_
    refine w_iload dX7_weigh_33 rfl ?_
    refine v_iald dX7_weigh_35 ⟨by decide, rfl⟩ (by clear hy hn; omega) (by clear hy hn; omega) (by decide) (fun z35 e35 b35 => ?_)
    have f35 : z35 = rd I' 158 k := by rw [e35]; rfl
    clear e35
    subst f35
    refine w_aload_n dX7_weigh_36 rfl ?_
    refine v_getR (j := 152) dX7_weigh_37 fX7_12 ⟨by decide, rfl⟩ rfl rfl ?_
    refine v_getR (j := 153) dX7_weigh_40 fX7_44 ⟨by decide, rfl⟩ rfl rfl ?_
    refine w_iload_n dX7_weigh_43 rfl ?_
    refine v_iald dX7_weigh_44 ⟨by decide, rfl⟩ (by clear hy hn; omega) (by clear hy hn; omega) (by decide) (fun z44 e44 b44 => ?_)
    have f44 : z44 = rd I' 153 i := by rw [e44]; rfl
    clear e44
    subst f44
    refine v_isub dX7_weigh_45 ?_
    refine v_callV1 dX7_weigh_46 lX7_85 vX4_rowsMeet (by decide) rfl rfl ⟨by decide, rfl⟩ (by decide) rfl (Nat.le_of_ble_eq_true rfl) ?_
    refine x4_rowsMeet (by omega) (fun qr => ?_) (fun qr => ?_)
    · refine v_if_eq 130 dX7_weigh_49 (by decide) (by decide) (fun q => absurd q (by decide)) (fun _ => ?_)
      refine w_aload dX7_weigh_52 rfl ?_
      refine w_aload_n dX7_weigh_54 rfl ?_
      refine w_aload_n dX7_weigh_55 rfl ?_
      refine v_getR (j := 152) dX7_weigh_56 fX7_12 ⟨by decide, rfl⟩ rfl rfl ?_
      refine v_getR (j := 153) dX7_weigh_59 fX7_44 ⟨by decide, rfl⟩ rfl rfl ?_
      refine w_iload_n dX7_weigh_62 rfl ?_
      refine v_iald dX7_weigh_63 ⟨by decide, rfl⟩ (by clear hy hn; omega) (by clear hy hn; omega) (by decide) (fun z63 e63 b63 => ?_)
      have f63 : z63 = rd I' 153 i := by rw [e63]; rfl
      clear e63
      subst f63
      refine w_aload_n dX7_weigh_64 rfl ?_
      refine v_getR (j := 152) dX7_weigh_65 fX7_12 ⟨by decide, rfl⟩ rfl rfl ?_
      refine v_getR (j := 154) dX7_weigh_68 fX7_47 ⟨by decide, rfl⟩ rfl rfl ?_
      refine w_iload_n dX7_weigh_71 rfl ?_
      refine v_iald dX7_weigh_72 ⟨by decide, rfl⟩ (by clear hy hn; omega) (by clear hy hn; omega) (by decide) (fun z72 e72 b72 => ?_)
      have f72 : z72 = rd I' 154 i := by rw [e72]; rfl
      clear e72
      subst f72
      refine v_callV3 dX7_weigh_73 lX7_89 vX8_write (by decide) rfl rfl ⟨by decide, rfl⟩ (by decide) rfl (Nat.le_of_ble_eq_true rfl) ?_
      have gne : (gW I a b n1 n2 ca (rd I' 153 i) (rd I' 154 i) (rd I' 158 k) (rd I' 159 k)) ≠ -1 := by clear hy hn; omega
      have gq := gn.mp gne
      have z1 : ∀ y x : Int, cA ca (rd I' 153 i) (rd I' 154 i) y x ≠ 95 → inS y x ∧ sgAt I' y x = 95 := fun y x u => by
        have v := p1.2.1.2 y x u
        exact ⟨v.1, by rw [sgAt_S fx]; exact hs.2.2 y x v.1 v.2⟩
      have z2 : ∀ y x : Int, cA cb (rd I' 158 k) (rd I' 159 k) y x ≠ 95 → inS y x ∧ sgAt I' y x = 95 := fun y x u => by
        have v := p2.2.1.2 y x u
        exact ⟨v.1, by rw [sgAt_S fx]; exact hs.2.2 y x v.1 v.2⟩
      have no : ¬ ovl I ca b n2 (rd I' 158 k - rd I' 153 i) (rd I' 159 k - rd I' 154 i) := fun u => gq.2.1 ((cs_val hB.2.2.1.2.1).mpr u)
      rw [ovl_iff hB.2.2.1] at no
      refine x8_write hA.1 (bK_S fx hA).2.1 (RBc_S hA.1 fx hA.2.2.1) (by omega) (by omega) (fun I1 q1 => ?_)
      have sg1 : ∀ y x : Int, sgAt I1 y x = pS I ca (rd I' 153 i) (rd I' 154 i) y x := fun y x => by rw [pS_at q1 (fun y x u => (z1 y x u).1), pS_S fx]
      have rw1 : ∀ id k, id ≠ 143 → rd I1 id k = rd I' id k := fun id k g => pnt_row q1 g k
      have bA1 := bK_row (bK_S fx hA) (fun r k hr => rw1 _ _ (by have := bI_mod hA.1 hr; omega))
      have bB1 := bK_row (bK_S fx hB) (fun r k hr => rw1 _ _ (by have := bI_mod hB.1 hr; omega))
      have L1 : wRL I1 J wn := wRL_fr hL (by rw [rw1 _ _ (by decide)]; exact fx _ _ (by omega)) (by rw [rw1 _ _ (by decide)]; exact fx _ _ (by omega)) (fun k _ => by rw [rw1 _ _ (by decide)]; exact fx _ _ (by omega)) (fun k _ => by rw [rw1 _ _ (by decide)]; exact fx _ _ (by omega)) (fun _ _ _ _ => rfl)
      have aR : ∀ {s : Int → Int}, allR I1 wn s ↔ allR I wn s := fun {s} => allR_I (fun k => by rw [rw1 _ _ (by decide)]; exact fx _ _ (by omega)) (fun k => by rw [rw1 _ _ (by decide)]; exact fx _ _ (by omega))
      refine w_aload dX7_weigh_76 rfl ?_
      refine w_aload_n dX7_weigh_78 rfl ?_
      refine w_aload_n dX7_weigh_79 rfl ?_
      refine v_getR (j := 157) dX7_weigh_80 fX7_18 ⟨by decide, rfl⟩ rfl rfl ?_
      refine v_getR (j := 158) dX7_weigh_83 fX7_44 ⟨by decide, rfl⟩ rfl rfl ?_
      refine w_iload dX7_weigh_86 rfl ?_
      refine v_iald dX7_weigh_88 ⟨by decide, rfl⟩ (by clear hy hn; omega) (by clear hy hn; omega) (by decide) (fun z88 e88 b88 => ?_)
      have f88 : z88 = rd I' 158 k := by rw [e88, pnt_row q1 (by decide)]; rfl
      clear e88
      subst f88
      refine w_aload_n dX7_weigh_89 rfl ?_
      refine v_getR (j := 157) dX7_weigh_90 fX7_18 ⟨by decide, rfl⟩ rfl rfl ?_
      refine v_getR (j := 159) dX7_weigh_93 fX7_47 ⟨by decide, rfl⟩ rfl rfl ?_
      refine w_iload dX7_weigh_96 rfl ?_
      refine v_iald dX7_weigh_98 ⟨by decide, rfl⟩ (by clear hy hn; omega) (by clear hy hn; omega) (by decide) (fun z98 e98 b98 => ?_)
      have f98 : z98 = rd I' 159 k := by rw [e98, pnt_row q1 (by decide)]; rfl
      clear e98
      subst f98
      refine w_aload dX7_weigh_99 rfl ?_
      refine v_callV4 dX7_weigh_101 lX7_92 vX8_runsCanWith (by decide) rfl rfl ⟨by decide, rfl⟩ (by decide) rfl (Nat.le_of_ble_eq_true rfl) ?_
      have ce : (∀ y : Nat, y < 16 → allR I1 wn (fun x => pS I1 cb (rd I' 158 k) (rd I' 159 k) y x)) ↔ (cW I wn ca cb (rd I' 153 i) (rd I' 154 i) (rd I' 158 k) (rd I' 159 k)) := by
        unfold cW
        have e : ∀ y : Nat, (fun x => pS I1 cb (rd I' 158 k) (rd I' 159 k) (y : Int) x) = (fun x => p2S I ca cb (rd I' 153 i) (rd I' 154 i) (rd I' 158 k) (rd I' 159 k) y x) := fun y => funext fun x => by
          unfold p2S
          rw [← sg1]
          rfl
        simp only [aR, e]
      refine x8_runsCanWith (wn := wn) hB.1 L1 bB1.2.1 bB1.2.2.1 bB1.2.2.2.1 (by omega) (by omega) (fun y x u => ⟨(z2 y x u).1, ?_⟩) (fun y hy2 => ?_) (fun qc J1 j1 => ?_) (fun qc J1 j1 => ?_)
      · rw [sg1]
        unfold pS
        rw [if_neg (fun v => no ⟨y, x, u, v⟩), ← sgAt_S fx]
        exact (z2 y x u).2
      · rw [aR, show (fun x => sgAt I1 (y : Int) x) = (fun x => pS I ca (rd I' 153 i) (rd I' 154 i) y x) from funext fun x => sg1 _ _]
        exact p1.2.2.2.2 y hy2
      all_goals rw [ce] at qc
      · refine w_istore dX7_weigh_104 rfl rfl ?_
        refine w_aload dX7_weigh_106 rfl ?_
        refine w_aload_n dX7_weigh_108 rfl ?_
        refine w_aload_n dX7_weigh_109 rfl ?_
        refine v_getR (j := 152) dX7_weigh_110 fX7_12 ⟨by decide, rfl⟩ rfl rfl ?_
        refine v_getR (j := 153) dX7_weigh_113 fX7_44 ⟨by decide, rfl⟩ rfl rfl ?_
        refine w_iload_n dX7_weigh_116 rfl ?_
        refine v_iald dX7_weigh_117 ⟨by decide, rfl⟩ (by clear hy hn; omega) (by clear hy hn; omega) (by decide) (fun z117 e117 b117 => ?_)
        have f117 : z117 = rd I' 153 i := by rw [e117, pnt_row q1 (by decide)]; rfl
        clear e117
        subst f117
        refine w_aload_n dX7_weigh_118 rfl ?_
        refine v_getR (j := 152) dX7_weigh_119 fX7_12 ⟨by decide, rfl⟩ rfl rfl ?_
        refine v_getR (j := 154) dX7_weigh_122 fX7_47 ⟨by decide, rfl⟩ rfl rfl ?_
        refine w_iload_n dX7_weigh_125 rfl ?_
        refine v_iald dX7_weigh_126 ⟨by decide, rfl⟩ (by clear hy hn; omega) (by clear hy hn; omega) (by decide) (fun z126 e126 b126 => ?_)
        have f126 : z126 = rd I' 154 i := by rw [e126, pnt_row q1 (by decide)]; rfl
        clear e126
        subst f126
        refine v_callV3 dX7_weigh_127 lX7_96 vX8_wipe (by decide) rfl rfl ⟨by decide, rfl⟩ (by decide) rfl (Nat.le_of_ble_eq_true rfl) ?_
        refine x8_wipe hA.1 bA1.2.1 bA1.2.2.1 (by omega) (by omega) (fun I2 q2 => ?_)
        rw [wiped z1 q1 q2]
        refine w_iload dX7_weigh_130 rfl ?_
        refine v_if_eq 152 dX7_weigh_132 (by decide) (by decide) (fun q => absurd q (by decide)) (fun _ => ?_)
        refine w_aload_n dX7_weigh_135 rfl ?_
        refine w_iload dX7_weigh_136 rfl ?_
        refine v_putI dX7_weigh_138 fX7_64 ⟨by decide, rfl⟩ rfl (Or.inl rfl) ?_
        refine w_aload_n dX7_weigh_141 rfl ?_
        refine w_iload_n dX7_weigh_142 rfl ?_
        refine v_putI dX7_weigh_143 fX7_75 ⟨by decide, rfl⟩ rfl (Or.inl rfl) ?_
        refine w_aload_n dX7_weigh_146 rfl ?_
        refine w_iload dX7_weigh_147 rfl ?_
        refine v_putI dX7_weigh_149 fX7_78 ⟨by decide, rfl⟩ rfl (Or.inl rfl) ?_
        refine v_vret dX7_weigh_152 rfl ⟨rfl, rfl⟩ ?_
        first
          | exact hy (by clear hy hn; omega) qc J1 j1
          | exact hn (fun u => qc u.2) J1 j1
          | exact hy (by clear hy hn; omega) (far_can qr p1.2.2.2.2 p2.2.2.2.2) J (fun _ _ _ _ => rfl)
      · refine w_istore dX7_weigh_104 rfl rfl ?_
        refine w_aload dX7_weigh_106 rfl ?_
        refine w_aload_n dX7_weigh_108 rfl ?_
        refine w_aload_n dX7_weigh_109 rfl ?_
        refine v_getR (j := 152) dX7_weigh_110 fX7_12 ⟨by decide, rfl⟩ rfl rfl ?_
        refine v_getR (j := 153) dX7_weigh_113 fX7_44 ⟨by decide, rfl⟩ rfl rfl ?_
        refine w_iload_n dX7_weigh_116 rfl ?_
        refine v_iald dX7_weigh_117 ⟨by decide, rfl⟩ (by clear hy hn; omega) (by clear hy hn; omega) (by decide) (fun z117 e117 b117 => ?_)
        have f117 : z117 = rd I' 153 i := by rw [e117, pnt_row q1 (by decide)]; rfl
        clear e117
        subst f117
        refine w_aload_n dX7_weigh_118 rfl ?_
        refine v_getR (j := 152) dX7_weigh_119 fX7_12 ⟨by decide, rfl⟩ rfl rfl ?_
        refine v_getR (j := 154) dX7_weigh_122 fX7_47 ⟨by decide, rfl⟩ rfl rfl ?_
        refine w_iload_n dX7_weigh_125 rfl ?_
        refine v_iald dX7_weigh_126 ⟨by decide, rfl⟩ (by clear hy hn; omega) (by clear hy hn; omega) (by decide) (fun z126 e126 b126 => ?_)
        have f126 : z126 = rd I' 154 i := by rw [e126, pnt_row q1 (by decide)]; rfl
        clear e126
        subst f126
        refine v_callV3 dX7_weigh_127 lX7_96 vX8_wipe (by decide) rfl rfl ⟨by decide, rfl⟩ (by decide) rfl (Nat.le_of_ble_eq_true rfl) ?_
        refine x8_wipe hA.1 bA1.2.1 bA1.2.2.1 (by omega) (by omega) (fun I2 q2 => ?_)
        rw [wiped z1 q1 q2]
        refine w_iload dX7_weigh_130 rfl ?_
        refine v_if_eq 152 dX7_weigh_132 (by decide) (by decide) (fun _ => ?_) (fun q => absurd q (by decide))
        refine v_vret dX7_weigh_152 rfl ⟨rfl, rfl⟩ ?_
        first
          | exact hy (by clear hy hn; omega) qc J1 j1
          | exact hn (fun u => qc u.2) J1 j1
          | exact hy (by clear hy hn; omega) (far_can qr p1.2.2.2.2 p2.2.2.2.2) J (fun _ _ _ _ => rfl)
    · refine v_if_eq 130 dX7_weigh_49 (by decide) (by decide) (fun _ => ?_) (fun q => absurd q (by decide))
      refine w_iload dX7_weigh_130 rfl ?_
      refine v_if_eq 152 dX7_weigh_132 (by decide) (by decide) (fun q => absurd q (by decide)) (fun _ => ?_)
      refine w_aload_n dX7_weigh_135 rfl ?_
      refine w_iload dX7_weigh_136 rfl ?_
      refine v_putI dX7_weigh_138 fX7_64 ⟨by decide, rfl⟩ rfl (Or.inl rfl) ?_
      refine w_aload_n dX7_weigh_141 rfl ?_
      refine w_iload_n dX7_weigh_142 rfl ?_
      refine v_putI dX7_weigh_143 fX7_75 ⟨by decide, rfl⟩ rfl (Or.inl rfl) ?_
      refine w_aload_n dX7_weigh_146 rfl ?_
      refine w_iload dX7_weigh_147 rfl ?_
      refine v_putI dX7_weigh_149 fX7_78 ⟨by decide, rfl⟩ rfl (Or.inl rfl) ?_
      refine v_vret dX7_weigh_152 rfl ⟨rfl, rfl⟩ ?_
      first
        | exact hy (by clear hy hn; omega) qc J1 j1
        | exact hn (fun u => qc u.2) J1 j1
        | exact hy (by clear hy hn; omega) (far_can qr p1.2.2.2.2 p2.2.2.2.2) J (fun _ _ _ _ => rfl)
  · refine v_vret dX7_weigh_18 rfl ⟨rfl, rfl⟩ ?_
    exact hn (fun u => by have := u.1; clear hy hn u; omega) J (fun _ _ _ _ => rfl)
