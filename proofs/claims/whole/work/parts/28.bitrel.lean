/-! a BIT of the class and its CELLS (ce k: the sign at row k / 10, column k % 10) -/
abbrev isSg (s : Int) : Prop := s = 46 ∨ (97 ≤ s ∧ s ≤ 122) ∨ s = 44 ∨ s = 95
/-- place of CELL j of the list -/
def cp (I : Nat → Nat → Int32) (b j : Nat) : Nat := (rd I (bI b 2) j * 10 + rd I (bI b 3) j).toNat
def RBc (I : Nat → Nat → Int32) (b : Nat) (ce : Nat → Int) (n : Nat) : Prop := rd I (bI b 0) 4 = n ∧ n ≤ 50 ∧ (∀ j, j < n → 0 ≤ rd I (bI b 2) j ∧ rd I (bI b 2) j < 5 ∧ 0 ≤ rd I (bI b 3) j ∧ rd I (bI b 3) j < 10 ∧ ce (cp I b j) ≠ 95) ∧ (∀ i j, i < j → j < n → cp I b i < cp I b j) ∧ ∀ k, k < 50 → ce k ≠ 95 → ∃ j, j < n ∧ cp I b j = k
def RBt (I : Nat → Nat → Int32) (b : Nat) (ce : Nat → Int) (n : Nat) : Prop := (¬ ink ce → rd I (bI b 0) 7 = -1) ∧ (ink ce → ∃ f, f < n ∧ rd I (bI b 0) 7 = f ∧ isTx (ce (cp I b f)) ∧ ∀ j, j < f → ¬ isTx (ce (cp I b j))) ∧ (∀ j, j < n → isTx (ce (cp I b j)) → rd I (bI b 3) j ≤ rd I (bI b 0) 8) ∧ (ink ce → ∃ j, j < n ∧ isTx (ce (cp I b j)) ∧ rd I (bI b 3) j = rd I (bI b 0) 8) ∧ -1 ≤ rd I (bI b 0) 8 ∧ rd I (bI b 0) 8 < 10
abbrev rowH (ce : Nat → Int) (r : Nat) : Prop := ∃ c, c < 10 ∧ ce (10 * r + c) ≠ 95
abbrev colH (ce : Nat → Int) (c : Nat) : Prop := ∃ r, r < 5 ∧ ce (10 * r + c) ≠ 95
def RBe (I : Nat → Nat → Int32) (b : Nat) (ce : Nat → Int) : Prop := (∀ r, r < 5 → (¬ rowH ce r → rd I (bI b 4) r = -1 ∧ rd I (bI b 5) r = -1 ∧ rd I (bI b 8) r = 0) ∧ (rowH ce r → ∃ f l : Nat, rd I (bI b 4) r = f ∧ rd I (bI b 5) r = l ∧ rd I (bI b 8) r = 1 ∧ f ≤ l ∧ l < 10 ∧ ce (10 * r + f) ≠ 95 ∧ ce (10 * r + l) ≠ 95 ∧ ∀ c, c < 10 → ce (10 * r + c) ≠ 95 → f ≤ c ∧ c ≤ l)) ∧ ∀ c, c < 10 → (colH ce c → rd I (bI b 11) c = 1) ∧ (¬ colH ce c → rd I (bI b 11) c = 0)
def RB (I : Nat → Nat → Int32) (b : Nat) (ce : Nat → Int) : Prop := (∀ k, k < 50 → rd I (bI b 1) k = ce k) ∧ (∀ k, k < 50 → isSg (ce k)) ∧ ∃ n, RBc I b ce n ∧ RBt I b ce n ∧ RBe I b ce
theorem cp_rc {I : Nat → Nat → Int32} {b n j : Nat} {ce : Nat → Int} (h : RBc I b ce n) (hj : j < n) : ∃ r c : Nat, r < 5 ∧ c < 10 ∧ rd I (bI b 2) j = r ∧ rd I (bI b 3) j = c ∧ cp I b j = 10 * r + c ∧ cp I b j < 50 := by
  have h1 := h.2.2.1 j hj
  refine ⟨(rd I (bI b 2) j).toNat, (rd I (bI b 3) j).toNat, by omega, by omega, by omega, by omega, ?_, ?_⟩ <;> unfold cp <;> omega
theorem line_iff {i w : Int} {r c : Nat} (hw : 0 < w) : (i + r * w + c) / w = i / w + r ↔ i % w + c < w := by
  have h1 := Int.mul_ediv_add_emod i w
  have h2 := Int.emod_nonneg i (show w ≠ 0 by omega)
  have e : i + r * w + c = (i % w + c) + w * (i / w + r) := by rw [Int.mul_add, Int.mul_comm w (r : Int)]; omega
  rw [e, Int.add_mul_ediv_left _ _ (show w ≠ 0 by omega)]
  constructor
  · intro h
    rcases Int.lt_or_le (i % w + c) w with q | q
    · exact q
    · have := Int.ediv_le_ediv hw q
      rw [Int.ediv_self (show w ≠ 0 by omega)] at this
      omega
  · intro h
    rw [Int.ediv_eq_zero_of_lt (by omega) h]
    omega
theorem cn_shift {q : Nat → Bool} {o len : Nat} (h : ∀ j, j < o → q j = false) : cn q (o + len) = cn (fun a => q (o + a)) len := by
  have h0 : ∀ n, n ≤ o → cn q n = 0 := by
    intro n
    induction n with
    | zero => intro _; rfl
    | succ n ih => intro hn; rw [cn, ih (by omega), if_neg (by rw [h n (by omega)]; decide)]; rfl
  induction len with
  | zero => exact h0 o (Nat.le_refl _)
  | succ n ih => rw [← Nat.add_assoc, cn, cn, ih]
theorem cn_end {q : Nat → Bool} {a : Nat} : ∀ {d : Nat}, (∀ j, a ≤ j → j < a + d → q j = false) → cn q (a + d) = cn q a
  | 0, _ => rfl
  | d + 1, h => by rw [← Nat.add_assoc, cn, cn_end (fun j h1 h2 => h j h1 (by omega)), if_neg (by rw [h (a + d) (by omega) (by omega)]; decide)]; omega
theorem kf_shift {q : Nat → Bool} {v : Nat → Int} {k d : Int} {o : Nat} (h : ∀ j, j < o → q j = false) : ∀ {len : Nat}, kf q v k d (o + len) = kf (fun a => q (o + a)) (fun a => v (o + a)) k d len
  | 0 => by
    show kf q v k d o = d
    exact kf_none fun j hj g => by rw [h j hj] at g; cases g
  | n + 1 => by rw [← Nat.add_assoc, kf, kf, kf_shift h, cn_shift h]
theorem kf_end {q : Nat → Bool} {v : Nat → Int} {k d : Int} {a : Nat} : ∀ {e : Nat}, (∀ j, a ≤ j → j < a + e → q j = false) → kf q v k d (a + e) = kf q v k d a
  | 0, _ => rfl
  | e + 1, h => by rw [← Nat.add_assoc, kf, kf_end (fun j h1 h2 => h j h1 (by omega)), if_neg (fun g => by rw [h (a + e) (by omega) (by omega)] at g; cases g.1)]
/-- all i at which a BIT may stand, by where its first CELL with text is -/
theorem st_shift {ce tx : Nat → Int} {len r0 c0 : Nat} {w : Int} (hw : 2 ≤ w ∧ w ≤ 60) (hr : r0 < 5) (hc : c0 < 10) (ht : isTx (ce (10 * r0 + c0))) :
    cn (stQ ce tx len w) (stM len w) = cn (fun a => decide (Sat ce tx len w ((a : Int) - (r0 * w + c0)))) len ∧ ∀ t, kf (stQ ce tx len w) (fun j => (j : Int) - 5 * w - 10) t (-1000) (stM len w) = kf (fun a => decide (Sat ce tx len w ((a : Int) - (r0 * w + c0)))) (fun a => (a : Int) - (r0 * w + c0)) t (-1000) len := by
  have hb := rw_bd hr hw
  have hb2 : (r0 : Int) * w ≤ 4 * w := Int.mul_le_mul_of_nonneg_right (by omega) (by omega)
  obtain ⟨o, ho⟩ : ∃ o : Nat, (o : Int) = 5 * w + 10 - (r0 * w + c0) := ⟨(5 * w + 10 - (r0 * w + c0)).toNat, by omega⟩
  have hM : stM len w = (o + len) + (stM len w - (o + len)) := by unfold stM; omega
  have key : ∀ j : Nat, stQ ce tx len w j = true → o ≤ j ∧ j < o + len := fun j hj => by
    have h1 := of_decide_eq_true hj r0 hr c0 hc ht
    omega
  have kN : ∀ j : Nat, ¬ (o ≤ j ∧ j < o + len) → stQ ce tx len w j = false := fun j hj => by
    cases e : stQ ce tx len w j with
    | false => rfl
    | true => exact absurd (key j e) hj
  have e1 : ∀ a : Nat, stQ ce tx len w (o + a) = decide (Sat ce tx len w ((a : Int) - (r0 * w + c0))) := fun a => by
    unfold stQ
    rw [show ((o + a : Nat) : Int) - 5 * w - 10 = (a : Int) - (r0 * w + c0) by omega]
  constructor
  · rw [hM, cn_end (fun j h1 h2 => kN j (by omega)), cn_shift (fun j hj => kN j (by omega))]
    exact cn_cong fun k _ => e1 k
  · intro t
    rw [hM, kf_end (fun j h1 h2 => kN j (by omega)), kf_shift (fun j hj => kN j (by omega))]
    exact kf_cong (fun k _ => e1 k) (fun k _ => by omega)
theorem x2_agrees {I : Nat → Nat → Int32} {J : Nat → Nat → Int64} {F : Option Value → zM → Prop} {at_ s : Int} (bat_ : -2147483648 ≤ at_ ∧ at_ < 2147483648) (bs : -2147483648 ≤ s ∧ s < 2147483648) {len : Nat} (hl : rd I 169 1 = len) (hl2 : len ≤ 200) (hy : (0 ≤ at_ ∧ at_ < len ∧ (s = 46 ∨ rd I 170 at_.toNat = s)) → F (some (.int (iI 1))) (gM I J)) (hn : ¬ (0 ≤ at_ ∧ at_ < len ∧ (s = 46 ∨ rd I 170 at_.toNat = s)) → F (some (.int (iI 0))) (gM I J)) : Cl yX2_agrees kX2_agrees [.ref 169, .int (iI at_), .int (iI s)] (gM I J) F := by
  refine cl_s (by decide) (by decide) (Nat.le_of_ble_eq_true rfl) rt_z ?_
  show Wp _ F 0 [(0, .ref 169), (1, .int (iI at_)), (2, .int (iI s))] [] _
  refine w_iload_n dX2_agrees_0 rfl ?_
  refine v_if_lt 32 dX2_agrees_1 (by decide) (by omega) (fun c1 => ?_) (fun c1 => ?_)
  · refine w_iconst (v := iI 0) dX2_agrees_32 rfl ?_
    refine v_zret dX2_agrees_33 rfl ⟨rfl, rfl⟩ (by decide) ?_
    first | exact hy (by omega) | exact hn (by omega)
  · refine w_iload_n dX2_agrees_4 rfl ?_
    refine w_aload_n dX2_agrees_5 rfl ?_
    refine v_getI dX2_agrees_6 fX2_30 ⟨by decide, rfl⟩ (Or.inl rfl) (fun z6 e6 b6 => ?_)
    refine v_icmp_ge 32 dX2_agrees_9 (by decide) (by omega) (by omega) (fun c9 => ?_) (fun c9 => ?_)
    · refine w_iconst (v := iI 0) dX2_agrees_32 rfl ?_
      refine v_zret dX2_agrees_33 rfl ⟨rfl, rfl⟩ (by decide) ?_
      first | exact hy (by omega) | exact hn (by omega)
    · refine w_iload_n dX2_agrees_12 rfl ?_
      refine w_bipush (v := iI 46) dX2_agrees_13 (by decide) ?_
      refine v_icmp_eq 28 dX2_agrees_15 (by decide) (by omega) (by omega) (fun c15 => ?_) (fun c15 => ?_)
      · refine w_iconst (v := iI 1) dX2_agrees_28 rfl ?_
        refine w_goto 33 dX2_agrees_29 (by decide) ?_
        refine v_zret dX2_agrees_33 rfl ⟨rfl, rfl⟩ (by decide) ?_
        first | exact hy (by omega) | exact hn (by omega)
      · refine w_aload_n dX2_agrees_18 rfl ?_
        refine v_getR (j := 170) dX2_agrees_19 fX2_9 ⟨by decide, rfl⟩ rfl rfl ?_
        refine w_iload_n dX2_agrees_22 rfl ?_
        refine v_iald dX2_agrees_23 ⟨by decide, rfl⟩ (by omega) (by omega) (by decide) (fun z23 e23 b23 => ?_)
        refine w_iload_n dX2_agrees_24 rfl ?_
        refine v_icmp_ne 32 dX2_agrees_25 (by decide) (by omega) (by omega) (fun c25 => ?_) (fun c25 => ?_)
        · refine w_iconst (v := iI 0) dX2_agrees_32 rfl ?_
          refine v_zret dX2_agrees_33 rfl ⟨rfl, rfl⟩ (by decide) ?_
          first | exact hy (by omega) | exact hn (by omega)
        · refine w_iconst (v := iI 1) dX2_agrees_28 rfl ?_
          refine w_goto 33 dX2_agrees_29 (by decide) ?_
          refine v_zret dX2_agrees_33 rfl ⟨rfl, rfl⟩ (by decide) ?_
          first | exact hy (by omega) | exact hn (by omega)
theorem x2_firstShift {I : Nat → Nat → Int32} {J : Nat → Nat → Int64} {F : Option Value → zM → Prop} {b : Nat} (hb : b < 10) {ce : Nat → Int} {n : Nat} (hC : RBc I b ce n) (hT : RBt I b ce n) {w : Int} (hw : 2 ≤ w ∧ w ≤ 60) (hy : ∀ r c : Nat, r < 5 → c < 10 → isTx (ce (10 * r + c)) → F (some (.int (iI ((r : Int) * w + c)))) (gM I J)) (hn : ¬ ink ce → F (some (.int (iI 0))) (gM I J)) : Cl yX2_firstShift kX2_firstShift [.ref 169, .ref (bI b 0), .int (iI w)] (gM I J) F := by
  refine cl_s (by decide) (by decide) (Nat.le_of_ble_eq_true rfl) rt_i ?_
  show Wp _ F 0 [(0, .ref 169), (1, .ref (bI b 0)), (2, .int (iI w))] [] _
  refine w_aload_n dX2_firstShift_0 rfl ?_
  refine v_getI dX2_firstShift_1 fX2_39 (sO_b hb (by decide) rfl) (Or.inl rfl) (fun z1 e1 b1 => ?_)
  have hn50 := hC.2.1
  have f1 : -1 ≤ z1 ∧ z1 < 50 := by
    by_cases gi : ink ce
    · obtain ⟨f, g1, g2, -⟩ := hT.2.1 gi
      rw [e1, g2]; omega
    · rw [e1, hT.1 gi]; omega
  refine w_istore_n dX2_firstShift_4 rfl rfl ?_
  refine w_iload_n dX2_firstShift_5 rfl ?_
  refine w_iconst (v := iI (-1)) dX2_firstShift_6 rfl ?_
  refine v_icmp_ne 14 dX2_firstShift_7 (by decide) (by omega) (by omega) (fun c7 => ?_) (fun c7 => ?_)
  · refine w_aload_n dX2_firstShift_14 rfl ?_
    refine v_getR (j := bI b 2) dX2_firstShift_15 fX2_44 (sO_b hb (by decide) rfl) rfl (r0_b hb (by decide)) ?_
    refine w_iload_n dX2_firstShift_18 rfl ?_
    refine v_iald dX2_firstShift_19 (sA_b hb (by decide) rfl) (by omega) (by omega) (by decide) (fun z19 e19 b19 => ?_)
    refine w_iload_n dX2_firstShift_20 rfl ?_
    refine v_imul dX2_firstShift_21 ?_
    refine w_aload_n dX2_firstShift_22 rfl ?_
    refine v_getR (j := bI b 3) dX2_firstShift_23 fX2_47 (sO_b hb (by decide) rfl) rfl (r0_b hb (by decide)) ?_
    refine w_iload_n dX2_firstShift_26 rfl ?_
    refine v_iald dX2_firstShift_27 (sA_b hb (by decide) rfl) (by omega) (by omega) (by decide) (fun z27 e27 b27 => ?_)
    refine v_iadd dX2_firstShift_28 ?_
    refine v_iret dX2_firstShift_29 rfl ⟨rfl, rfl⟩ ?_
    by_cases gi : ink ce
    · obtain ⟨f, g1, g2, g3, g4⟩ := hT.2.1 gi
      first
        | (exfalso; omega)
        | (obtain ⟨r, c, k1, k2, k3, k4, k5, k6⟩ := cp_rc hC g1
           have h1 : z19 = r := by rw [e19, show z1.toNat = f by omega]; exact k3
           have h2 : z27 = c := by rw [e27, show z1.toNat = f by omega]; exact k4
           rw [h1, h2]
           exact hy r c k1 k2 (by rw [← k5]; exact g3))
    · have g1 := hT.1 gi
      first | exact hn gi | (exfalso; omega)
  · refine w_iconst (v := iI 0) dX2_firstShift_10 rfl ?_
    refine w_goto 29 dX2_firstShift_11 (by decide) ?_
    refine v_iret dX2_firstShift_29 rfl ⟨rfl, rfl⟩ ?_
    by_cases gi : ink ce
    · obtain ⟨f, g1, g2, g3, g4⟩ := hT.2.1 gi
      first
        | (exfalso; omega)
        | (obtain ⟨r, c, k1, k2, k3, k4, k5, k6⟩ := cp_rc hC g1
           have h1 : z19 = r := by rw [e19, show z1.toNat = f by omega]; exact k3
           have h2 : z27 = c := by rw [e27, show z1.toNat = f by omega]; exact k4
           rw [h1, h2]
           exact hy r c k1 k2 (by rw [← k5]; exact g3))
    · have g1 := hT.1 gi
      first | exact hn gi | (exfalso; omega)
theorem x2_standsAt_l {I : Nat → Nat → Int32} {J : Nat → Nat → Int64} {F : Option Value → zM → Prop} {b : Nat} (hb : b < 10) {ce : Nat → Int} {n : Nat} (hS : ∀ k, k < 50 → rd I (bI b 1) k = ce k) (hC : RBc I b ce n) (hT : RBt I b ce n) {len : Nat} (hl : rd I 169 1 = len) (hl2 : len ≤ 200) {w i : Int} (hw : 2 ≤ w ∧ w ≤ 60) (hi : -400 ≤ i ∧ i ≤ 400) (hy : (ink ce ∧ Sat ce (fun k => rd I 170 k) len w i) → F (some (.int (iI 1))) (gM I J)) (hn : ¬ (ink ce ∧ Sat ce (fun k => rd I 170 k) len w i) → F (some (.int (iI 0))) (gM I J)) (gi : ink ce) (hlt : i % w + rd I (bI b 0) 8 < w) : ∀ (nz : Nat) (k : Nat), n - k < nz → k ≤ n → (∀ j, j < k → (isTx (ce (cp I b j)) → 0 ≤ i + rd I (bI b 2) j * w + rd I (bI b 3) j ∧ i + rd I (bI b 2) j * w + rd I (bI b 3) j < len ∧ (ce (cp I b j) = 46 ∨ ce (cp I b j) = rd I 170 (i + rd I (bI b 2) j * w + rd I (bI b 3) j).toNat))) → Wp (sE kX2_standsAt RX2) F 30 [(0, .ref 169), (1, .ref (bI b 0)), (2, .int (iI w)), (3, .int (iI i)), (4, .int (iI (k : Int)))] [] (gM I J) := by
  intro nz
  induction nz with
  | zero =>
    intro k hmz hk ha
    exact absurd hmz (Nat.not_lt_zero _)
  | succ nz ih =>
    intro k hmz hk ha
    refine w_iload dX2_standsAt_30 rfl ?_
    refine w_aload_n dX2_standsAt_32 rfl ?_
    refine v_getI dX2_standsAt_33 fX2_59 (sO_b hb (by decide) rfl) (Or.inl rfl) (fun z33 e33 b33 => ?_)
    have f33 : z33 = n := by rw [e33]; exact hC.1
    have hn50 := hC.2.1
    refine v_icmp_ge 112 dX2_standsAt_36 (by decide) (by omega) (by omega) (fun c36 => ?_) (fun c36 => ?_)
    · refine w_iconst (v := iI 1) dX2_standsAt_112 rfl ?_
      refine v_zret dX2_standsAt_113 rfl ⟨rfl, rfl⟩ (by decide) ?_
      refine hy ⟨gi, fun r hr c hc => ?_⟩
      intro g
      have gn : ce (10 * r + c) ≠ 95 := by omega
      obtain ⟨j, h1, h2⟩ := hC.2.2.2.2 (10 * r + c) (by omega) gn
      have h3 := ha j (by omega)
      obtain ⟨r', c', k1, k2, k3, k4, k5, k6⟩ := cp_rc hC h1
      have e1 : r' = r := by omega
      have e2 : c' = c := by omega
      subst e1 e2
      rw [h2, k3, k4] at h3
      have h4 := h3 g
      refine ⟨h4.1, h4.2.1, (line_iff (by omega)).mpr ?_, h4.2.2⟩
      have h5 := hT.2.2.1 j h1 (by rw [h2]; exact g)
      rw [k4] at h5
      omega
    · refine w_aload_n dX2_standsAt_39 rfl ?_
      refine v_getR (j := bI b 1) dX2_standsAt_40 fX2_62 (sO_b hb (by decide) rfl) rfl (r0_b hb (by decide)) ?_
      refine w_aload_n dX2_standsAt_43 rfl ?_
      refine v_getR (j := bI b 2) dX2_standsAt_44 fX2_44 (sO_b hb (by decide) rfl) rfl (r0_b hb (by decide)) ?_
      refine w_iload dX2_standsAt_47 rfl ?_
      refine v_iald dX2_standsAt_49 (sA_b hb (by decide) rfl) (by omega) (by omega) (by decide) (fun z49 e49 b49 => ?_)
      obtain ⟨r, c, k1, k2, k3, k4, k5, k6⟩ := cp_rc hC (show k < n by omega)
      have hrw := rw_bd k1 hw
      have f49 : z49 = r := by rw [e49]; exact k3
      refine w_bipush (v := iI 10) dX2_standsAt_50 (by decide) ?_
      refine v_imul dX2_standsAt_52 ?_
      refine w_aload_n dX2_standsAt_53 rfl ?_
      refine v_getR (j := bI b 3) dX2_standsAt_54 fX2_47 (sO_b hb (by decide) rfl) rfl (r0_b hb (by decide)) ?_
      refine w_iload dX2_standsAt_57 rfl ?_
      refine v_iald dX2_standsAt_59 (sA_b hb (by decide) rfl) (by omega) (by omega) (by decide) (fun z59 e59 b59 => ?_)
      have f59 : z59 = c := by rw [e59]; exact k4
      refine v_iadd dX2_standsAt_60 ?_
      refine v_iald dX2_standsAt_61 (sA_b hb (by decide) rfl) (by omega) (by omega) (by decide) (fun z61 e61 b61 => ?_)
      have f61 : z61 = ce (cp I b k) := by rw [e61, show (z49 * 10 + z59).toNat = cp I b k by omega]; exact hS _ k6
      refine w_istore dX2_standsAt_62 rfl rfl ?_
      refine w_iload_n dX2_standsAt_64 rfl ?_
      refine w_aload_n dX2_standsAt_65 rfl ?_
      refine v_getR (j := bI b 2) dX2_standsAt_66 fX2_44 (sO_b hb (by decide) rfl) rfl (r0_b hb (by decide)) ?_
      refine w_iload dX2_standsAt_69 rfl ?_
      refine v_iald dX2_standsAt_71 (sA_b hb (by decide) rfl) (by omega) (by omega) (by decide) (fun z71 e71 b71 => ?_)
      have f71 : z71 = r := by rw [e71]; exact k3
      rw [f71]
      refine w_iload_n dX2_standsAt_72 rfl ?_
      refine v_imul dX2_standsAt_73 ?_
      refine v_iadd dX2_standsAt_74 ?_
      refine w_aload_n dX2_standsAt_75 rfl ?_
      refine v_getR (j := bI b 3) dX2_standsAt_76 fX2_47 (sO_b hb (by decide) rfl) rfl (r0_b hb (by decide)) ?_
      refine w_iload dX2_standsAt_79 rfl ?_
      refine v_iald dX2_standsAt_81 (sA_b hb (by decide) rfl) (by omega) (by omega) (by decide) (fun z81 e81 b81 => ?_)
      have f81 : z81 = c := by rw [e81]; exact k4
      refine v_iadd dX2_standsAt_82 ?_
      refine w_istore dX2_standsAt_83 rfl rfl ?_
      refine w_iload dX2_standsAt_85 rfl ?_
      refine v_callSN1 dX2_standsAt_87 lX2_65 vX11_isText (by decide) rfl rfl (Nat.le_of_ble_eq_true rfl) ?_
      refine x11_isText (by omega) (fun q87 => ?_) (fun q87 => ?_)
      · refine v_if_eq 106 dX2_standsAt_90 (by decide) (by decide) (fun q => absurd q (by decide)) (fun _ => ?_)
        refine w_aload_n dX2_standsAt_93 rfl ?_
        refine w_iload dX2_standsAt_94 rfl ?_
        refine w_iload dX2_standsAt_96 rfl ?_
        refine v_callV2 dX2_standsAt_98 lX2_69 vX2_agrees (by decide) rfl rfl ⟨by decide, rfl⟩ (by decide) rfl (Nat.le_of_ble_eq_true rfl) ?_
        refine x2_agrees (by omega) (by omega) hl hl2 (fun q98 => ?_) (fun q98 => ?_)
        · refine v_if_ne 106 dX2_standsAt_101 (by decide) (by decide) (fun _ => ?_) (fun q => absurd q (by decide))
          refine v_iinc dX2_standsAt_106 rfl rfl rfl ?_
          refine w_goto 30 dX2_standsAt_109 (by decide) ?_
          refine w_keep 5 ?_
          refine ih (k + 1) (by omega) (by omega) (fun j hj => ?_)
          rcases Nat.lt_succ_iff_lt_or_eq.mp hj with g | g
          · exact ha j g
          · subst g
            intro g
            rw [← f61] at g ⊢
            rw [k3, k4]
            rw [f81] at *
            first | (exfalso; omega) | exact ⟨by omega, by omega, by omega⟩
        · refine v_if_ne 106 dX2_standsAt_101 (by decide) (by decide) (fun q => absurd q (by decide)) (fun _ => ?_)
          refine w_iconst (v := iI 0) dX2_standsAt_104 rfl ?_
          refine v_zret dX2_standsAt_105 rfl ⟨rfl, rfl⟩ (by decide) ?_
          refine hn (fun g => q98 ?_)
          have g1 := g.2 r k1 c k2
          dsimp only [SatC] at g1
          rw [← k5, ← f61] at g1
          have g2 := g1 q87
          rw [f81]
          omega
      · refine v_if_eq 106 dX2_standsAt_90 (by decide) (by decide) (fun _ => ?_) (fun q => absurd q (by decide))
        refine v_iinc dX2_standsAt_106 rfl rfl rfl ?_
        refine w_goto 30 dX2_standsAt_109 (by decide) ?_
        refine w_keep 5 ?_
        refine ih (k + 1) (by omega) (by omega) (fun j hj => ?_)
        rcases Nat.lt_succ_iff_lt_or_eq.mp hj with g | g
        · exact ha j g
        · subst g
          intro g
          rw [← f61] at g ⊢
          rw [k3, k4]
          rw [f81] at *
          first | (exfalso; omega) | exact ⟨by omega, by omega, by omega⟩
theorem x2_standsAt {I : Nat → Nat → Int32} {J : Nat → Nat → Int64} {F : Option Value → zM → Prop} {b : Nat} (hb : b < 10) {ce : Nat → Int} {n : Nat} (hS : ∀ k, k < 50 → rd I (bI b 1) k = ce k) (hC : RBc I b ce n) (hT : RBt I b ce n) {len : Nat} (hl : rd I 169 1 = len) (hl2 : len ≤ 200) {w i : Int} (hw : 2 ≤ w ∧ w ≤ 60) (hi : -400 ≤ i ∧ i ≤ 400) (hy : (ink ce ∧ Sat ce (fun k => rd I 170 k) len w i) → F (some (.int (iI 1))) (gM I J)) (hn : ¬ (ink ce ∧ Sat ce (fun k => rd I 170 k) len w i) → F (some (.int (iI 0))) (gM I J)) : Cl yX2_standsAt kX2_standsAt [.ref 169, .ref (bI b 0), .int (iI w), .int (iI i)] (gM I J) F := by
  refine cl_s (by decide) (by decide) (Nat.le_of_ble_eq_true rfl) rt_z ?_
  show Wp _ F 0 [(0, .ref 169), (1, .ref (bI b 0)), (2, .int (iI w)), (3, .int (iI i))] [] _
  refine w_aload_n dX2_standsAt_0 rfl ?_
  refine v_getI dX2_standsAt_1 fX2_39 (sO_b hb (by decide) rfl) (Or.inl rfl) (fun z1 e1 b1 => ?_)
  have em1 := Int.emod_nonneg i (show w ≠ 0 by omega)
  have em2 := Int.emod_lt_of_pos i (show 0 < w by omega)
  have hn50 := hC.2.1
  have f1 : -1 ≤ z1 ∧ z1 < 50 := by
    by_cases gi : ink ce
    · obtain ⟨f, g1, g2, -⟩ := hT.2.1 gi
      rw [e1, g2]; omega
    · rw [e1, hT.1 gi]; omega
  refine w_iconst (v := iI (-1)) dX2_standsAt_4 rfl ?_
  refine v_icmp_eq 22 dX2_standsAt_5 (by decide) (by omega) (by omega) (fun c5 => ?_) (fun c5 => ?_)
  · refine w_iconst (v := iI 0) dX2_standsAt_22 rfl ?_
    refine v_zret dX2_standsAt_23 rfl ⟨rfl, rfl⟩ (by decide) ?_
    refine hn (fun g => ?_)
    obtain ⟨f, g1, g2, g3, g4⟩ := hT.2.1 g.1
    first
      | omega
      | (obtain ⟨j, h1, h2, h3⟩ := hT.2.2.2.1 g.1
         obtain ⟨r, c, k1, k2, k3, k4, k5, k6⟩ := cp_rc hC h1
         rw [k5] at h2
         have h4 := (line_iff (show 0 < w by omega)).mp (g.2 r k1 c k2 h2).2.2.1
         omega)
  · refine w_iload_n dX2_standsAt_8 rfl ?_
    refine w_iload_n dX2_standsAt_9 rfl ?_
    refine v_callS2 dX2_standsAt_10 lX2_50 vJ9_floorMod_7cf53 (by decide) rfl rfl (Nat.le_of_ble_eq_true rfl) ?_
    refine j9_floorMod (by omega) (by omega) ?_
    refine w_aload_n dX2_standsAt_13 rfl ?_
    refine v_getI dX2_standsAt_14 fX2_56 (sO_b hb (by decide) rfl) (Or.inl rfl) (fun z14 e14 b14 => ?_)
    have f14 := hT.2.2.2.2
    rw [← e14] at f14
    refine v_iadd dX2_standsAt_17 ?_
    refine w_iload_n dX2_standsAt_18 rfl ?_
    refine v_icmp_lt 24 dX2_standsAt_19 (by decide) (by omega) (by omega) (fun c19 => ?_) (fun c19 => ?_)
    · refine w_aload_n dX2_standsAt_24 rfl ?_
      refine v_getI dX2_standsAt_25 fX2_39 (sO_b hb (by decide) rfl) (Or.inl rfl) (fun z25 e25 b25 => ?_)
      refine w_istore dX2_standsAt_28 rfl rfl ?_
      by_cases gi : ink ce
      · obtain ⟨f, g1, g2, g3, g4⟩ := hT.2.1 gi
        have f25 : z25 = (f : Int) := e25.trans g2
        rw [f25]
        exact x2_standsAt_l hb hS hC hT hl hl2 hw hi hy hn gi (by omega) (n + 1) f (by omega) (by omega) (fun j hj g => absurd g (g4 j hj))
      · have := hT.1 gi
        exfalso
        omega
    · refine w_iconst (v := iI 0) dX2_standsAt_22 rfl ?_
      refine v_zret dX2_standsAt_23 rfl ⟨rfl, rfl⟩ (by decide) ?_
      refine hn (fun g => ?_)
      obtain ⟨f, g1, g2, g3, g4⟩ := hT.2.1 g.1
      first
        | omega
        | (obtain ⟨j, h1, h2, h3⟩ := hT.2.2.2.1 g.1
           obtain ⟨r, c, k1, k2, k3, k4, k5, k6⟩ := cp_rc hC h1
           rw [k5] at h2
           have h4 := (line_iff (show 0 < w by omega)).mp (g.2 r k1 c k2 h2).2.2.1
           omega)
