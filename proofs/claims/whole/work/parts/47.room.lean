/-! room, sides, FIBRES' worth: THE SHEET of the class -/
theorem x8_ownerAt {I : Nat → Nat → Int32} {J : Nat → Nat → Int64} {F : Option Value → zM → Prop} {r c : Int} (br : -2147483648 ≤ r ∧ r < 2147483648) (bc : -2147483648 ≤ c ∧ c < 2147483648) (h : ∀ z : Int, z = owAt I r c → -2147483648 ≤ z ∧ z < 2147483648 → F (some (.int (iI z))) (gM I J)) : Cl yX8_ownerAt kX8_ownerAt [.ref 142, .int (iI r), .int (iI c)] (gM I J) F := by
  refine cl_s (by decide) (by decide) (Nat.le_of_ble_eq_true rfl) rt_i ?_
  show Wp _ F 0 [(0, .ref 142), (1, .int (iI r)), (2, .int (iI c))] [] _
  refine w_iload_n dX8_ownerAt_0 rfl ?_
  refine w_iload_n dX8_ownerAt_1 rfl ?_
  refine v_callS2 dX8_ownerAt_2 lX8_30 vX8_isInside (by decide) rfl rfl (Nat.le_of_ble_eq_true rfl) ?_
  refine x8_isInside (by omega) (by omega) (fun q2 => ?_) (fun q2 => ?_)
  · refine v_if_eq 22 dX8_ownerAt_5 (by decide) (by decide) (fun q => absurd q (by decide)) (fun _ => ?_)
    refine w_aload_n dX8_ownerAt_8 rfl ?_
    refine v_getR (j := 144) dX8_ownerAt_9 fX8_15 ⟨by decide, rfl⟩ rfl rfl ?_
    refine w_iload_n dX8_ownerAt_12 rfl ?_
    refine w_bipush (v := iI 32) dX8_ownerAt_13 (by decide) ?_
    refine v_imul dX8_ownerAt_15 ?_
    refine w_iload_n dX8_ownerAt_16 rfl ?_
    refine v_iadd dX8_ownerAt_17 ?_
    refine v_iald dX8_ownerAt_18 ⟨by decide, rfl⟩ (by have i2 : 0 ≤ r ∧ r < 16 ∧ 0 ≤ c ∧ c < 32 := q2; omega) (by have i2 : 0 ≤ r ∧ r < 16 ∧ 0 ≤ c ∧ c < 32 := q2; omega) (by decide) (fun z18 e18 b18 => ?_)
    refine w_goto 23 dX8_ownerAt_19 (by decide) ?_
    refine v_iret dX8_ownerAt_23 rfl ⟨rfl, rfl⟩ ?_
    first
      | exact h _ (by rw [owAt, if_pos q2]; exact e18) b18
      | exact h (-1) (by rw [owAt, if_neg q2]) (by decide)
  · refine v_if_eq 22 dX8_ownerAt_5 (by decide) (by decide) (fun _ => ?_) (fun q => absurd q (by decide))
    refine w_iconst (v := iI (-1)) dX8_ownerAt_22 rfl ?_
    refine v_iret dX8_ownerAt_23 rfl ⟨rfl, rfl⟩ ?_
    first
      | exact h _ (by rw [owAt, if_pos q2]; exact e18) b18
      | exact h (-1) (by rw [owAt, if_neg q2]) (by decide)
def tk (I : Nat → Nat → Int32) (r c : Int) : Int := if owAt I r c = -1 then 0 else 1
theorem tk_bd (I : Nat → Nat → Int32) (r c : Int) : 0 ≤ tk I r c ∧ tk I r c ≤ 1 := by unfold tk; split <;> omega
def sd4 (I : Nat → Nat → Int32) (r c : Int) : Int := tk I (r - 1) c + tk I (r + 1) c + tk I r (c - 1) + tk I r (c + 1)
theorem sd4_bd (I : Nat → Nat → Int32) (r c : Int) : 0 ≤ sd4 I r c ∧ sd4 I r c ≤ 4 := by
  have h1 := tk_bd I (r - 1) c
  have h2 := tk_bd I (r + 1) c
  have h3 := tk_bd I r (c - 1)
  have h4 := tk_bd I r (c + 1)
  unfold sd4; omega
theorem x8_taken {I : Nat → Nat → Int32} {J : Nat → Nat → Int64} {F : Option Value → zM → Prop} {r c : Int} (br : -2147483648 ≤ r ∧ r < 2147483648) (bc : -2147483648 ≤ c ∧ c < 2147483648) (h : F (some (.int (iI (tk I r c)))) (gM I J)) : Cl yX8_taken kX8_taken [.ref 142, .int (iI r), .int (iI c)] (gM I J) F := by
  refine cl_s (by decide) (by decide) (Nat.le_of_ble_eq_true rfl) rt_i ?_
  show Wp _ F 0 [(0, .ref 142), (1, .int (iI r)), (2, .int (iI c))] [] _
  refine w_aload_n dX8_taken_0 rfl ?_
  refine w_iload_n dX8_taken_1 rfl ?_
  refine w_iload_n dX8_taken_2 rfl ?_
  refine v_callV2 dX8_taken_3 lX8_59 vX8_ownerAt (by decide) rfl rfl ⟨by decide, rfl⟩ (by decide) rfl (Nat.le_of_ble_eq_true rfl) ?_
  refine x8_ownerAt (by omega) (by omega) (fun z3 e3 b3 => ?_)
  refine w_iconst (v := iI (-1)) dX8_taken_6 rfl ?_
  refine v_icmp_ne 14 dX8_taken_7 (by decide) (by omega) (by omega) (fun c7 => ?_) (fun c7 => ?_)
  · refine w_iconst (v := iI 1) dX8_taken_14 rfl ?_
    refine v_iret dX8_taken_15 rfl ⟨rfl, rfl⟩ ?_
    unfold tk at h
    first
      | (rw [if_pos (by omega)] at h; exact h)
      | (rw [if_neg (by omega)] at h; exact h)
  · refine w_iconst (v := iI 0) dX8_taken_10 rfl ?_
    refine w_goto 15 dX8_taken_11 (by decide) ?_
    refine v_iret dX8_taken_15 rfl ⟨rfl, rfl⟩ ?_
    unfold tk at h
    first
      | (rw [if_pos (by omega)] at h; exact h)
      | (rw [if_neg (by omega)] at h; exact h)
theorem x8_hasRoom_l {I : Nat → Nat → Int32} {J : Nat → Nat → Int64} {F : Option Value → zM → Prop} {b : Nat} (hb : b < 10) {ce : Nat → Int} {n : Nat} (hB : RBc I b ce n) {R C : Int} (bR : -2147483648 ≤ R ∧ R < 2147483648) (bC : -2147483648 ≤ C ∧ C < 2147483648) (ht : ((-5 < R ∧ R < 16 ∧ -10 < C ∧ C < 32) ∧ ∀ y x : Int, cA ce R C y x ≠ 95 → inS y x ∧ owAt I y x = -1) → F (some (.int (iI 1))) (gM I J)) (hf : ¬ ((-5 < R ∧ R < 16 ∧ -10 < C ∧ C < 32) ∧ ∀ y x : Int, cA ce R C y x ≠ 95 → inS y x ∧ owAt I y x = -1) → F (some (.int (iI 0))) (gM I J)) (hrg : -5 < R ∧ R < 16 ∧ -10 < C ∧ C < 32) : ∀ (nz : Nat) (j : Nat), n - j < nz → j ≤ n → (∀ y x : Int, cA ce R C y x ≠ 95 → 10 * (y - R) + (x - C) < lim I b n j → inS y x ∧ owAt I y x = -1) → Wp (sE kX8_hasRoom RX8) F 29 [(0, .ref 142), (1, .ref (bI b 0)), (2, .int (iI R)), (3, .int (iI C)), (4, .int (iI (j : Int)))] [] (gM I J) := by
  intro nz
  induction nz with
  | zero =>
    intro j hmz hj hc
    exact absurd hmz (Nat.not_lt_zero _)
  | succ nz ih =>
    intro j hmz hj hc
    refine w_iload dX8_hasRoom_29 rfl ?_
    refine w_aload_n dX8_hasRoom_31 rfl ?_
    refine v_getI dX8_hasRoom_32 fX8_34 (sO_b hb (by decide) rfl) (Or.inl rfl) (fun z32 e32 b32 => ?_)
    have f32 : z32 = n := by rw [e32]; exact hB.1
    have n50 := hB.2.1
    refine v_icmp_ge 95 dX8_hasRoom_35 (by decide) (by omega) (by omega) (fun c35 => ?_) (fun c35 => ?_)
    · refine w_iconst (v := iI 1) dX8_hasRoom_95 rfl ?_
      refine v_zret dX8_hasRoom_96 rfl ⟨rfl, rfl⟩ (by decide) ?_
      refine ht ⟨hrg, fun y x g1 => hc y x g1 ?_⟩
      have g3 := cA_ne g1
      rw [show j = n by omega, lim_n]; omega
    · refine w_iload_n dX8_hasRoom_38 rfl ?_
      refine w_aload_n dX8_hasRoom_39 rfl ?_
      refine v_getR (j := bI b 2) dX8_hasRoom_40 fX8_40 (sO_b hb (by decide) rfl) rfl (r0_b hb (by decide)) ?_
      refine w_iload dX8_hasRoom_43 rfl ?_
      refine v_iald dX8_hasRoom_45 (sA_b hb (by decide) rfl) (by omega) (by omega) (by decide) (fun z45 e45 b45 => ?_)
      have f45 : z45 = rd I (bI b 2) j := by rw [e45]; rfl
      have cl := hB.2.2.1 j (by omega)
      refine v_iadd dX8_hasRoom_46 ?_
      refine w_istore dX8_hasRoom_47 rfl rfl ?_
      refine w_iload_n dX8_hasRoom_49 rfl ?_
      refine w_aload_n dX8_hasRoom_50 rfl ?_
      refine v_getR (j := bI b 3) dX8_hasRoom_51 fX8_43 (sO_b hb (by decide) rfl) rfl (r0_b hb (by decide)) ?_
      refine w_iload dX8_hasRoom_54 rfl ?_
      refine v_iald dX8_hasRoom_56 (sA_b hb (by decide) rfl) (by omega) (by omega) (by decide) (fun z56 e56 b56 => ?_)
      have f56 : z56 = rd I (bI b 3) j := by rw [e56]; rfl
      refine v_iadd dX8_hasRoom_57 ?_
      refine w_istore dX8_hasRoom_58 rfl rfl ?_
      refine w_iload dX8_hasRoom_60 rfl ?_
      refine w_iload dX8_hasRoom_62 rfl ?_
      refine v_callS2 dX8_hasRoom_64 lX8_30 vX8_isInside (by decide) rfl rfl (Nat.le_of_ble_eq_true rfl) ?_
      refine x8_isInside (by omega) (by omega) (fun q64 => ?_) (fun q64 => ?_)
      · refine v_if_eq 87 dX8_hasRoom_67 (by decide) (by decide) (fun q => absurd q (by decide)) (fun _ => ?_)
        refine w_aload_n dX8_hasRoom_70 rfl ?_
        refine v_getR (j := 144) dX8_hasRoom_71 fX8_15 ⟨by decide, rfl⟩ rfl rfl ?_
        refine w_iload dX8_hasRoom_74 rfl ?_
        refine w_bipush (v := iI 32) dX8_hasRoom_76 (by decide) ?_
        refine v_imul dX8_hasRoom_78 ?_
        refine w_iload dX8_hasRoom_79 rfl ?_
        refine v_iadd dX8_hasRoom_81 ?_
        refine v_iald dX8_hasRoom_82 ⟨by decide, rfl⟩ (by have i2 : 0 ≤ R + z45 ∧ R + z45 < 16 ∧ 0 ≤ C + z56 ∧ C + z56 < 32 := q64; omega) (by have i2 : 0 ≤ R + z45 ∧ R + z45 < 16 ∧ 0 ≤ C + z56 ∧ C + z56 < 32 := q64; omega) (by decide) (fun z82 e82 b82 => ?_)
        refine w_iconst (v := iI (-1)) dX8_hasRoom_83 rfl ?_
        refine v_icmp_eq 89 dX8_hasRoom_84 (by decide) (by omega) (by omega) (fun c84 => ?_) (fun c84 => ?_)
        · refine v_iinc dX8_hasRoom_89 rfl rfl rfl ?_
          refine w_goto 29 dX8_hasRoom_92 (by decide) ?_
          refine w_keep 5 ?_
          rw [show (j : Int) + 1 = ((j + 1 : Nat) : Int) by omega]
          refine ih (j + 1) (by omega) (by omega) (fun y x g1 g2 => ?_)
          have g3 := cA_ne g1
          have s := lim_s hB (show j < n by omega) (u := (10 * (y - R) + (x - C)).toNat) (by omega) g3.2.2.2.2
          rw [show ((10 * (y - R) + (x - C)).toNat : Int) = 10 * (y - R) + (x - C) by omega] at s
          rcases s.mp g2 with g4 | g4
          · exact hc y x g1 g4
          · obtain ⟨pr, pc, p1, p2, p3, p4, p5, p6⟩ := cp_rc hB (show j < n by omega)
            have ey : y = R + z45 := by omega
            have exx : x = C + z56 := by omega
            rw [ey, exx]
            refine ⟨q64, ?_⟩
            rw [owAt, if_pos q64, ← e82]; omega
        · refine w_iconst (v := iI 0) dX8_hasRoom_87 rfl ?_
          refine v_zret dX8_hasRoom_88 rfl ⟨rfl, rfl⟩ (by decide) ?_
          refine hf (fun g => ?_)
          obtain ⟨pr, pc, p1, p2, p3, p4, p5, p6⟩ := cp_rc hB (show j < n by omega)
          have g1 := g.2 (R + z45) (C + z56) (by
            have := cA_at (ce := ce) (R := R) (C := C) p6
            rw [show ((cp I b j / 10 : Nat) : Int) = z45 by omega, show ((cp I b j % 10 : Nat) : Int) = z56 by omega] at this
            rw [this]; exact cl.2.2.2.2)
          first
            | exact q64 g1.1
            | (have g2 := g1.2
               rw [owAt, if_pos q64, ← e82] at g2
               omega)
      · refine v_if_eq 87 dX8_hasRoom_67 (by decide) (by decide) (fun _ => ?_) (fun q => absurd q (by decide))
        refine w_iconst (v := iI 0) dX8_hasRoom_87 rfl ?_
        refine v_zret dX8_hasRoom_88 rfl ⟨rfl, rfl⟩ (by decide) ?_
        refine hf (fun g => ?_)
        obtain ⟨pr, pc, p1, p2, p3, p4, p5, p6⟩ := cp_rc hB (show j < n by omega)
        have g1 := g.2 (R + z45) (C + z56) (by
          have := cA_at (ce := ce) (R := R) (C := C) p6
          rw [show ((cp I b j / 10 : Nat) : Int) = z45 by omega, show ((cp I b j % 10 : Nat) : Int) = z56 by omega] at this
          rw [this]; exact cl.2.2.2.2)
        first
          | exact q64 g1.1
          | (have g2 := g1.2
             rw [owAt, if_pos q64, ← e82] at g2
             omega)
theorem x8_hasRoom {I : Nat → Nat → Int32} {J : Nat → Nat → Int64} {F : Option Value → zM → Prop} {b : Nat} (hb : b < 10) {ce : Nat → Int} {n : Nat} (hB : RBc I b ce n) {R C : Int} (bR : -2147483648 ≤ R ∧ R < 2147483648) (bC : -2147483648 ≤ C ∧ C < 2147483648) (ht : ((-5 < R ∧ R < 16 ∧ -10 < C ∧ C < 32) ∧ ∀ y x : Int, cA ce R C y x ≠ 95 → inS y x ∧ owAt I y x = -1) → F (some (.int (iI 1))) (gM I J)) (hf : ¬ ((-5 < R ∧ R < 16 ∧ -10 < C ∧ C < 32) ∧ ∀ y x : Int, cA ce R C y x ≠ 95 → inS y x ∧ owAt I y x = -1) → F (some (.int (iI 0))) (gM I J)) : Cl yX8_hasRoom kX8_hasRoom [.ref 142, .ref (bI b 0), .int (iI R), .int (iI C)] (gM I J) F := by
  refine cl_s (by decide) (by decide) (Nat.le_of_ble_eq_true rfl) rt_z ?_
  show Wp _ F 0 [(0, .ref 142), (1, .ref (bI b 0)), (2, .int (iI R)), (3, .int (iI C))] [] _
  refine w_iload_n dX8_hasRoom_0 rfl ?_
  refine w_bipush (v := iI (-5)) dX8_hasRoom_1 (by decide) ?_
  refine v_icmp_le 24 dX8_hasRoom_3 (by decide) (by omega) (by omega) (fun c3 => ?_) (fun c3 => ?_)
  · refine w_iconst (v := iI 0) dX8_hasRoom_24 rfl ?_
    refine v_zret dX8_hasRoom_25 rfl ⟨rfl, rfl⟩ (by decide) ?_
    exact hf (fun g => by have := g.1; omega)
  · refine w_iload_n dX8_hasRoom_6 rfl ?_
    refine w_bipush (v := iI 16) dX8_hasRoom_7 (by decide) ?_
    refine v_icmp_ge 24 dX8_hasRoom_9 (by decide) (by omega) (by omega) (fun c9 => ?_) (fun c9 => ?_)
    · refine w_iconst (v := iI 0) dX8_hasRoom_24 rfl ?_
      refine v_zret dX8_hasRoom_25 rfl ⟨rfl, rfl⟩ (by decide) ?_
      exact hf (fun g => by have := g.1; omega)
    · refine w_iload_n dX8_hasRoom_12 rfl ?_
      refine w_bipush (v := iI (-10)) dX8_hasRoom_13 (by decide) ?_
      refine v_icmp_le 24 dX8_hasRoom_15 (by decide) (by omega) (by omega) (fun c15 => ?_) (fun c15 => ?_)
      · refine w_iconst (v := iI 0) dX8_hasRoom_24 rfl ?_
        refine v_zret dX8_hasRoom_25 rfl ⟨rfl, rfl⟩ (by decide) ?_
        exact hf (fun g => by have := g.1; omega)
      · refine w_iload_n dX8_hasRoom_18 rfl ?_
        refine w_bipush (v := iI 32) dX8_hasRoom_19 (by decide) ?_
        refine v_icmp_lt 26 dX8_hasRoom_21 (by decide) (by omega) (by omega) (fun c21 => ?_) (fun c21 => ?_)
        · refine w_iconst (v := iI 0) dX8_hasRoom_26 rfl ?_
          refine w_istore dX8_hasRoom_27 rfl rfl ?_
          exact x8_hasRoom_l hb hB bR bC ht hf (by omega) (n + 1) 0 (by omega) (by omega) (fun y x g1 g2 => by
            have g3 := cA_ne g1
            exact absurd (by omega) (lim_0 hB (u := (10 * (y - R) + (x - C)).toNat) (by omega) g3.2.2.2.2))
        · refine w_iconst (v := iI 0) dX8_hasRoom_24 rfl ?_
          refine v_zret dX8_hasRoom_25 rfl ⟨rfl, rfl⟩ (by decide) ?_
          exact hf (fun g => by have := g.1; omega)
theorem x8_sidesOf_l {I : Nat → Nat → Int32} {J : Nat → Nat → Int64} {F : Option Value → zM → Prop} {b : Nat} (hb : b < 10) {ce : Nat → Int} {n : Nat} (hB : RBc I b ce n) {R C : Int} (hR : -1000 ≤ R ∧ R ≤ 1000) (hC : -1000 ≤ C ∧ C ≤ 1000) (h : F (some (.int (iI (smN (fun j => sd4 I (R + rd I (bI b 2) j) (C + rd I (bI b 3) j)) n)))) (gM I J)) : ∀ (nz : Nat) (j : Nat) (u : Int), n - j < nz → j ≤ n → u = smN (fun j => sd4 I (R + rd I (bI b 2) j) (C + rd I (bI b 3) j)) j → Wp (sE kX8_sidesOf RX8) F 6 [(0, .ref 142), (1, .ref (bI b 0)), (2, .int (iI R)), (3, .int (iI C)), (4, .int (iI u)), (5, .int (iI (j : Int)))] [] (gM I J) := by
  intro nz
  induction nz with
  | zero =>
    intro j u hmz hj hu
    exact absurd hmz (Nat.not_lt_zero _)
  | succ nz ih =>
    intro j u hmz hj hu
    refine w_iload dX8_sidesOf_6 rfl ?_
    refine w_aload_n dX8_sidesOf_8 rfl ?_
    refine v_getI dX8_sidesOf_9 fX8_34 (sO_b hb (by decide) rfl) (Or.inl rfl) (fun z9 e9 b9 => ?_)
    have f9 : z9 = n := by rw [e9]; exact hB.1
    have n50 := hB.2.1
    refine v_icmp_ge 91 dX8_sidesOf_12 (by decide) (by omega) (by omega) (fun c12 => ?_) (fun c12 => ?_)
    · refine w_iload dX8_sidesOf_91 rfl ?_
      refine v_iret dX8_sidesOf_93 rfl ⟨rfl, rfl⟩ ?_
      have g : j = n := by omega
      subst g
      rw [hu]
      exact h
    · refine w_iload_n dX8_sidesOf_15 rfl ?_
      refine w_aload_n dX8_sidesOf_16 rfl ?_
      refine v_getR (j := bI b 2) dX8_sidesOf_17 fX8_40 (sO_b hb (by decide) rfl) rfl (r0_b hb (by decide)) ?_
      refine w_iload dX8_sidesOf_20 rfl ?_
      refine v_iald dX8_sidesOf_22 (sA_b hb (by decide) rfl) (by omega) (by omega) (by decide) (fun z22 e22 b22 => ?_)
      have f22 : z22 = rd I (bI b 2) j := by rw [e22]; rfl
      have cl := hB.2.2.1 j (by omega)
      refine v_iadd dX8_sidesOf_23 ?_
      refine w_istore dX8_sidesOf_24 rfl rfl ?_
      refine w_iload_n dX8_sidesOf_26 rfl ?_
      refine w_aload_n dX8_sidesOf_27 rfl ?_
      refine v_getR (j := bI b 3) dX8_sidesOf_28 fX8_43 (sO_b hb (by decide) rfl) rfl (r0_b hb (by decide)) ?_
      refine w_iload dX8_sidesOf_31 rfl ?_
      refine v_iald dX8_sidesOf_33 (sA_b hb (by decide) rfl) (by omega) (by omega) (by decide) (fun z33 e33 b33 => ?_)
      have f33 : z33 = rd I (bI b 3) j := by rw [e33]; rfl
      refine v_iadd dX8_sidesOf_34 ?_
      refine w_istore dX8_sidesOf_35 rfl rfl ?_
      refine w_iload dX8_sidesOf_37 rfl ?_
      refine w_aload_n dX8_sidesOf_39 rfl ?_
      refine w_iload dX8_sidesOf_40 rfl ?_
      refine w_iconst (v := iI 1) dX8_sidesOf_42 rfl ?_
      refine v_isub dX8_sidesOf_43 ?_
      refine w_iload dX8_sidesOf_44 rfl ?_
      refine v_callV2 dX8_sidesOf_46 lX8_55 vX8_taken (by decide) rfl rfl ⟨by decide, rfl⟩ (by decide) rfl (Nat.le_of_ble_eq_true rfl) ?_
      refine x8_taken (by omega) (by omega) ?_
      refine w_aload_n dX8_sidesOf_49 rfl ?_
      refine w_iload dX8_sidesOf_50 rfl ?_
      refine w_iconst (v := iI 1) dX8_sidesOf_52 rfl ?_
      refine v_iadd dX8_sidesOf_53 ?_
      refine w_iload dX8_sidesOf_54 rfl ?_
      refine v_callV2 dX8_sidesOf_56 lX8_55 vX8_taken (by decide) rfl rfl ⟨by decide, rfl⟩ (by decide) rfl (Nat.le_of_ble_eq_true rfl) ?_
      refine x8_taken (by omega) (by omega) ?_
      refine v_iadd dX8_sidesOf_59 ?_
      refine w_aload_n dX8_sidesOf_60 rfl ?_
      refine w_iload dX8_sidesOf_61 rfl ?_
      refine w_iload dX8_sidesOf_63 rfl ?_
      refine w_iconst (v := iI 1) dX8_sidesOf_65 rfl ?_
      refine v_isub dX8_sidesOf_66 ?_
      refine v_callV2 dX8_sidesOf_67 lX8_55 vX8_taken (by decide) rfl rfl ⟨by decide, rfl⟩ (by decide) rfl (Nat.le_of_ble_eq_true rfl) ?_
      refine x8_taken (by omega) (by omega) ?_
      refine v_iadd dX8_sidesOf_70 ?_
      refine w_aload_n dX8_sidesOf_71 rfl ?_
      refine w_iload dX8_sidesOf_72 rfl ?_
      refine w_iload dX8_sidesOf_74 rfl ?_
      refine w_iconst (v := iI 1) dX8_sidesOf_76 rfl ?_
      refine v_iadd dX8_sidesOf_77 ?_
      refine v_callV2 dX8_sidesOf_78 lX8_55 vX8_taken (by decide) rfl rfl ⟨by decide, rfl⟩ (by decide) rfl (Nat.le_of_ble_eq_true rfl) ?_
      refine x8_taken (by omega) (by omega) ?_
      refine v_iadd dX8_sidesOf_81 ?_
      refine v_iadd dX8_sidesOf_82 ?_
      refine w_istore dX8_sidesOf_83 rfl rfl ?_
      refine v_iinc dX8_sidesOf_85 rfl rfl rfl ?_
      refine w_goto 6 dX8_sidesOf_88 (by decide) ?_
      refine w_keep 6 ?_
      rw [show (j : Int) + 1 = ((j + 1 : Nat) : Int) by omega]
      refine ih (j + 1) _ (by omega) (by omega) ?_
      rw [smN, ← hu]
      (try dsimp only)
      rw [← f22, ← f33]
      unfold sd4
      omega
theorem x8_sidesOf {I : Nat → Nat → Int32} {J : Nat → Nat → Int64} {F : Option Value → zM → Prop} {b : Nat} (hb : b < 10) {ce : Nat → Int} {n : Nat} (hB : RBc I b ce n) {R C : Int} (hR : -1000 ≤ R ∧ R ≤ 1000) (hC : -1000 ≤ C ∧ C ≤ 1000) (h : F (some (.int (iI (smN (fun j => sd4 I (R + rd I (bI b 2) j) (C + rd I (bI b 3) j)) n)))) (gM I J)) : Cl yX8_sidesOf kX8_sidesOf [.ref 142, .ref (bI b 0), .int (iI R), .int (iI C)] (gM I J) F := by
  refine cl_s (by decide) (by decide) (Nat.le_of_ble_eq_true rfl) rt_i ?_
  show Wp _ F 0 [(0, .ref 142), (1, .ref (bI b 0)), (2, .int (iI R)), (3, .int (iI C))] [] _
  refine w_iconst (v := iI 0) dX8_sidesOf_0 rfl ?_
  refine w_istore dX8_sidesOf_1 rfl rfl ?_
  refine w_iconst (v := iI 0) dX8_sidesOf_3 rfl ?_
  refine w_istore dX8_sidesOf_4 rfl rfl ?_
  exact x8_sidesOf_l hb hB hR hC h (n + 1) 0 0 (by omega) (by omega) rfl
theorem x8_meet {I : Nat → Nat → Int32} {J : Nat → Nat → Int64} {F : Option Value → zM → Prop} {p q : Int} (bp : -2147483648 ≤ p ∧ p < 2147483648) (bq : -2147483648 ≤ q ∧ q < 2147483648) (ht : (p ≠ -1 ∧ q ≠ -1 ∧ p ≠ q) → F (some (.int (iI 1))) (gM I J)) (hf : ¬ (p ≠ -1 ∧ q ≠ -1 ∧ p ≠ q) → F (some (.int (iI 0))) (gM I J)) : Cl yX8_meet kX8_meet [.int (iI p), .int (iI q)] (gM I J) F := by
  refine cl_s (by decide) (by decide) (Nat.le_of_ble_eq_true rfl) rt_i ?_
  show Wp _ F 0 [(0, .int (iI p)), (1, .int (iI q))] [] _
  refine w_iload_n dX8_meet_0 rfl ?_
  refine w_iconst (v := iI (-1)) dX8_meet_1 rfl ?_
  refine v_icmp_eq 19 dX8_meet_2 (by decide) (by omega) (by omega) (fun c2 => ?_) (fun c2 => ?_)
  · refine w_iconst (v := iI 0) dX8_meet_19 rfl ?_
    refine v_iret dX8_meet_20 rfl ⟨rfl, rfl⟩ ?_
    first | exact ht (by omega) | exact hf (by omega)
  · refine w_iload_n dX8_meet_5 rfl ?_
    refine w_iconst (v := iI (-1)) dX8_meet_6 rfl ?_
    refine v_icmp_eq 19 dX8_meet_7 (by decide) (by omega) (by omega) (fun c7 => ?_) (fun c7 => ?_)
    · refine w_iconst (v := iI 0) dX8_meet_19 rfl ?_
      refine v_iret dX8_meet_20 rfl ⟨rfl, rfl⟩ ?_
      first | exact ht (by omega) | exact hf (by omega)
    · refine w_iload_n dX8_meet_10 rfl ?_
      refine w_iload_n dX8_meet_11 rfl ?_
      refine v_icmp_eq 19 dX8_meet_12 (by decide) (by omega) (by omega) (fun c12 => ?_) (fun c12 => ?_)
      · refine w_iconst (v := iI 0) dX8_meet_19 rfl ?_
        refine v_iret dX8_meet_20 rfl ⟨rfl, rfl⟩ ?_
        first | exact ht (by omega) | exact hf (by omega)
      · refine w_iconst (v := iI 1) dX8_meet_15 rfl ?_
        refine w_goto 20 dX8_meet_16 (by decide) ?_
        refine v_iret dX8_meet_20 rfl ⟨rfl, rfl⟩ ?_
        first | exact ht (by omega) | exact hf (by omega)
