/-! THE LIST of the class: marks in longs -/
theorem lg_z (x : Int64) : lg_cmp x 0 = 0 ↔ x = 0 := lg_cmp_eq x 0
theorem x10_indexOf {I : Nat → Nat → Int32} {J : Nat → Nat → Int64} {F : Option Value → zM → Prop} {s : Int} (bs : -2147483648 ≤ s ∧ s < 2147483648) (hy : isLt s → F (some (.int (iI (s - 97)))) (gM I J)) (hn : ¬ isLt s → F (some (.int (iI 26))) (gM I J)) : Cl yX10_indexOf kX10_indexOf [.int (iI s)] (gM I J) F := by
  refine cl_s (by decide) (by decide) (Nat.le_of_ble_eq_true rfl) rt_i ?_
  show Wp _ F 0 [(0, .int (iI s))] [] _
  refine w_iload_n dX10_indexOf_0 rfl ?_
  refine w_bipush (v := iI 97) dX10_indexOf_1 (by decide) ?_
  refine v_icmp_lt 19 dX10_indexOf_3 (by decide) (by omega) (by omega) (fun c3 => ?_) (fun c3 => ?_)
  · refine w_bipush (v := iI 26) dX10_indexOf_19 (by decide) ?_
    refine v_iret dX10_indexOf_21 rfl ⟨rfl, rfl⟩ ?_
    first | exact hy (by omega) | exact hn (by omega)
  · refine w_iload_n dX10_indexOf_6 rfl ?_
    refine w_bipush (v := iI 122) dX10_indexOf_7 (by decide) ?_
    refine v_icmp_gt 19 dX10_indexOf_9 (by decide) (by omega) (by omega) (fun c9 => ?_) (fun c9 => ?_)
    · refine w_bipush (v := iI 26) dX10_indexOf_19 (by decide) ?_
      refine v_iret dX10_indexOf_21 rfl ⟨rfl, rfl⟩ ?_
      first | exact hy (by omega) | exact hn (by omega)
    · refine w_iload_n dX10_indexOf_12 rfl ?_
      refine w_bipush (v := iI 97) dX10_indexOf_13 (by decide) ?_
      refine v_isub dX10_indexOf_15 ?_
      refine w_goto 21 dX10_indexOf_16 (by decide) ?_
      refine v_iret dX10_indexOf_21 rfl ⟨rfl, rfl⟩ ?_
      first | exact hy (by omega) | exact hn (by omega)
theorem x10_beginRun {I : Nat → Nat → Int32} {J : Nat → Nat → Int64} {F : Option Value → zM → Prop} {cl : Int} (hcl : cl = 0 ∨ cl = 1) (hy : ∀ J' : Nat → Nat → Int64, (∀ id k, J' id k = if id = 140 ∧ k < 2 then (if cl = 0 then J (136 + k) 26 else J 138 k) else J id k) → F none (gM I J')) : Cl yX10_beginRun kX10_beginRun [.ref 134, .int (iI cl)] (gM I J) F := by
  refine cl_s (by decide) (by decide) (Nat.le_of_ble_eq_true rfl) rt_v ?_
  show Wp _ F 0 [(0, .ref 134), (1, .int (iI cl))] [] _
  refine w_iconst (v := iI 0) dX10_beginRun_0 rfl ?_
  refine w_istore_n dX10_beginRun_1 rfl rfl ?_
  refine w_iload_n dX10_beginRun_2 rfl ?_
  refine w_iconst (v := iI 2) dX10_beginRun_3 rfl ?_
  refine v_icmp_ge 41 dX10_beginRun_4 (by decide) (by decide) (by decide) (fun q => absurd q (by decide)) (fun _ => ?_)
  refine w_aload_n dX10_beginRun_7 rfl ?_
  refine v_getR (j := 140) dX10_beginRun_8 fX10_23 ⟨by decide, rfl⟩ rfl rfl ?_
  refine w_iload_n dX10_beginRun_11 rfl ?_
  refine w_iload_n dX10_beginRun_12 rfl ?_
  refine v_if_eq 25 dX10_beginRun_13 (by decide) (by omega) (fun c13 => ?_) (fun c13 => ?_)
  · refine w_aload_n dX10_beginRun_25 rfl ?_
    refine v_getR (j := 135) dX10_beginRun_26 fX10_13 ⟨by decide, rfl⟩ rfl rfl ?_
    refine w_iload_n dX10_beginRun_29 rfl ?_
    refine v_gald dX10_beginRun_30 (by decide) ?_
    refine w_bipush (v := iI 26) dX10_beginRun_31 (by decide) ?_
    refine v_lald dX10_beginRun_33 ⟨by decide, rfl⟩ (by omega) (by omega) (by decide) ?_
    refine v_last dX10_beginRun_34 ⟨by decide, rfl⟩ (by omega) (by omega) (by decide) ?_
    refine v_iinc dX10_beginRun_35 rfl rfl rfl ?_
    refine w_goto 2 dX10_beginRun_38 (by decide) ?_
    refine w_iload_n dX10_beginRun_2 rfl ?_
    refine w_iconst (v := iI 2) dX10_beginRun_3 rfl ?_
    refine v_icmp_ge 41 dX10_beginRun_4 (by decide) (by decide) (by decide) (fun q => absurd q (by decide)) (fun _ => ?_)
    refine w_aload_n dX10_beginRun_7 rfl ?_
    refine v_getR (j := 140) dX10_beginRun_8 fX10_23 ⟨by decide, rfl⟩ rfl rfl ?_
    refine w_iload_n dX10_beginRun_11 rfl ?_
    refine w_iload_n dX10_beginRun_12 rfl ?_
    refine v_if_eq 25 dX10_beginRun_13 (by decide) (by omega) (fun c13 => ?_) (fun c13 => ?_)
    · refine w_aload_n dX10_beginRun_25 rfl ?_
      refine v_getR (j := 135) dX10_beginRun_26 fX10_13 ⟨by decide, rfl⟩ rfl rfl ?_
      refine w_iload_n dX10_beginRun_29 rfl ?_
      refine v_gald dX10_beginRun_30 (by decide) ?_
      refine w_bipush (v := iI 26) dX10_beginRun_31 (by decide) ?_
      refine v_lald dX10_beginRun_33 ⟨by decide, rfl⟩ (by omega) (by omega) (by decide) ?_
      refine v_last dX10_beginRun_34 ⟨by decide, rfl⟩ (by omega) (by omega) (by decide) ?_
      refine v_iinc dX10_beginRun_35 rfl rfl rfl ?_
      refine w_goto 2 dX10_beginRun_38 (by decide) ?_
      refine w_iload_n dX10_beginRun_2 rfl ?_
      refine w_iconst (v := iI 2) dX10_beginRun_3 rfl ?_
      refine v_icmp_ge 41 dX10_beginRun_4 (by decide) (by decide) (by decide) (fun _ => ?_) (fun q => absurd q (by decide))
      refine v_vret dX10_beginRun_41 rfl ⟨rfl, rfl⟩ ?_
      refine hy _ (fun id k => ?_)
      first
        | (exfalso; omega)
        | (simp only [z_u]
           by_cases g1 : id = 140
           · subst g1
             by_cases g2 : k = 0
             · subst g2; simp [*]
             · by_cases g3 : k = 1
               · subst g3; simp [*]
               · have g4 : ¬ k < 2 := by omega
                 simp [g2, g3, g4]
           · simp [g1])
    · refine w_aload_n dX10_beginRun_16 rfl ?_
      refine v_getR (j := 138) dX10_beginRun_17 fX10_16 ⟨by decide, rfl⟩ rfl rfl ?_
      refine w_iload_n dX10_beginRun_20 rfl ?_
      refine v_lald dX10_beginRun_21 ⟨by decide, rfl⟩ (by omega) (by omega) (by decide) ?_
      refine w_goto 34 dX10_beginRun_22 (by decide) ?_
      refine v_last dX10_beginRun_34 ⟨by decide, rfl⟩ (by omega) (by omega) (by decide) ?_
      refine v_iinc dX10_beginRun_35 rfl rfl rfl ?_
      refine w_goto 2 dX10_beginRun_38 (by decide) ?_
      refine w_iload_n dX10_beginRun_2 rfl ?_
      refine w_iconst (v := iI 2) dX10_beginRun_3 rfl ?_
      refine v_icmp_ge 41 dX10_beginRun_4 (by decide) (by decide) (by decide) (fun _ => ?_) (fun q => absurd q (by decide))
      refine v_vret dX10_beginRun_41 rfl ⟨rfl, rfl⟩ ?_
      refine hy _ (fun id k => ?_)
      first
        | (exfalso; omega)
        | (simp only [z_u]
           by_cases g1 : id = 140
           · subst g1
             by_cases g2 : k = 0
             · subst g2; simp [*]
             · by_cases g3 : k = 1
               · subst g3; simp [*]
               · have g4 : ¬ k < 2 := by omega
                 simp [g2, g3, g4]
           · simp [g1])
  · refine w_aload_n dX10_beginRun_16 rfl ?_
    refine v_getR (j := 138) dX10_beginRun_17 fX10_16 ⟨by decide, rfl⟩ rfl rfl ?_
    refine w_iload_n dX10_beginRun_20 rfl ?_
    refine v_lald dX10_beginRun_21 ⟨by decide, rfl⟩ (by omega) (by omega) (by decide) ?_
    refine w_goto 34 dX10_beginRun_22 (by decide) ?_
    refine v_last dX10_beginRun_34 ⟨by decide, rfl⟩ (by omega) (by omega) (by decide) ?_
    refine v_iinc dX10_beginRun_35 rfl rfl rfl ?_
    refine w_goto 2 dX10_beginRun_38 (by decide) ?_
    refine w_iload_n dX10_beginRun_2 rfl ?_
    refine w_iconst (v := iI 2) dX10_beginRun_3 rfl ?_
    refine v_icmp_ge 41 dX10_beginRun_4 (by decide) (by decide) (by decide) (fun q => absurd q (by decide)) (fun _ => ?_)
    refine w_aload_n dX10_beginRun_7 rfl ?_
    refine v_getR (j := 140) dX10_beginRun_8 fX10_23 ⟨by decide, rfl⟩ rfl rfl ?_
    refine w_iload_n dX10_beginRun_11 rfl ?_
    refine w_iload_n dX10_beginRun_12 rfl ?_
    refine v_if_eq 25 dX10_beginRun_13 (by decide) (by omega) (fun c13 => ?_) (fun c13 => ?_)
    · refine w_aload_n dX10_beginRun_25 rfl ?_
      refine v_getR (j := 135) dX10_beginRun_26 fX10_13 ⟨by decide, rfl⟩ rfl rfl ?_
      refine w_iload_n dX10_beginRun_29 rfl ?_
      refine v_gald dX10_beginRun_30 (by decide) ?_
      refine w_bipush (v := iI 26) dX10_beginRun_31 (by decide) ?_
      refine v_lald dX10_beginRun_33 ⟨by decide, rfl⟩ (by omega) (by omega) (by decide) ?_
      refine v_last dX10_beginRun_34 ⟨by decide, rfl⟩ (by omega) (by omega) (by decide) ?_
      refine v_iinc dX10_beginRun_35 rfl rfl rfl ?_
      refine w_goto 2 dX10_beginRun_38 (by decide) ?_
      refine w_iload_n dX10_beginRun_2 rfl ?_
      refine w_iconst (v := iI 2) dX10_beginRun_3 rfl ?_
      refine v_icmp_ge 41 dX10_beginRun_4 (by decide) (by decide) (by decide) (fun _ => ?_) (fun q => absurd q (by decide))
      refine v_vret dX10_beginRun_41 rfl ⟨rfl, rfl⟩ ?_
      refine hy _ (fun id k => ?_)
      first
        | (exfalso; omega)
        | (simp only [z_u]
           by_cases g1 : id = 140
           · subst g1
             by_cases g2 : k = 0
             · subst g2; simp [*]
             · by_cases g3 : k = 1
               · subst g3; simp [*]
               · have g4 : ¬ k < 2 := by omega
                 simp [g2, g3, g4]
           · simp [g1])
    · refine w_aload_n dX10_beginRun_16 rfl ?_
      refine v_getR (j := 138) dX10_beginRun_17 fX10_16 ⟨by decide, rfl⟩ rfl rfl ?_
      refine w_iload_n dX10_beginRun_20 rfl ?_
      refine v_lald dX10_beginRun_21 ⟨by decide, rfl⟩ (by omega) (by omega) (by decide) ?_
      refine w_goto 34 dX10_beginRun_22 (by decide) ?_
      refine v_last dX10_beginRun_34 ⟨by decide, rfl⟩ (by omega) (by omega) (by decide) ?_
      refine v_iinc dX10_beginRun_35 rfl rfl rfl ?_
      refine w_goto 2 dX10_beginRun_38 (by decide) ?_
      refine w_iload_n dX10_beginRun_2 rfl ?_
      refine w_iconst (v := iI 2) dX10_beginRun_3 rfl ?_
      refine v_icmp_ge 41 dX10_beginRun_4 (by decide) (by decide) (by decide) (fun _ => ?_) (fun q => absurd q (by decide))
      refine v_vret dX10_beginRun_41 rfl ⟨rfl, rfl⟩ ?_
      refine hy _ (fun id k => ?_)
      first
        | (exfalso; omega)
        | (simp only [z_u]
           by_cases g1 : id = 140
           · subst g1
             by_cases g2 : k = 0
             · subst g2; simp [*]
             · by_cases g3 : k = 1
               · subst g3; simp [*]
               · have g4 : ¬ k < 2 := by omega
                 simp [g2, g3, g4]
           · simp [g1])
theorem x10_nextSign {I : Nat → Nat → Int32} {J : Nat → Nat → Int64} {F : Option Value → zM → Prop} {s : Int} (bs : -2147483648 ≤ s ∧ s < 2147483648) (hy : ∀ (x : Int) (J' : Nat → Nat → Int64), 0 ≤ x → x ≤ 26 → (isLt s → x = s - 97) → (¬ isLt s → x = 26) → (∀ id k, J' id k = if id = 141 ∧ k < 2 then J 140 k &&& J (136 + k) x.toNat else if id = 140 ∧ k < 2 then ((J 140 k &&& J (136 + k) x.toNat) <<< ((iI 1).toInt64 &&& 63)) &&& (J 138 k ^^^ (-1)) else J id k) → F none (gM I J')) : Cl yX10_nextSign kX10_nextSign [.ref 134, .int (iI s)] (gM I J) F := by
  refine cl_s (by decide) (by decide) (Nat.le_of_ble_eq_true rfl) rt_v ?_
  show Wp _ F 0 [(0, .ref 134), (1, .int (iI s))] [] _
  refine w_iload_n dX10_nextSign_0 rfl ?_
  refine v_callS1 dX10_nextSign_1 lX10_42 vX10_indexOf (by decide) rfl rfl (Nat.le_of_ble_eq_true rfl) ?_
  refine x10_indexOf (by omega) (fun q1 => ?_) (fun q1 => ?_)
  · refine w_istore_n dX10_nextSign_4 rfl rfl ?_
    refine w_iconst (v := iI 0) dX10_nextSign_5 rfl ?_
    refine w_istore_n dX10_nextSign_6 rfl rfl ?_
    refine w_iload_n dX10_nextSign_7 rfl ?_
    refine w_iconst (v := iI 2) dX10_nextSign_8 rfl ?_
    refine v_icmp_ge 64 dX10_nextSign_9 (by decide) (by decide) (by decide) (fun q => absurd q (by decide)) (fun _ => ?_)
    refine w_aload_n dX10_nextSign_12 rfl ?_
    refine v_getR (j := 141) dX10_nextSign_13 fX10_26 ⟨by decide, rfl⟩ rfl rfl ?_
    refine w_iload_n dX10_nextSign_16 rfl ?_
    refine w_aload_n dX10_nextSign_17 rfl ?_
    refine v_getR (j := 140) dX10_nextSign_18 fX10_23 ⟨by decide, rfl⟩ rfl rfl ?_
    refine w_iload_n dX10_nextSign_21 rfl ?_
    refine v_lald dX10_nextSign_22 ⟨by decide, rfl⟩ (by omega) (by omega) (by decide) ?_
    refine w_aload_n dX10_nextSign_23 rfl ?_
    refine v_getR (j := 135) dX10_nextSign_24 fX10_13 ⟨by decide, rfl⟩ rfl rfl ?_
    refine w_iload_n dX10_nextSign_27 rfl ?_
    refine v_gald dX10_nextSign_28 (by decide) ?_
    refine w_iload_n dX10_nextSign_29 rfl ?_
    refine v_lald dX10_nextSign_30 ⟨by decide, rfl⟩ (by omega) (by omega) (by decide) ?_
    refine w_land dX10_nextSign_31 ?_
    refine v_last dX10_nextSign_32 ⟨by decide, rfl⟩ (by omega) (by omega) (by decide) ?_
    refine w_aload_n dX10_nextSign_33 rfl ?_
    refine v_getR (j := 140) dX10_nextSign_34 fX10_23 ⟨by decide, rfl⟩ rfl rfl ?_
    refine w_iload_n dX10_nextSign_37 rfl ?_
    refine w_aload_n dX10_nextSign_38 rfl ?_
    refine v_getR (j := 141) dX10_nextSign_39 fX10_26 ⟨by decide, rfl⟩ rfl rfl ?_
    refine w_iload_n dX10_nextSign_42 rfl ?_
    refine v_lald dX10_nextSign_43 ⟨by decide, rfl⟩ (by omega) (by omega) (by decide) ?_
    refine w_iconst (v := iI 1) dX10_nextSign_44 rfl ?_
    refine w_lshl dX10_nextSign_45 ?_
    refine w_aload_n dX10_nextSign_46 rfl ?_
    refine v_getR (j := 138) dX10_nextSign_47 fX10_16 ⟨by decide, rfl⟩ rfl rfl ?_
    refine w_iload_n dX10_nextSign_50 rfl ?_
    refine v_lald dX10_nextSign_51 ⟨by decide, rfl⟩ (by omega) (by omega) (by decide) ?_
    refine w_ldc2 dX10_nextSign_52 (show Cond.constantLong RX10 46 (-1) ∈ zm_g from zm_in (by decide +kernel) (by decide +kernel)) ?_
    refine w_lxor dX10_nextSign_55 ?_
    refine w_land dX10_nextSign_56 ?_
    refine v_last dX10_nextSign_57 ⟨by decide, rfl⟩ (by omega) (by omega) (by decide) ?_
    refine v_iinc dX10_nextSign_58 rfl rfl rfl ?_
    refine w_goto 7 dX10_nextSign_61 (by decide) ?_
    refine w_iload_n dX10_nextSign_7 rfl ?_
    refine w_iconst (v := iI 2) dX10_nextSign_8 rfl ?_
    refine v_icmp_ge 64 dX10_nextSign_9 (by decide) (by decide) (by decide) (fun q => absurd q (by decide)) (fun _ => ?_)
    refine w_aload_n dX10_nextSign_12 rfl ?_
    refine v_getR (j := 141) dX10_nextSign_13 fX10_26 ⟨by decide, rfl⟩ rfl rfl ?_
    refine w_iload_n dX10_nextSign_16 rfl ?_
    refine w_aload_n dX10_nextSign_17 rfl ?_
    refine v_getR (j := 140) dX10_nextSign_18 fX10_23 ⟨by decide, rfl⟩ rfl rfl ?_
    refine w_iload_n dX10_nextSign_21 rfl ?_
    refine v_lald dX10_nextSign_22 ⟨by decide, rfl⟩ (by omega) (by omega) (by decide) ?_
    refine w_aload_n dX10_nextSign_23 rfl ?_
    refine v_getR (j := 135) dX10_nextSign_24 fX10_13 ⟨by decide, rfl⟩ rfl rfl ?_
    refine w_iload_n dX10_nextSign_27 rfl ?_
    refine v_gald dX10_nextSign_28 (by decide) ?_
    refine w_iload_n dX10_nextSign_29 rfl ?_
    refine v_lald dX10_nextSign_30 ⟨by decide, rfl⟩ (by omega) (by omega) (by decide) ?_
    refine w_land dX10_nextSign_31 ?_
    refine v_last dX10_nextSign_32 ⟨by decide, rfl⟩ (by omega) (by omega) (by decide) ?_
    refine w_aload_n dX10_nextSign_33 rfl ?_
    refine v_getR (j := 140) dX10_nextSign_34 fX10_23 ⟨by decide, rfl⟩ rfl rfl ?_
    refine w_iload_n dX10_nextSign_37 rfl ?_
    refine w_aload_n dX10_nextSign_38 rfl ?_
    refine v_getR (j := 141) dX10_nextSign_39 fX10_26 ⟨by decide, rfl⟩ rfl rfl ?_
    refine w_iload_n dX10_nextSign_42 rfl ?_
    refine v_lald dX10_nextSign_43 ⟨by decide, rfl⟩ (by omega) (by omega) (by decide) ?_
    refine w_iconst (v := iI 1) dX10_nextSign_44 rfl ?_
    refine w_lshl dX10_nextSign_45 ?_
    refine w_aload_n dX10_nextSign_46 rfl ?_
    refine v_getR (j := 138) dX10_nextSign_47 fX10_16 ⟨by decide, rfl⟩ rfl rfl ?_
    refine w_iload_n dX10_nextSign_50 rfl ?_
    refine v_lald dX10_nextSign_51 ⟨by decide, rfl⟩ (by omega) (by omega) (by decide) ?_
    refine w_ldc2 dX10_nextSign_52 (show Cond.constantLong RX10 46 (-1) ∈ zm_g from zm_in (by decide +kernel) (by decide +kernel)) ?_
    refine w_lxor dX10_nextSign_55 ?_
    refine w_land dX10_nextSign_56 ?_
    refine v_last dX10_nextSign_57 ⟨by decide, rfl⟩ (by omega) (by omega) (by decide) ?_
    refine v_iinc dX10_nextSign_58 rfl rfl rfl ?_
    refine w_goto 7 dX10_nextSign_61 (by decide) ?_
    refine w_iload_n dX10_nextSign_7 rfl ?_
    refine w_iconst (v := iI 2) dX10_nextSign_8 rfl ?_
    refine v_icmp_ge 64 dX10_nextSign_9 (by decide) (by decide) (by decide) (fun _ => ?_) (fun q => absurd q (by decide))
    refine v_vret dX10_nextSign_64 rfl ⟨rfl, rfl⟩ ?_
    first
      | (exfalso; omega)
      | (refine hy (s - 97) _ (by omega) (by omega) (fun _ => rfl) (fun g => absurd q1 g) (fun id k => ?_)
         simp only [z_u]
         by_cases g1 : id = 140
         · subst g1
           by_cases g2 : k = 0
           · subst g2; simp
           · by_cases g3 : k = 1
             · subst g3; simp
             · have g4 : ¬ k < 2 := by omega
               simp [g2, g3, g4]
         · by_cases g0 : id = 141
           · subst g0
             by_cases g2 : k = 0
             · subst g2; simp
             · by_cases g3 : k = 1
               · subst g3; simp
               · have g4 : ¬ k < 2 := by omega
                 simp [g2, g3, g4]
           · simp [g1, g0])
      | (refine hy 26 _ (by omega) (by omega) (fun g => absurd g q1) (fun _ => rfl) (fun id k => ?_)
         simp only [z_u]
         by_cases g1 : id = 140
         · subst g1
           by_cases g2 : k = 0
           · subst g2; simp
           · by_cases g3 : k = 1
             · subst g3; simp
             · have g4 : ¬ k < 2 := by omega
               simp [g2, g3, g4]
         · by_cases g0 : id = 141
           · subst g0
             by_cases g2 : k = 0
             · subst g2; simp
             · by_cases g3 : k = 1
               · subst g3; simp
               · have g4 : ¬ k < 2 := by omega
                 simp [g2, g3, g4]
           · simp [g1, g0])
  · refine w_istore_n dX10_nextSign_4 rfl rfl ?_
    refine w_iconst (v := iI 0) dX10_nextSign_5 rfl ?_
    refine w_istore_n dX10_nextSign_6 rfl rfl ?_
    refine w_iload_n dX10_nextSign_7 rfl ?_
    refine w_iconst (v := iI 2) dX10_nextSign_8 rfl ?_
    refine v_icmp_ge 64 dX10_nextSign_9 (by decide) (by decide) (by decide) (fun q => absurd q (by decide)) (fun _ => ?_)
    refine w_aload_n dX10_nextSign_12 rfl ?_
    refine v_getR (j := 141) dX10_nextSign_13 fX10_26 ⟨by decide, rfl⟩ rfl rfl ?_
    refine w_iload_n dX10_nextSign_16 rfl ?_
    refine w_aload_n dX10_nextSign_17 rfl ?_
    refine v_getR (j := 140) dX10_nextSign_18 fX10_23 ⟨by decide, rfl⟩ rfl rfl ?_
    refine w_iload_n dX10_nextSign_21 rfl ?_
    refine v_lald dX10_nextSign_22 ⟨by decide, rfl⟩ (by omega) (by omega) (by decide) ?_
    refine w_aload_n dX10_nextSign_23 rfl ?_
    refine v_getR (j := 135) dX10_nextSign_24 fX10_13 ⟨by decide, rfl⟩ rfl rfl ?_
    refine w_iload_n dX10_nextSign_27 rfl ?_
    refine v_gald dX10_nextSign_28 (by decide) ?_
    refine w_iload_n dX10_nextSign_29 rfl ?_
    refine v_lald dX10_nextSign_30 ⟨by decide, rfl⟩ (by omega) (by omega) (by decide) ?_
    refine w_land dX10_nextSign_31 ?_
    refine v_last dX10_nextSign_32 ⟨by decide, rfl⟩ (by omega) (by omega) (by decide) ?_
    refine w_aload_n dX10_nextSign_33 rfl ?_
    refine v_getR (j := 140) dX10_nextSign_34 fX10_23 ⟨by decide, rfl⟩ rfl rfl ?_
    refine w_iload_n dX10_nextSign_37 rfl ?_
    refine w_aload_n dX10_nextSign_38 rfl ?_
    refine v_getR (j := 141) dX10_nextSign_39 fX10_26 ⟨by decide, rfl⟩ rfl rfl ?_
    refine w_iload_n dX10_nextSign_42 rfl ?_
    refine v_lald dX10_nextSign_43 ⟨by decide, rfl⟩ (by omega) (by omega) (by decide) ?_
    refine w_iconst (v := iI 1) dX10_nextSign_44 rfl ?_
    refine w_lshl dX10_nextSign_45 ?_
    refine w_aload_n dX10_nextSign_46 rfl ?_
    refine v_getR (j := 138) dX10_nextSign_47 fX10_16 ⟨by decide, rfl⟩ rfl rfl ?_
    refine w_iload_n dX10_nextSign_50 rfl ?_
    refine v_lald dX10_nextSign_51 ⟨by decide, rfl⟩ (by omega) (by omega) (by decide) ?_
    refine w_ldc2 dX10_nextSign_52 (show Cond.constantLong RX10 46 (-1) ∈ zm_g from zm_in (by decide +kernel) (by decide +kernel)) ?_
    refine w_lxor dX10_nextSign_55 ?_
    refine w_land dX10_nextSign_56 ?_
    refine v_last dX10_nextSign_57 ⟨by decide, rfl⟩ (by omega) (by omega) (by decide) ?_
    refine v_iinc dX10_nextSign_58 rfl rfl rfl ?_
    refine w_goto 7 dX10_nextSign_61 (by decide) ?_
    refine w_iload_n dX10_nextSign_7 rfl ?_
    refine w_iconst (v := iI 2) dX10_nextSign_8 rfl ?_
    refine v_icmp_ge 64 dX10_nextSign_9 (by decide) (by decide) (by decide) (fun q => absurd q (by decide)) (fun _ => ?_)
    refine w_aload_n dX10_nextSign_12 rfl ?_
    refine v_getR (j := 141) dX10_nextSign_13 fX10_26 ⟨by decide, rfl⟩ rfl rfl ?_
    refine w_iload_n dX10_nextSign_16 rfl ?_
    refine w_aload_n dX10_nextSign_17 rfl ?_
    refine v_getR (j := 140) dX10_nextSign_18 fX10_23 ⟨by decide, rfl⟩ rfl rfl ?_
    refine w_iload_n dX10_nextSign_21 rfl ?_
    refine v_lald dX10_nextSign_22 ⟨by decide, rfl⟩ (by omega) (by omega) (by decide) ?_
    refine w_aload_n dX10_nextSign_23 rfl ?_
    refine v_getR (j := 135) dX10_nextSign_24 fX10_13 ⟨by decide, rfl⟩ rfl rfl ?_
    refine w_iload_n dX10_nextSign_27 rfl ?_
    refine v_gald dX10_nextSign_28 (by decide) ?_
    refine w_iload_n dX10_nextSign_29 rfl ?_
    refine v_lald dX10_nextSign_30 ⟨by decide, rfl⟩ (by omega) (by omega) (by decide) ?_
    refine w_land dX10_nextSign_31 ?_
    refine v_last dX10_nextSign_32 ⟨by decide, rfl⟩ (by omega) (by omega) (by decide) ?_
    refine w_aload_n dX10_nextSign_33 rfl ?_
    refine v_getR (j := 140) dX10_nextSign_34 fX10_23 ⟨by decide, rfl⟩ rfl rfl ?_
    refine w_iload_n dX10_nextSign_37 rfl ?_
    refine w_aload_n dX10_nextSign_38 rfl ?_
    refine v_getR (j := 141) dX10_nextSign_39 fX10_26 ⟨by decide, rfl⟩ rfl rfl ?_
    refine w_iload_n dX10_nextSign_42 rfl ?_
    refine v_lald dX10_nextSign_43 ⟨by decide, rfl⟩ (by omega) (by omega) (by decide) ?_
    refine w_iconst (v := iI 1) dX10_nextSign_44 rfl ?_
    refine w_lshl dX10_nextSign_45 ?_
    refine w_aload_n dX10_nextSign_46 rfl ?_
    refine v_getR (j := 138) dX10_nextSign_47 fX10_16 ⟨by decide, rfl⟩ rfl rfl ?_
    refine w_iload_n dX10_nextSign_50 rfl ?_
    refine v_lald dX10_nextSign_51 ⟨by decide, rfl⟩ (by omega) (by omega) (by decide) ?_
    refine w_ldc2 dX10_nextSign_52 (show Cond.constantLong RX10 46 (-1) ∈ zm_g from zm_in (by decide +kernel) (by decide +kernel)) ?_
    refine w_lxor dX10_nextSign_55 ?_
    refine w_land dX10_nextSign_56 ?_
    refine v_last dX10_nextSign_57 ⟨by decide, rfl⟩ (by omega) (by omega) (by decide) ?_
    refine v_iinc dX10_nextSign_58 rfl rfl rfl ?_
    refine w_goto 7 dX10_nextSign_61 (by decide) ?_
    refine w_iload_n dX10_nextSign_7 rfl ?_
    refine w_iconst (v := iI 2) dX10_nextSign_8 rfl ?_
    refine v_icmp_ge 64 dX10_nextSign_9 (by decide) (by decide) (by decide) (fun _ => ?_) (fun q => absurd q (by decide))
    refine v_vret dX10_nextSign_64 rfl ⟨rfl, rfl⟩ ?_
    first
      | (exfalso; omega)
      | (refine hy (s - 97) _ (by omega) (by omega) (fun _ => rfl) (fun g => absurd q1 g) (fun id k => ?_)
         simp only [z_u]
         by_cases g1 : id = 140
         · subst g1
           by_cases g2 : k = 0
           · subst g2; simp
           · by_cases g3 : k = 1
             · subst g3; simp
             · have g4 : ¬ k < 2 := by omega
               simp [g2, g3, g4]
         · by_cases g0 : id = 141
           · subst g0
             by_cases g2 : k = 0
             · subst g2; simp
             · by_cases g3 : k = 1
               · subst g3; simp
               · have g4 : ¬ k < 2 := by omega
                 simp [g2, g3, g4]
           · simp [g1, g0])
      | (refine hy 26 _ (by omega) (by omega) (fun g => absurd g q1) (fun _ => rfl) (fun id k => ?_)
         simp only [z_u]
         by_cases g1 : id = 140
         · subst g1
           by_cases g2 : k = 0
           · subst g2; simp
           · by_cases g3 : k = 1
             · subst g3; simp
             · have g4 : ¬ k < 2 := by omega
               simp [g2, g3, g4]
         · by_cases g0 : id = 141
           · subst g0
             by_cases g2 : k = 0
             · subst g2; simp
             · by_cases g3 : k = 1
               · subst g3; simp
               · have g4 : ¬ k < 2 := by omega
                 simp [g2, g3, g4]
           · simp [g1, g0])
theorem x10_endRun {I : Nat → Nat → Int32} {J : Nat → Nat → Int64} {F : Option Value → zM → Prop} {cl : Int} (hcl : cl = 0 ∨ cl = 1) (hy : ∀ J' : Nat → Nat → Int64, (∀ id k, J' id k = if id = 141 ∧ k < 2 ∧ cl ≠ 0 then J 141 k &&& J 139 k else J id k) → F none (gM I J')) : Cl yX10_endRun kX10_endRun [.ref 134, .int (iI cl)] (gM I J) F := by
  refine cl_s (by decide) (by decide) (Nat.le_of_ble_eq_true rfl) rt_v ?_
  show Wp _ F 0 [(0, .ref 134), (1, .int (iI cl))] [] _
  refine w_iload_n dX10_endRun_0 rfl ?_
  refine v_if_eq 32 dX10_endRun_1 (by decide) (by omega) (fun c1 => ?_) (fun c1 => ?_)
  · refine v_vret dX10_endRun_32 rfl ⟨rfl, rfl⟩ ?_
    refine hy _ (fun id k => ?_)
    first
      | (rw [if_neg (by omega)]; done)
      | (simp only [z_u]
         by_cases g1 : id = 141
         · subst g1
           by_cases g2 : k = 0
           · subst g2; simp [*]
           · by_cases g3 : k = 1
             · subst g3; simp [*]
             · have g4 : ¬ k < 2 := by omega
               simp [g2, g3, g4]
         · simp [g1])
  · refine w_iconst (v := iI 0) dX10_endRun_4 rfl ?_
    refine w_istore_n dX10_endRun_5 rfl rfl ?_
    refine w_iload_n dX10_endRun_6 rfl ?_
    refine w_iconst (v := iI 2) dX10_endRun_7 rfl ?_
    refine v_icmp_ge 32 dX10_endRun_8 (by decide) (by decide) (by decide) (fun q => absurd q (by decide)) (fun _ => ?_)
    refine w_aload_n dX10_endRun_11 rfl ?_
    refine v_getR (j := 141) dX10_endRun_12 fX10_26 ⟨by decide, rfl⟩ rfl rfl ?_
    refine w_iload_n dX10_endRun_15 rfl ?_
    refine w_dup2 dX10_endRun_16 rfl rfl ?_
    refine v_lald dX10_endRun_17 ⟨by decide, rfl⟩ (by omega) (by omega) (by decide) ?_
    refine w_aload_n dX10_endRun_18 rfl ?_
    refine v_getR (j := 139) dX10_endRun_19 fX10_20 ⟨by decide, rfl⟩ rfl rfl ?_
    refine w_iload_n dX10_endRun_22 rfl ?_
    refine v_lald dX10_endRun_23 ⟨by decide, rfl⟩ (by omega) (by omega) (by decide) ?_
    refine w_land dX10_endRun_24 ?_
    refine v_last dX10_endRun_25 ⟨by decide, rfl⟩ (by omega) (by omega) (by decide) ?_
    refine v_iinc dX10_endRun_26 rfl rfl rfl ?_
    refine w_goto 6 dX10_endRun_29 (by decide) ?_
    refine w_iload_n dX10_endRun_6 rfl ?_
    refine w_iconst (v := iI 2) dX10_endRun_7 rfl ?_
    refine v_icmp_ge 32 dX10_endRun_8 (by decide) (by decide) (by decide) (fun q => absurd q (by decide)) (fun _ => ?_)
    refine w_aload_n dX10_endRun_11 rfl ?_
    refine v_getR (j := 141) dX10_endRun_12 fX10_26 ⟨by decide, rfl⟩ rfl rfl ?_
    refine w_iload_n dX10_endRun_15 rfl ?_
    refine w_dup2 dX10_endRun_16 rfl rfl ?_
    refine v_lald dX10_endRun_17 ⟨by decide, rfl⟩ (by omega) (by omega) (by decide) ?_
    refine w_aload_n dX10_endRun_18 rfl ?_
    refine v_getR (j := 139) dX10_endRun_19 fX10_20 ⟨by decide, rfl⟩ rfl rfl ?_
    refine w_iload_n dX10_endRun_22 rfl ?_
    refine v_lald dX10_endRun_23 ⟨by decide, rfl⟩ (by omega) (by omega) (by decide) ?_
    refine w_land dX10_endRun_24 ?_
    refine v_last dX10_endRun_25 ⟨by decide, rfl⟩ (by omega) (by omega) (by decide) ?_
    refine v_iinc dX10_endRun_26 rfl rfl rfl ?_
    refine w_goto 6 dX10_endRun_29 (by decide) ?_
    refine w_iload_n dX10_endRun_6 rfl ?_
    refine w_iconst (v := iI 2) dX10_endRun_7 rfl ?_
    refine v_icmp_ge 32 dX10_endRun_8 (by decide) (by decide) (by decide) (fun _ => ?_) (fun q => absurd q (by decide))
    refine v_vret dX10_endRun_32 rfl ⟨rfl, rfl⟩ ?_
    refine hy _ (fun id k => ?_)
    first
      | (rw [if_neg (by omega)]; done)
      | (simp only [z_u]
         by_cases g1 : id = 141
         · subst g1
           by_cases g2 : k = 0
           · subst g2; simp [*]
           · by_cases g3 : k = 1
             · subst g3; simp [*]
             · have g4 : ¬ k < 2 := by omega
               simp [g2, g3, g4]
         · simp [g1])
theorem x10_canBeSome {I : Nat → Nat → Int32} {J : Nat → Nat → Int64} {F : Option Value → zM → Prop} (hy : (rd I 134 0 = 0 ∨ J 141 0 ≠ 0 ∨ J 141 1 ≠ 0) → F (some (.int (iI 1))) (gM I J)) (hn : ¬ (rd I 134 0 = 0 ∨ J 141 0 ≠ 0 ∨ J 141 1 ≠ 0) → F (some (.int (iI 0))) (gM I J)) : Cl yX10_canBeSome kX10_canBeSome [.ref 134] (gM I J) F := by
  refine cl_s (by decide) (by decide) (Nat.le_of_ble_eq_true rfl) rt_z ?_
  show Wp _ F 0 [(0, .ref 134)] [] _
  refine w_aload_n dX10_canBeSome_0 rfl ?_
  refine v_getI dX10_canBeSome_1 fX10_29 ⟨by decide, rfl⟩ (Or.inl rfl) (fun z1 e1 b1 => ?_)
  refine v_if_eq 29 dX10_canBeSome_4 (by decide) (by omega) (fun c4 => ?_) (fun c4 => ?_)
  · refine w_iconst (v := iI 1) dX10_canBeSome_29 rfl ?_
    refine w_goto 34 dX10_canBeSome_30 (by decide) ?_
    refine v_zret dX10_canBeSome_34 rfl ⟨rfl, rfl⟩ (by decide) ?_
    (try rw [lg_z] at *)
    first
      | exact hy (Or.inl (by omega))
      | exact hy (Or.inr (Or.inl (by assumption)))
      | exact hy (Or.inr (Or.inr (by assumption)))
      | exact hn (fun g => by rcases g with g | g | g <;> first | omega | exact g (by assumption))
  · refine w_aload_n dX10_canBeSome_7 rfl ?_
    refine v_getR (j := 141) dX10_canBeSome_8 fX10_26 ⟨by decide, rfl⟩ rfl rfl ?_
    refine w_iconst (v := iI 0) dX10_canBeSome_11 rfl ?_
    refine v_lald dX10_canBeSome_12 ⟨by decide, rfl⟩ (by omega) (by omega) (by decide) ?_
    refine w_lconst (v := 0) dX10_canBeSome_13 (by decide) ?_
    refine w_lcmp dX10_canBeSome_14 ?_
    refine w_if_ne 29 dX10_canBeSome_15 (by decide) (fun c15 => ?_) (fun c15 => ?_)
    · refine w_iconst (v := iI 1) dX10_canBeSome_29 rfl ?_
      refine w_goto 34 dX10_canBeSome_30 (by decide) ?_
      refine v_zret dX10_canBeSome_34 rfl ⟨rfl, rfl⟩ (by decide) ?_
      (try rw [lg_z] at *)
      first
        | exact hy (Or.inl (by omega))
        | exact hy (Or.inr (Or.inl (by assumption)))
        | exact hy (Or.inr (Or.inr (by assumption)))
        | exact hn (fun g => by rcases g with g | g | g <;> first | omega | exact g (by assumption))
    · refine w_aload_n dX10_canBeSome_18 rfl ?_
      refine v_getR (j := 141) dX10_canBeSome_19 fX10_26 ⟨by decide, rfl⟩ rfl rfl ?_
      refine w_iconst (v := iI 1) dX10_canBeSome_22 rfl ?_
      refine v_lald dX10_canBeSome_23 ⟨by decide, rfl⟩ (by omega) (by omega) (by decide) ?_
      refine w_lconst (v := 0) dX10_canBeSome_24 (by decide) ?_
      refine w_lcmp dX10_canBeSome_25 ?_
      refine w_if_eq 33 dX10_canBeSome_26 (by decide) (fun c26 => ?_) (fun c26 => ?_)
      · refine w_iconst (v := iI 0) dX10_canBeSome_33 rfl ?_
        refine v_zret dX10_canBeSome_34 rfl ⟨rfl, rfl⟩ (by decide) ?_
        (try rw [lg_z] at *)
        first
          | exact hy (Or.inl (by omega))
          | exact hy (Or.inr (Or.inl (by assumption)))
          | exact hy (Or.inr (Or.inr (by assumption)))
          | exact hn (fun g => by rcases g with g | g | g <;> first | omega | exact g (by assumption))
      · refine w_iconst (v := iI 1) dX10_canBeSome_29 rfl ?_
        refine w_goto 34 dX10_canBeSome_30 (by decide) ?_
        refine v_zret dX10_canBeSome_34 rfl ⟨rfl, rfl⟩ (by decide) ?_
        (try rw [lg_z] at *)
        first
          | exact hy (Or.inl (by omega))
          | exact hy (Or.inr (Or.inl (by assumption)))
          | exact hy (Or.inr (Or.inr (by assumption)))
          | exact hn (fun g => by rcases g with g | g | g <;> first | omega | exact g (by assumption))
theorem x10_canBe {I : Nat → Nat → Int32} {J : Nat → Nat → Int64} {F : Option Value → zM → Prop} {k wn : Nat} (hw : rd I 134 0 = wn) (hw2 : wn ≤ 12) (hk : k < wn) (hy : ((J 141 (k / 6)).toUInt64 >>> ((iI (((k % 6 : Nat) : Int) * 10)).toInt64.toUInt64 &&& Int64.toUInt64 63)).toInt64 &&& 1023 ≠ 0 → F (some (.int (iI 1))) (gM I J)) (hn : ((J 141 (k / 6)).toUInt64 >>> ((iI (((k % 6 : Nat) : Int) * 10)).toInt64.toUInt64 &&& Int64.toUInt64 63)).toInt64 &&& 1023 = 0 → F (some (.int (iI 0))) (gM I J)) : Cl yX10_canBe kX10_canBe [.ref 134, .int (iI (k : Int))] (gM I J) F := by
  refine cl_s (by decide) (by decide) (Nat.le_of_ble_eq_true rfl) rt_z ?_
  show Wp _ F 0 [(0, .ref 134), (1, .int (iI (k : Int)))] [] _
  refine w_iload_n dX10_canBe_0 rfl ?_
  refine v_if_lt 12 dX10_canBe_1 (by decide) (by omega) (fun c1 => absurd c1 (by omega)) (fun c1 => ?_)
  refine w_iload_n dX10_canBe_4 rfl ?_
  refine w_aload_n dX10_canBe_5 rfl ?_
  refine v_getI dX10_canBe_6 fX10_29 ⟨by decide, rfl⟩ (Or.inl rfl) (fun z6 e6 b6 => ?_)
  refine v_icmp_lt 14 dX10_canBe_9 (by decide) (by omega) (by omega) (fun c9 => ?_) (fun c9 => absurd c9 (by omega))
  refine w_aload_n dX10_canBe_14 rfl ?_
  refine v_getR (j := 141) dX10_canBe_15 fX10_26 ⟨by decide, rfl⟩ rfl rfl ?_
  refine w_iload_n dX10_canBe_18 rfl ?_
  refine w_bipush (v := iI 6) dX10_canBe_19 (by decide) ?_
  refine v_idiv dX10_canBe_21 (by omega) (by omega) ?_
  refine v_lald dX10_canBe_22 ⟨by decide, rfl⟩ (by omega) (by omega) (by decide) ?_
  refine w_iload_n dX10_canBe_23 rfl ?_
  refine w_bipush (v := iI 6) dX10_canBe_24 (by decide) ?_
  refine v_irem dX10_canBe_26 (by omega) (by omega) ?_
  skip
  refine w_bipush (v := iI 10) dX10_canBe_27 (by decide) ?_
  refine v_imul dX10_canBe_29 ?_
  refine w_lushr dX10_canBe_30 ?_
  refine w_lstore_n dX10_canBe_31 rfl rfl rfl ?_
  refine w_lload_n dX10_canBe_32 rfl ?_
  refine w_ldc2 dX10_canBe_33 (show Cond.constantLong RX10 48 1023 ∈ zm_g from zm_in (by decide +kernel) (by decide +kernel)) ?_
  refine w_land dX10_canBe_36 ?_
  refine w_lconst (v := 0) dX10_canBe_37 (by decide) ?_
  refine w_lcmp dX10_canBe_38 ?_
  refine w_if_eq 46 dX10_canBe_39 (by decide) (fun c39 => ?_) (fun c39 => ?_)
  · refine w_iconst (v := iI 0) dX10_canBe_46 rfl ?_
    refine v_zret dX10_canBe_47 rfl ⟨rfl, rfl⟩ (by decide) ?_
    rw [lg_z] at *
    first | exact hy (by assumption) | exact hn (by assumption)
  · refine w_iconst (v := iI 1) dX10_canBe_42 rfl ?_
    refine w_goto 47 dX10_canBe_43 (by decide) ?_
    refine v_zret dX10_canBe_47 rfl ⟨rfl, rfl⟩ (by decide) ?_
    rw [lg_z] at *
    first | exact hy (by assumption) | exact hn (by assumption)
