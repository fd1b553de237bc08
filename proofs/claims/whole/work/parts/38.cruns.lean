theorem x8_runsCan {I : Nat → Nat → Int32} {J : Nat → Nat → Int64} {F : Option Value → zM → Prop} {wn : Nat} (hL : wRL I J wn) {y f l : Int} (hyy : -1000 ≤ y ∧ y ≤ 1000) (hf : -1000 ≤ f ∧ f ≤ 32) (hfl : f ≤ l + 1) (hl : -1000 ≤ l ∧ l ≤ 1000) (ht : (tchR I wn (fun x => sgAt I y x) f l) → ∀ J' : Nat → Nat → Int64, (∀ id k, id ≠ 140 → id ≠ 141 → J' id k = J id k) → F (some (.int (iI 1))) (gM I J')) (hn : ¬ (tchR I wn (fun x => sgAt I y x) f l) → ∀ J' : Nat → Nat → Int64, (∀ id k, id ≠ 140 → id ≠ 141 → J' id k = J id k) → F (some (.int (iI 0))) (gM I J')) : Cl yX8_runsCan kX8_runsCan [.ref 142, .int (iI y), .int (iI f), .int (iI l), .ref 134] (gM I J) F := by
  refine cl_s (by decide) (by decide) (Nat.le_of_ble_eq_true rfl) rt_z ?_
  show Wp _ F 0 [(0, .ref 142), (1, .int (iI y)), (2, .int (iI f)), (3, .int (iI l)), (4, .ref 134)] [] _
  refine w_iconst (v := iI 0) dX8_runsCan_0 rfl ?_
  refine w_istore dX8_runsCan_1 rfl rfl ?_
  refine w_aload_n dX8_runsCan_3 rfl ?_
  refine w_iload_n dX8_runsCan_4 rfl ?_
  refine w_iload_n dX8_runsCan_5 rfl ?_
  refine v_callV2 dX8_runsCan_6 lX8_84 vX8_startOfRun (by decide) rfl rfl ⟨by decide, rfl⟩ (by decide) rfl (Nat.le_of_ble_eq_true rfl) ?_
  refine x8_startOfRun hyy (by omega) (fun st s1 s2 s3 s4 => ?_)
  refine w_istore dX8_runsCan_9 rfl rfl ?_
  exact (x8_runsCan_l hL hyy hf hfl hl ht hn s1 s2 s3 s4 ((34 - st).toNat + 1) st J (by omega)).1 (by omega) (by omega) (fun a e hr u1 u2 => by have := hr.1; omega) (fun x x1 x2 => by omega) (fun _ _ _ _ => rfl) s4
theorem tch_all {I : Nat → Nat → Int32} {wn : Nat} {y : Int} : tchR I wn (fun x => sgAt I y x) 0 31 ↔ allR I wn (fun x => sgAt I y x) := by
  constructor
  · intro h a e hr
    have b1 := sB_in (sgAt_sB I y) (hr.2.1 a (by omega) hr.1)
    have := hr.1
    exact h a e hr (by omega) (by omega)
  · intro h a e hr _ _
    exact h a e hr
theorem x8_allRunsCan_l {I : Nat → Nat → Int32} {J : Nat → Nat → Int64} {F : Option Value → zM → Prop} {wn : Nat} (hL : wRL I J wn) (ht : (∀ y : Nat, y < 16 → allR I wn (fun x => sgAt I y x)) → ∀ J' : Nat → Nat → Int64, (∀ id k, id ≠ 140 → id ≠ 141 → J' id k = J id k) → F (some (.int (iI 1))) (gM I J')) (hn : ¬ (∀ y : Nat, y < 16 → allR I wn (fun x => sgAt I y x)) → ∀ J' : Nat → Nat → Int64, (∀ id k, id ≠ 140 → id ≠ 141 → J' id k = J id k) → F (some (.int (iI 0))) (gM I J')) : ∀ (nz : Nat) (r : Nat) (J' : Nat → Nat → Int64), 16 - r < nz → r ≤ 16 → (∀ y : Nat, y < r → allR I wn (fun x => sgAt I y x)) → (∀ id k, id ≠ 140 → id ≠ 141 → J' id k = J id k) → Wp (sE kX8_allRunsCan RX8) F 2 [(0, .ref 142), (1, .ref 134), (2, .int (iI (r : Int)))] [] (gM I J') := by
  intro nz
  induction nz with
  | zero =>
    intro r J' hmz hr ha hJ
    exact absurd hmz (Nat.not_lt_zero _)
  | succ nz ih =>
    intro r J' hmz hr ha hJ
    refine w_iload_n dX8_allRunsCan_2 rfl ?_
    refine w_bipush (v := iI 16) dX8_allRunsCan_3 (by decide) ?_
    refine v_icmp_ge 28 dX8_allRunsCan_5 (by decide) (by omega) (by omega) (fun c5 => ?_) (fun c5 => ?_)
    · refine w_iconst (v := iI 1) dX8_allRunsCan_28 rfl ?_
      refine v_zret dX8_allRunsCan_29 rfl ⟨rfl, rfl⟩ (by decide) ?_
      exact ht (fun y hy => ha y (by omega)) J' hJ
    · refine w_aload_n dX8_allRunsCan_8 rfl ?_
      refine w_iload_n dX8_allRunsCan_9 rfl ?_
      refine w_iconst (v := iI 0) dX8_allRunsCan_10 rfl ?_
      refine w_bipush (v := iI 31) dX8_allRunsCan_11 (by decide) ?_
      refine w_aload_n dX8_allRunsCan_13 rfl ?_
      refine v_callV4 dX8_allRunsCan_14 lX8_62 vX8_runsCan (by decide) rfl rfl ⟨by decide, rfl⟩ (by decide) rfl (Nat.le_of_ble_eq_true rfl) ?_
      refine x8_runsCan (wRL_fr hL rfl rfl (fun _ _ => rfl) (fun _ _ => rfl) hJ) (by omega) (by decide) (by decide) (by decide) (fun t1 J1 j1 => ?_) (fun t1 J1 j1 => ?_)
      · refine v_if_ne 22 dX8_allRunsCan_17 (by decide) (by decide) (fun _ => ?_) (fun q => absurd q (by decide))
        refine v_iinc dX8_allRunsCan_22 rfl rfl rfl ?_
        refine w_goto 2 dX8_allRunsCan_25 (by decide) ?_
        refine ih (r + 1) J1 (by omega) (by omega) (fun y hy => ?_) (fun id k u1 u2 => by rw [j1 id k u1 u2]; exact hJ id k u1 u2)
        rcases Nat.lt_succ_iff_lt_or_eq.mp hy with g | g
        · exact ha y g
        · subst g; exact tch_all.mp t1
      · refine v_if_ne 22 dX8_allRunsCan_17 (by decide) (by decide) (fun q => absurd q (by decide)) (fun _ => ?_)
        refine w_iconst (v := iI 0) dX8_allRunsCan_20 rfl ?_
        refine v_zret dX8_allRunsCan_21 rfl ⟨rfl, rfl⟩ (by decide) ?_
        refine hn (fun g => t1 (tch_all.mpr (g r (by omega)))) J1 (fun id k u1 u2 => by rw [j1 id k u1 u2]; exact hJ id k u1 u2)
theorem x8_allRunsCan {I : Nat → Nat → Int32} {J : Nat → Nat → Int64} {F : Option Value → zM → Prop} {wn : Nat} (hL : wRL I J wn) (ht : (∀ y : Nat, y < 16 → allR I wn (fun x => sgAt I y x)) → ∀ J' : Nat → Nat → Int64, (∀ id k, id ≠ 140 → id ≠ 141 → J' id k = J id k) → F (some (.int (iI 1))) (gM I J')) (hn : ¬ (∀ y : Nat, y < 16 → allR I wn (fun x => sgAt I y x)) → ∀ J' : Nat → Nat → Int64, (∀ id k, id ≠ 140 → id ≠ 141 → J' id k = J id k) → F (some (.int (iI 0))) (gM I J')) : Cl yX8_allRunsCan kX8_allRunsCan [.ref 142, .ref 134] (gM I J) F := by
  refine cl_s (by decide) (by decide) (Nat.le_of_ble_eq_true rfl) rt_z ?_
  show Wp _ F 0 [(0, .ref 142), (1, .ref 134)] [] _
  refine w_iconst (v := iI 0) dX8_allRunsCan_0 rfl ?_
  refine w_istore_n dX8_allRunsCan_1 rfl rfl ?_
  exact x8_allRunsCan_l hL ht hn 17 0 J (by omega) (by omega) (fun y hy => by omega) (fun _ _ _ _ => rfl)
theorem x8_followRun_l {I : Nat → Nat → Int32} {J : Nat → Nat → Int64} {F : Option Value → zM → Prop} {wn : Nat} (hL : wRL I J wn) {y cc : Int} (hyy : -1000 ≤ y ∧ y ≤ 1000) (hcc : -1000 ≤ cc ∧ cc ≤ 1000) (htc : isTx (sgAt I y cc)) (h : ∀ a e : Int, isRun (fun x => sgAt I y x) a e → a ≤ cc → cc < e → ∀ J' : Nat → Nat → Int64, wRE I J J' wn (fun j => sgAt I y (a + j)) (c44 (sgAt I y (a - 1))) (c44 (sgAt I y e)) (e - a).toNat → F none (gM I J')) {st : Int} (s1 : st ≤ cc) (s2 : 0 ≤ st ∨ st = cc) (s3 : ∀ x, st ≤ x → x < cc → isTx (sgAt I y x)) (s4 : ¬ isTx (sgAt I y (st - 1))) : ∀ (nz : Nat) (n : Nat) (J' : Nat → Nat → Int64), (1002 - (st + n)).toNat < nz → (∀ x, st ≤ x → x < st + n → isTx (sgAt I y x)) → st + n ≤ 1001 → wRS I J J' wn (fun j => sgAt I y (st + j)) (c44 (sgAt I y (st - 1))) n → Wp (sE kX8_followRun RX8) F 35 [(0, .ref 142), (1, .int (iI y)), (2, .int (iI cc)), (3, .ref 134), (4, .int (iI st)), (5, .int (iI (st + (n : Int))))] [] (gM I J') := by
  intro nz
  induction nz with
  | zero =>
    intro n J' hmz htx hnb hr
    exact absurd hmz (Nat.not_lt_zero _)
  | succ nz ih =>
    intro n J' hmz htx hnb hr
    refine w_iload dX8_followRun_35 rfl ?_
    refine w_bipush (v := iI 32) dX8_followRun_37 (by decide) ?_
    refine v_icmp_ge 72 dX8_followRun_39 (by decide) (by omega) (by omega) (fun c39 => ?_) (fun c39 => ?_)
    · refine w_aload_n dX8_followRun_72 rfl ?_
      refine w_aload_n dX8_followRun_73 rfl ?_
      refine w_iload_n dX8_followRun_74 rfl ?_
      refine w_iload dX8_followRun_75 rfl ?_
      refine v_callV2 dX8_followRun_77 lX8_87 vX8_signAt (by decide) rfl rfl ⟨by decide, rfl⟩ (by decide) rfl (Nat.le_of_ble_eq_true rfl) ?_
      refine x8_signAt (by omega) (by omega) (fun z77 e77 b77 => ?_)
      refine w_bipush (v := iI 44) dX8_followRun_80 (by decide) ?_
      refine v_icmp_ne 89 dX8_followRun_82 (by decide) (by omega) (by omega) (fun c82 => ?_) (fun c82 => ?_)
      · refine w_iconst (v := iI 0) dX8_followRun_89 rfl ?_
        refine v_callV1 dX8_followRun_90 lX8_101 vX10_endRun (by decide) rfl rfl ⟨by decide, rfl⟩ (by decide) rfl (Nat.le_of_ble_eq_true rfl) ?_
        refine x10_endRun (by decide) (fun J1 j1 => ?_)
        refine v_vret dX8_followRun_93 rfl ⟨rfl, rfl⟩ ?_
        have hnx : ¬ isTx (sgAt I y (st + n)) := by
          first | exact q49 | exact fun g => by have := sB_in (sgAt_sB I y) g; omega
        have h1 : cc < st + n := by
          apply Classical.byContradiction
          intro g
          by_cases g2 : st + (n : Int) = cc
          · exact absurd htc (by rw [← g2]; exact hnx)
          · exact hnx (s3 _ (by omega) (by omega))
        have re : wRE I J J1 wn (fun j => sgAt I y (st + (j : Nat))) (c44 (sgAt I y (st - 1))) (c44 (sgAt I y (st + n))) n := wRS_end hL hr (by omega) (fun id k => by
          rw [j1 id k]
          rw [e77] at c82
          unfold c44
          first | rw [if_pos c82] | rw [if_neg c82])
        refine h st (st + n) ⟨by omega, fun x x1 x2 => htx x x1 x2, s4, hnx⟩ s1 h1 J1 ?_
        rw [show (st + (n : Int) - st).toNat = n by omega]
        exact re
      · refine w_iconst (v := iI 1) dX8_followRun_85 rfl ?_
        refine w_goto 90 dX8_followRun_86 (by decide) ?_
        refine v_callV1 dX8_followRun_90 lX8_101 vX10_endRun (by decide) rfl rfl ⟨by decide, rfl⟩ (by decide) rfl (Nat.le_of_ble_eq_true rfl) ?_
        refine x10_endRun (by decide) (fun J1 j1 => ?_)
        refine v_vret dX8_followRun_93 rfl ⟨rfl, rfl⟩ ?_
        have hnx : ¬ isTx (sgAt I y (st + n)) := by
          first | exact q49 | exact fun g => by have := sB_in (sgAt_sB I y) g; omega
        have h1 : cc < st + n := by
          apply Classical.byContradiction
          intro g
          by_cases g2 : st + (n : Int) = cc
          · exact absurd htc (by rw [← g2]; exact hnx)
          · exact hnx (s3 _ (by omega) (by omega))
        have re : wRE I J J1 wn (fun j => sgAt I y (st + (j : Nat))) (c44 (sgAt I y (st - 1))) (c44 (sgAt I y (st + n))) n := wRS_end hL hr (by omega) (fun id k => by
          rw [j1 id k]
          rw [e77] at c82
          unfold c44
          first | rw [if_pos c82] | rw [if_neg c82])
        refine h st (st + n) ⟨by omega, fun x x1 x2 => htx x x1 x2, s4, hnx⟩ s1 h1 J1 ?_
        rw [show (st + (n : Int) - st).toNat = n by omega]
        exact re
    · refine w_aload_n dX8_followRun_42 rfl ?_
      refine w_iload_n dX8_followRun_43 rfl ?_
      refine w_iload dX8_followRun_44 rfl ?_
      refine v_callV2 dX8_followRun_46 lX8_87 vX8_signAt (by decide) rfl rfl ⟨by decide, rfl⟩ (by decide) rfl (Nat.le_of_ble_eq_true rfl) ?_
      refine x8_signAt (by omega) (by omega) (fun z46 e46 b46 => ?_)
      refine v_callSN1 dX8_followRun_49 lX8_90 vX11_isText (by decide) rfl rfl (Nat.le_of_ble_eq_true rfl) ?_
      refine x11_isText (by omega) (fun q49 => ?_) (fun q49 => ?_)
      all_goals rw [e46] at q49
      · refine v_if_eq 72 dX8_followRun_52 (by decide) (by decide) (fun q => absurd q (by decide)) (fun _ => ?_)
        refine w_aload_n dX8_followRun_55 rfl ?_
        refine w_aload_n dX8_followRun_56 rfl ?_
        refine w_iload_n dX8_followRun_57 rfl ?_
        refine w_iload dX8_followRun_58 rfl ?_
        refine v_callV2 dX8_followRun_60 lX8_87 vX8_signAt (by decide) rfl rfl ⟨by decide, rfl⟩ (by decide) rfl (Nat.le_of_ble_eq_true rfl) ?_
        refine x8_signAt (by omega) (by omega) (fun z60 e60 b60 => ?_)
        refine v_callV1 dX8_followRun_63 lX8_98 vX10_nextSign (by decide) rfl rfl ⟨by decide, rfl⟩ (by decide) rfl (Nat.le_of_ble_eq_true rfl) ?_
        refine x10_nextSign (by omega) (fun x J2 g1 g2 g3 g4 g5 => ?_)
        refine v_iinc dX8_followRun_66 rfl rfl rfl ?_
        refine w_goto 35 dX8_followRun_69 (by decide) ?_
        have ex : (sgAt I y (st + ((n : Nat) : Int))) = z60 := e60.symm
        have r1 := wRS_next hL hr g1 g2 (show isLt (sgAt I y (st + ((n : Nat) : Int))) → x = sgAt I y (st + ((n : Nat) : Int)) - 97 by rw [ex]; exact g3) (show ¬ isLt (sgAt I y (st + ((n : Nat) : Int))) → x = 26 by rw [ex]; exact g4) g5
        rw [show st + (n : Int) + 1 = st + ((n + 1 : Nat) : Int) by omega]
        refine ih (n + 1) J2 (by omega) (fun x x1 x2 => ?_) (by omega) r1
        by_cases g : x = st + n
        · rw [g]; exact q49
        · exact htx x x1 (by omega)
      · refine v_if_eq 72 dX8_followRun_52 (by decide) (by decide) (fun _ => ?_) (fun q => absurd q (by decide))
        refine w_aload_n dX8_followRun_72 rfl ?_
        refine w_aload_n dX8_followRun_73 rfl ?_
        refine w_iload_n dX8_followRun_74 rfl ?_
        refine w_iload dX8_followRun_75 rfl ?_
        refine v_callV2 dX8_followRun_77 lX8_87 vX8_signAt (by decide) rfl rfl ⟨by decide, rfl⟩ (by decide) rfl (Nat.le_of_ble_eq_true rfl) ?_
        refine x8_signAt (by omega) (by omega) (fun z77 e77 b77 => ?_)
        refine w_bipush (v := iI 44) dX8_followRun_80 (by decide) ?_
        refine v_icmp_ne 89 dX8_followRun_82 (by decide) (by omega) (by omega) (fun c82 => ?_) (fun c82 => ?_)
        · refine w_iconst (v := iI 0) dX8_followRun_89 rfl ?_
          refine v_callV1 dX8_followRun_90 lX8_101 vX10_endRun (by decide) rfl rfl ⟨by decide, rfl⟩ (by decide) rfl (Nat.le_of_ble_eq_true rfl) ?_
          refine x10_endRun (by decide) (fun J1 j1 => ?_)
          refine v_vret dX8_followRun_93 rfl ⟨rfl, rfl⟩ ?_
          have hnx : ¬ isTx (sgAt I y (st + n)) := by
            first | exact q49 | exact fun g => by have := sB_in (sgAt_sB I y) g; omega
          have h1 : cc < st + n := by
            apply Classical.byContradiction
            intro g
            by_cases g2 : st + (n : Int) = cc
            · exact absurd htc (by rw [← g2]; exact hnx)
            · exact hnx (s3 _ (by omega) (by omega))
          have re : wRE I J J1 wn (fun j => sgAt I y (st + (j : Nat))) (c44 (sgAt I y (st - 1))) (c44 (sgAt I y (st + n))) n := wRS_end hL hr (by omega) (fun id k => by
            rw [j1 id k]
            rw [e77] at c82
            unfold c44
            first | rw [if_pos c82] | rw [if_neg c82])
          refine h st (st + n) ⟨by omega, fun x x1 x2 => htx x x1 x2, s4, hnx⟩ s1 h1 J1 ?_
          rw [show (st + (n : Int) - st).toNat = n by omega]
          exact re
        · refine w_iconst (v := iI 1) dX8_followRun_85 rfl ?_
          refine w_goto 90 dX8_followRun_86 (by decide) ?_
          refine v_callV1 dX8_followRun_90 lX8_101 vX10_endRun (by decide) rfl rfl ⟨by decide, rfl⟩ (by decide) rfl (Nat.le_of_ble_eq_true rfl) ?_
          refine x10_endRun (by decide) (fun J1 j1 => ?_)
          refine v_vret dX8_followRun_93 rfl ⟨rfl, rfl⟩ ?_
          have hnx : ¬ isTx (sgAt I y (st + n)) := by
            first | exact q49 | exact fun g => by have := sB_in (sgAt_sB I y) g; omega
          have h1 : cc < st + n := by
            apply Classical.byContradiction
            intro g
            by_cases g2 : st + (n : Int) = cc
            · exact absurd htc (by rw [← g2]; exact hnx)
            · exact hnx (s3 _ (by omega) (by omega))
          have re : wRE I J J1 wn (fun j => sgAt I y (st + (j : Nat))) (c44 (sgAt I y (st - 1))) (c44 (sgAt I y (st + n))) n := wRS_end hL hr (by omega) (fun id k => by
            rw [j1 id k]
            rw [e77] at c82
            unfold c44
            first | rw [if_pos c82] | rw [if_neg c82])
          refine h st (st + n) ⟨by omega, fun x x1 x2 => htx x x1 x2, s4, hnx⟩ s1 h1 J1 ?_
          rw [show (st + (n : Int) - st).toNat = n by omega]
          exact re
theorem x8_followRun {I : Nat → Nat → Int32} {J : Nat → Nat → Int64} {F : Option Value → zM → Prop} {wn : Nat} (hL : wRL I J wn) {y cc : Int} (hyy : -1000 ≤ y ∧ y ≤ 1000) (hcc : -1000 ≤ cc ∧ cc ≤ 1000) (htc : isTx (sgAt I y cc)) (h : ∀ a e : Int, isRun (fun x => sgAt I y x) a e → a ≤ cc → cc < e → ∀ J' : Nat → Nat → Int64, wRE I J J' wn (fun j => sgAt I y (a + j)) (c44 (sgAt I y (a - 1))) (c44 (sgAt I y e)) (e - a).toNat → F none (gM I J')) : Cl yX8_followRun kX8_followRun [.ref 142, .int (iI y), .int (iI cc), .ref 134] (gM I J) F := by
  refine cl_s (by decide) (by decide) (Nat.le_of_ble_eq_true rfl) rt_v ?_
  show Wp _ F 0 [(0, .ref 142), (1, .int (iI y)), (2, .int (iI cc)), (3, .ref 134)] [] _
  refine w_aload_n dX8_followRun_0 rfl ?_
  refine w_iload_n dX8_followRun_1 rfl ?_
  refine w_iload_n dX8_followRun_2 rfl ?_
  refine v_callV2 dX8_followRun_3 lX8_84 vX8_startOfRun (by decide) rfl rfl ⟨by decide, rfl⟩ (by decide) rfl (Nat.le_of_ble_eq_true rfl) ?_
  refine x8_startOfRun hyy (by omega) (fun st s1 s2 s3 s4 => ?_)
  refine w_istore dX8_followRun_6 rfl rfl ?_
  refine w_aload_n dX8_followRun_8 rfl ?_
  refine w_aload_n dX8_followRun_9 rfl ?_
  refine w_iload_n dX8_followRun_10 rfl ?_
  refine w_iload dX8_followRun_11 rfl ?_
  refine w_iconst (v := iI 1) dX8_followRun_13 rfl ?_
  refine v_isub dX8_followRun_14 ?_
  refine v_callV2 dX8_followRun_15 lX8_87 vX8_signAt (by decide) rfl rfl ⟨by decide, rfl⟩ (by decide) rfl (Nat.le_of_ble_eq_true rfl) ?_
  refine x8_signAt (by omega) (by omega) (fun z15 e15 b15 => ?_)
  refine w_bipush (v := iI 44) dX8_followRun_18 (by decide) ?_
  refine v_icmp_ne 27 dX8_followRun_20 (by decide) (by omega) (by omega) (fun c20 => ?_) (fun c20 => ?_)
  · refine w_iconst (v := iI 0) dX8_followRun_27 rfl ?_
    refine v_callV1 dX8_followRun_28 lX8_94 vX10_beginRun (by decide) rfl rfl ⟨by decide, rfl⟩ (by decide) rfl (Nat.le_of_ble_eq_true rfl) ?_
    refine x10_beginRun (by decide) (fun J1 j1 => ?_)
    refine w_iload dX8_followRun_31 rfl ?_
    refine w_istore dX8_followRun_33 rfl rfl ?_
    have r0 : wRS I J J1 wn (fun j => sgAt I y (st + (j : Nat))) (c44 (sgAt I y (st - 1))) 0 := wRS_begin hL (fun _ _ _ _ => rfl) (fun id k => by
      rw [j1 id k]
      rw [e15] at c20
      rw [c44_if]
      first | (rw [if_pos c20]; simp; done) | (rw [if_neg c20]; simp; done))
    have ll := x8_followRun_l hL hyy hcc htc h s1 s2 s3 s4 ((1002 - st).toNat + 1) 0 J1 (by omega) (fun x x1 x2 => by omega) (by omega) r0
    rw [show st + ((0 : Nat) : Int) = st by omega] at ll
    exact ll
  · refine w_iconst (v := iI 1) dX8_followRun_23 rfl ?_
    refine w_goto 28 dX8_followRun_24 (by decide) ?_
    refine v_callV1 dX8_followRun_28 lX8_94 vX10_beginRun (by decide) rfl rfl ⟨by decide, rfl⟩ (by decide) rfl (Nat.le_of_ble_eq_true rfl) ?_
    refine x10_beginRun (by decide) (fun J1 j1 => ?_)
    refine w_iload dX8_followRun_31 rfl ?_
    refine w_istore dX8_followRun_33 rfl rfl ?_
    have r0 : wRS I J J1 wn (fun j => sgAt I y (st + (j : Nat))) (c44 (sgAt I y (st - 1))) 0 := wRS_begin hL (fun _ _ _ _ => rfl) (fun id k => by
      rw [j1 id k]
      rw [e15] at c20
      rw [c44_if]
      first | (rw [if_pos c20]; simp; done) | (rw [if_neg c20]; simp; done))
    have ll := x8_followRun_l hL hyy hcc htc h s1 s2 s3 s4 ((1002 - st).toNat + 1) 0 J1 (by omega) (fun x x1 x2 => by omega) (by omega) r0
    rw [show st + ((0 : Nat) : Int) = st by omega] at ll
    exact ll
noncomputable def cBb (I : Nat → Nat → Int32) (s : Int → Int) (a e : Int) (w : Nat) : Bool := @decide (cB I (fun j => s (a + j)) (e - a).toNat (c44 (s (a - 1))) (c44 (s e)) w) (Classical.propDecidable _)
theorem cBb_iff {I : Nat → Nat → Int32} {s : Int → Int} {a e : Int} {w : Nat} : cBb I s a e w = true ↔ cB I (fun j => s (a + j)) (e - a).toNat (c44 (s (a - 1))) (c44 (s e)) w := by
  unfold cBb; exact @decide_eq_true_iff _ (Classical.propDecidable _)
theorem tx_in {I : Nat → Nat → Int32} {y x : Int} (h : isTx (sgAt I y x)) : (0 ≤ y ∧ y < 16) ∧ 0 ≤ x ∧ x < 32 := by
  unfold sgAt at h
  by_cases g : inS y x
  · have : (0 ≤ y ∧ y < 16 ∧ 0 ≤ x ∧ x < 32) := g
    omega
  · rw [if_neg g] at h; exact absurd h (by decide)
theorem x11_words_l {I : Nat → Nat → Int32} {J : Nat → Nat → Int64} {F : Option Value → zM → Prop} {wn : Nat} (hL : wRL I J wn) {r c : Int} {a e : Int} (hy : ∀ J' : Nat → Nat → Int64, (∀ id k, id ≠ 140 → id ≠ 141 → J' id k = J id k) → F (some (.int (iI (cn (cBb I (fun x => sgAt I r x) a e) wn)))) (gM I J')) {J' : Nat → Nat → Int64} (hE : wRE I J J' wn (fun j => sgAt I r (a + j)) (c44 (sgAt I r (a - 1))) (c44 (sgAt I r e)) (e - a).toNat) : ∀ (nz : Nat) (k : Nat), wn - k < nz → k ≤ wn → Wp (sE kX11_words RX11) F 35 [(0, .ref 0), (1, .int (iI r)), (2, .int (iI c)), (3, .int (iI (cn (cBb I (fun x => sgAt I r x) a e) k))), (4, .int (iI (k : Int)))] [] (gM I J') := by
  intro nz
  induction nz with
  | zero =>
    intro k hmz hk
    exact absurd hmz (Nat.not_lt_zero _)
  | succ nz ih =>
    intro k hmz hk
    refine w_iload dX11_words_35 rfl ?_
    refine w_aload_n dX11_words_37 rfl ?_
    refine v_getR (j := 134) dX11_words_38 fX11_28 ⟨by decide, rfl⟩ rfl rfl ?_
    refine v_getI dX11_words_41 fX11_107 ⟨by decide, rfl⟩ (Or.inl rfl) (fun z41 e41 b41 => ?_)
    have f41 : z41 = wn := by rw [e41]; exact hL.c
    refine v_icmp_ge 68 dX11_words_44 (by decide) (by omega) (by omega) (fun c44 => ?_) (fun c44 => ?_)
    · refine w_iload_n dX11_words_68 rfl ?_
      refine v_iret dX11_words_69 rfl ⟨rfl, rfl⟩ ?_
      have g : k = wn := by omega
      subst g
      exact hy J' hE.f
    · refine w_aload_n dX11_words_47 rfl ?_
      refine v_getR (j := 134) dX11_words_48 fX11_28 ⟨by decide, rfl⟩ rfl rfl ?_
      refine w_iload dX11_words_51 rfl ?_
      refine v_callV1 dX11_words_53 lX11_156 vX10_canBe (by decide) rfl rfl ⟨by decide, rfl⟩ (by decide) rfl (Nat.le_of_ble_eq_true rfl) ?_
      refine x10_canBe (k := k) (wn := wn) hL.c hL.le (by omega) (fun q53 => ?_) (fun q53 => ?_)
      · refine v_if_eq 62 dX11_words_56 (by decide) (by decide) (fun q => absurd q (by decide)) (fun _ => ?_)
        refine v_iinc dX11_words_59 rfl rfl rfl ?_
        refine v_iinc dX11_words_62 rfl rfl rfl ?_
        refine w_goto 35 dX11_words_65 (by decide) ?_
        have e1 : cn (cBb I (fun x => sgAt I r x) a e) (k + 1) = cn (cBb I (fun x => sgAt I r x) a e) k + (if cBb I (fun x => sgAt I r x) a e k = true then 1 else 0) := by
          rw [cn]
        first
          | (rw [if_pos (cBb_iff.mpr ((wRE_canBe hE (by omega)).mp q53))] at e1
             rw [← e1]
             exact ih (k + 1) (by omega) (by omega))
          | (rw [if_neg (fun g => ((wRE_canBe hE (by omega)).mpr (cBb_iff.mp g)) q53), Int.add_zero] at e1
             rw [← e1]
             exact ih (k + 1) (by omega) (by omega))
      · refine v_if_eq 62 dX11_words_56 (by decide) (by decide) (fun _ => ?_) (fun q => absurd q (by decide))
        refine v_iinc dX11_words_62 rfl rfl rfl ?_
        refine w_goto 35 dX11_words_65 (by decide) ?_
        have e1 : cn (cBb I (fun x => sgAt I r x) a e) (k + 1) = cn (cBb I (fun x => sgAt I r x) a e) k + (if cBb I (fun x => sgAt I r x) a e k = true then 1 else 0) := by
          rw [cn]
        first
          | (rw [if_pos (cBb_iff.mpr ((wRE_canBe hE (by omega)).mp q53))] at e1
             rw [← e1]
             exact ih (k + 1) (by omega) (by omega))
          | (rw [if_neg (fun g => ((wRE_canBe hE (by omega)).mpr (cBb_iff.mp g)) q53), Int.add_zero] at e1
             rw [← e1]
             exact ih (k + 1) (by omega) (by omega))
theorem x11_words {I : Nat → Nat → Int32} {J : Nat → Nat → Int64} {F : Option Value → zM → Prop} {wn : Nat} (hL : wRL I J wn) {r c : Int} (br : -2147483648 ≤ r ∧ r < 2147483648) (bc : -2147483648 ≤ c ∧ c < 2147483648) (hn : ¬ isTx (sgAt I r c) → F (some (.int (iI (-1)))) (gM I J)) (hy : isTx (sgAt I r c) → ∀ a e : Int, isRun (fun x => sgAt I r x) a e → a ≤ c → c < e → ∀ J' : Nat → Nat → Int64, (∀ id k, id ≠ 140 → id ≠ 141 → J' id k = J id k) → F (some (.int (iI (cn (cBb I (fun x => sgAt I r x) a e) wn)))) (gM I J')) : Cl yX11_words kX11_words [.ref 0, .int (iI r), .int (iI c)] (gM I J) F := by
  refine cl_s (by decide) (by decide) (Nat.le_of_ble_eq_true rfl) rt_i ?_
  show Wp _ F 0 [(0, .ref 0), (1, .int (iI r)), (2, .int (iI c))] [] _
  refine w_aload_n dX11_words_0 rfl ?_
  refine v_getR (j := 142) dX11_words_1 fX11_35 ⟨by decide, rfl⟩ rfl rfl ?_
  refine w_iload_n dX11_words_4 rfl ?_
  refine w_iload_n dX11_words_5 rfl ?_
  refine v_callV2 dX11_words_6 lX11_142 vX8_signAt (by decide) rfl rfl ⟨by decide, rfl⟩ (by decide) rfl (Nat.le_of_ble_eq_true rfl) ?_
  refine x8_signAt (by omega) (by omega) (fun z6 e6 b6 => ?_)
  refine v_callS1 dX11_words_9 lX11_149 vX11_isText (by decide) rfl rfl (Nat.le_of_ble_eq_true rfl) ?_
  refine x11_isText (by omega) (fun q9 => ?_) (fun q9 => ?_)
  all_goals rw [e6] at q9
  · refine v_if_ne 17 dX11_words_12 (by decide) (by decide) (fun _ => ?_) (fun q => absurd q (by decide))
    refine w_aload_n dX11_words_17 rfl ?_
    refine v_getR (j := 142) dX11_words_18 fX11_35 ⟨by decide, rfl⟩ rfl rfl ?_
    refine w_iload_n dX11_words_21 rfl ?_
    refine w_iload_n dX11_words_22 rfl ?_
    refine w_aload_n dX11_words_23 rfl ?_
    refine v_getR (j := 134) dX11_words_24 fX11_28 ⟨by decide, rfl⟩ rfl rfl ?_
    refine v_callV3 dX11_words_27 lX11_152 vX8_followRun (by decide) rfl rfl ⟨by decide, rfl⟩ (by decide) rfl (Nat.le_of_ble_eq_true rfl) ?_
    have hin := tx_in q9
    refine x8_followRun hL (by omega) (by omega) q9 (fun a e hr u1 u2 J' hE => ?_)
    refine w_iconst (v := iI 0) dX11_words_30 rfl ?_
    refine w_istore_n dX11_words_31 rfl rfl ?_
    refine w_iconst (v := iI 0) dX11_words_32 rfl ?_
    refine w_istore dX11_words_33 rfl rfl ?_
    exact x11_words_l hL (fun J'' j => hy q9 a e hr u1 u2 J'' j) hE (wn + 1) 0 (by omega) (by omega)
  · refine v_if_ne 17 dX11_words_12 (by decide) (by decide) (fun q => absurd q (by decide)) (fun _ => ?_)
    refine w_iconst (v := iI (-1)) dX11_words_15 rfl ?_
    refine v_iret dX11_words_16 rfl ⟨rfl, rfl⟩ ?_
    exact hn q9
theorem x11_read_l {I : Nat → Nat → Int32} {J : Nat → Nat → Int64} {F : Option Value → zM → Prop} {wn : Nat} (hL : wRL I J wn) {r c t : Int} (bt : -2147483648 ≤ t ∧ t < 2147483648) {a e : Int} (hy : ∀ J' : Nat → Nat → Int64, (∀ id k, id ≠ 140 → id ≠ 141 → J' id k = J id k) → F (some (.int (iI (kf (cBb I (fun x => sgAt I r x) a e) (fun w => (w : Int)) t (-1) wn)))) (gM I J')) {J' : Nat → Nat → Int64} (hE : wRE I J J' wn (fun j => sgAt I r (a + j)) (c44 (sgAt I r (a - 1))) (c44 (sgAt I r e)) (e - a).toNat) : ∀ (nz : Nat) (k : Nat) (u : Int), wn - k < nz → k ≤ wn → u = cn (cBb I (fun x => sgAt I r x) a e) k → (∀ j, j < k → (cBb I (fun x => sgAt I r x) a e) j = true → cn (cBb I (fun x => sgAt I r x) a e) j ≠ t) → Wp (sE kX11_read RX11) F 40 [(0, .ref 0), (1, .int (iI r)), (2, .int (iI c)), (3, .int (iI t)), (4, .int (iI u)), (5, .int (iI (k : Int)))] [] (gM I J') := by
  intro nz
  induction nz with
  | zero =>
    intro k u hmz hk ha hno
    exact absurd hmz (Nat.not_lt_zero _)
  | succ nz ih =>
    intro k u hmz hk ha hno
    refine w_iload dX11_read_40 rfl ?_
    refine w_aload_n dX11_read_42 rfl ?_
    refine v_getR (j := 134) dX11_read_43 fX11_28 ⟨by decide, rfl⟩ rfl rfl ?_
    refine v_getI dX11_read_46 fX11_107 ⟨by decide, rfl⟩ (Or.inl rfl) (fun z46 e46 b46 => ?_)
    have f46 : z46 = wn := by rw [e46]; exact hL.c
    have bcn := cn_bd (cBb I (fun x => sgAt I r x) a e) k
    refine v_icmp_ge 82 dX11_read_49 (by decide) (by omega) (by omega) (fun c49 => ?_) (fun c49 => ?_)
    · refine w_iconst (v := iI (-1)) dX11_read_82 rfl ?_
      refine v_iret dX11_read_83 rfl ⟨rfl, rfl⟩ ?_
      have g : k = wn := by omega
      subst g
      rw [kf_none hno] at hy
      exact hy J' hE.f
    · refine w_aload_n dX11_read_52 rfl ?_
      refine v_getR (j := 134) dX11_read_53 fX11_28 ⟨by decide, rfl⟩ rfl rfl ?_
      refine w_iload dX11_read_56 rfl ?_
      refine v_callV1 dX11_read_58 lX11_156 vX10_canBe (by decide) rfl rfl ⟨by decide, rfl⟩ (by decide) rfl (Nat.le_of_ble_eq_true rfl) ?_
      refine x10_canBe (k := k) (wn := wn) hL.c hL.le (by omega) (fun q58 => ?_) (fun q58 => ?_)
      · refine v_if_eq 76 dX11_read_61 (by decide) (by decide) (fun q => absurd q (by decide)) (fun _ => ?_)
        refine w_iload dX11_read_64 rfl ?_
        refine w_iload_n dX11_read_66 rfl ?_
        refine v_icmp_ne 73 dX11_read_67 (by decide) (by omega) (by omega) (fun c67 => ?_) (fun c67 => ?_)
        · refine v_iinc dX11_read_73 rfl rfl rfl ?_
          refine v_iinc dX11_read_76 rfl rfl rfl ?_
          refine w_goto 40 dX11_read_79 (by decide) ?_
          refine ih (k + 1) _ (by omega) (by omega) ?_ (fun j hj gj => ?_)
          · rw [cn, ← ha]
            first | (rw [if_pos (cBb_iff.mpr ((wRE_canBe hE (by omega)).mp q58))]; done) | (rw [if_neg (fun g => ((wRE_canBe hE (by omega)).mpr (cBb_iff.mp g)) q58)]; omega)
          · rcases Nat.lt_succ_iff_lt_or_eq.mp hj with g | g
            · exact hno j g gj
            · subst g
              first | exact absurd ((wRE_canBe hE (by omega)).mpr (cBb_iff.mp gj)) (by rw [q58]; exact fun u => u rfl) | (rw [← ha]; omega)
        · refine w_iload dX11_read_70 rfl ?_
          refine v_iret dX11_read_72 rfl ⟨rfl, rfl⟩ ?_
          rw [kf_at (h := k) (cBb_iff.mpr ((wRE_canBe hE (by omega)).mp q58)) (by rw [← ha]; omega) (by omega)] at hy
          exact hy J' hE.f
      · refine v_if_eq 76 dX11_read_61 (by decide) (by decide) (fun _ => ?_) (fun q => absurd q (by decide))
        refine v_iinc dX11_read_76 rfl rfl rfl ?_
        refine w_goto 40 dX11_read_79 (by decide) ?_
        refine ih (k + 1) _ (by omega) (by omega) ?_ (fun j hj gj => ?_)
        · rw [cn, ← ha]
          first | (rw [if_pos (cBb_iff.mpr ((wRE_canBe hE (by omega)).mp q58))]; done) | (rw [if_neg (fun g => ((wRE_canBe hE (by omega)).mpr (cBb_iff.mp g)) q58)]; omega)
        · rcases Nat.lt_succ_iff_lt_or_eq.mp hj with g | g
          · exact hno j g gj
          · subst g
            first | exact absurd ((wRE_canBe hE (by omega)).mpr (cBb_iff.mp gj)) (by rw [q58]; exact fun u => u rfl) | (rw [← ha]; omega)
theorem x11_read {I : Nat → Nat → Int32} {J : Nat → Nat → Int64} {F : Option Value → zM → Prop} {wn : Nat} (hL : wRL I J wn) {r c t : Int} (br : -2147483648 ≤ r ∧ r < 2147483648) (bc : -2147483648 ≤ c ∧ c < 2147483648) (bt : -2147483648 ≤ t ∧ t < 2147483648) (hn : ¬ (0 ≤ t ∧ isTx (sgAt I r c)) → F (some (.int (iI (-1)))) (gM I J)) (hy : (0 ≤ t ∧ isTx (sgAt I r c)) → ∀ a e : Int, isRun (fun x => sgAt I r x) a e → a ≤ c → c < e → ∀ J' : Nat → Nat → Int64, (∀ id k, id ≠ 140 → id ≠ 141 → J' id k = J id k) → F (some (.int (iI (kf (cBb I (fun x => sgAt I r x) a e) (fun w => (w : Int)) t (-1) wn)))) (gM I J')) : Cl yX11_read kX11_read [.ref 0, .int (iI r), .int (iI c), .int (iI t)] (gM I J) F := by
  refine cl_s (by decide) (by decide) (Nat.le_of_ble_eq_true rfl) rt_i ?_
  show Wp _ F 0 [(0, .ref 0), (1, .int (iI r)), (2, .int (iI c)), (3, .int (iI t))] [] _
  refine w_iload_n dX11_read_0 rfl ?_
  refine v_if_lt 19 dX11_read_1 (by decide) (by omega) (fun c1 => ?_) (fun c1 => ?_)
  · refine w_iconst (v := iI (-1)) dX11_read_19 rfl ?_
    refine v_iret dX11_read_20 rfl ⟨rfl, rfl⟩ ?_
    first | exact hn (fun g => q13 g.2) | exact hn (fun g => by omega)
  · refine w_aload_n dX11_read_4 rfl ?_
    refine v_getR (j := 142) dX11_read_5 fX11_35 ⟨by decide, rfl⟩ rfl rfl ?_
    refine w_iload_n dX11_read_8 rfl ?_
    refine w_iload_n dX11_read_9 rfl ?_
    refine v_callV2 dX11_read_10 lX11_142 vX8_signAt (by decide) rfl rfl ⟨by decide, rfl⟩ (by decide) rfl (Nat.le_of_ble_eq_true rfl) ?_
    refine x8_signAt (by omega) (by omega) (fun z10 e10 b10 => ?_)
    refine v_callS1 dX11_read_13 lX11_149 vX11_isText (by decide) rfl rfl (Nat.le_of_ble_eq_true rfl) ?_
    refine x11_isText (by omega) (fun q13 => ?_) (fun q13 => ?_)
    all_goals rw [e10] at q13
    · refine v_if_ne 21 dX11_read_16 (by decide) (by decide) (fun _ => ?_) (fun q => absurd q (by decide))
      refine w_aload_n dX11_read_21 rfl ?_
      refine v_getR (j := 142) dX11_read_22 fX11_35 ⟨by decide, rfl⟩ rfl rfl ?_
      refine w_iload_n dX11_read_25 rfl ?_
      refine w_iload_n dX11_read_26 rfl ?_
      refine w_aload_n dX11_read_27 rfl ?_
      refine v_getR (j := 134) dX11_read_28 fX11_28 ⟨by decide, rfl⟩ rfl rfl ?_
      refine v_callV3 dX11_read_31 lX11_152 vX8_followRun (by decide) rfl rfl ⟨by decide, rfl⟩ (by decide) rfl (Nat.le_of_ble_eq_true rfl) ?_
      have hin := tx_in q13
      refine x8_followRun hL (by omega) (by omega) q13 (fun a e hr u1 u2 J' hE => ?_)
      refine w_iconst (v := iI 0) dX11_read_34 rfl ?_
      refine w_istore dX11_read_35 rfl rfl ?_
      refine w_iconst (v := iI 0) dX11_read_37 rfl ?_
      refine w_istore dX11_read_38 rfl rfl ?_
      exact x11_read_l hL bt (fun J'' j => hy ⟨by omega, q13⟩ a e hr u1 u2 J'' j) hE (wn + 1) 0 0 (by omega) (by omega) rfl (fun j hj => by omega)
    · refine v_if_ne 21 dX11_read_16 (by decide) (by decide) (fun q => absurd q (by decide)) (fun _ => ?_)
      refine w_iconst (v := iI (-1)) dX11_read_19 rfl ?_
      refine v_iret dX11_read_20 rfl ⟨rfl, rfl⟩ ?_
      first | exact hn (fun g => q13 g.2) | exact hn (fun g => by omega)
