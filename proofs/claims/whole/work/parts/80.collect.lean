/-! Places: collect, best, listTouching -/
theorem x5_add_a {I : Nat → Nat → Int32} {J : Nat → Nat → Int64} {F : Option Value → zM → Prop} {R C g t : Int} (bR : -2147483648 ≤ R ∧ R < 2147483648) (bC : -2147483648 ≤ C ∧ C < 2147483648) (bg : -2147483648 ≤ g ∧ g < 2147483648) (ht : t = 0 ∨ t = 1) {m : Nat} (hc : rd I 152 4 = m) (hm : m < 512) (h : F none (gM (pW I 152 m R C g t) J)) : Cl yX5_add kX5_add [.ref 152, .int (iI R), .int (iI C), .int (iI g), .int (iI t)] (gM I J) F := by
  refine cl_s (by decide) (by decide) (Nat.le_of_ble_eq_true rfl) rt_v ?_
  show Wp _ F 0 [(0, .ref 152), (1, .int (iI R)), (2, .int (iI C)), (3, .int (iI g)), (4, .int (iI t))] [] _
  refine w_aload_n dX5_add_0 rfl ?_
  refine v_getI dX5_add_1 fX5_25 ⟨by decide, rfl⟩ (Or.inl rfl) (fun z1 e1 b1 => ?_)
  have f1 : z1 = m := by rw [e1]; exact hc
  refine w_sipush (v := iI 512) dX5_add_4 (by decide) ?_
  refine v_icmp_ge 61 dX5_add_7 (by decide) (by omega) (by omega) (fun c7 => ?_) (fun c7 => ?_)
  · refine v_vret dX5_add_61 rfl ⟨rfl, rfl⟩ ?_
    first
      | (exfalso; omega)
      | (rw [show z15.toNat = m by omega, show z25.toNat = m by omega, show z35.toNat = m by omega, show z45.toNat = m by omega, f53]; exact h)
  · refine w_aload_n dX5_add_10 rfl ?_
    refine v_getR (j := 153) dX5_add_11 fX5_9 ⟨by decide, rfl⟩ rfl rfl ?_
    refine w_aload_n dX5_add_14 rfl ?_
    refine v_getI dX5_add_15 fX5_25 ⟨by decide, rfl⟩ (Or.inl rfl) (fun z15 e15 b15 => ?_)
    have f15 : z15 = m := by rw [e15]; exact hc
    refine w_iload_n dX5_add_18 rfl ?_
    refine v_iast dX5_add_19 ⟨by decide, rfl⟩ (by omega) (by omega) (by decide) ?_
    refine w_aload_n dX5_add_20 rfl ?_
    refine v_getR (j := 154) dX5_add_21 fX5_15 ⟨by decide, rfl⟩ rfl rfl ?_
    refine w_aload_n dX5_add_24 rfl ?_
    refine v_getI dX5_add_25 fX5_25 ⟨by decide, rfl⟩ (Or.inl rfl) (fun z25 e25 b25 => ?_)
    have f25 : z25 = m := by rw [e25, rd_wr_row (by decide)]; exact hc
    refine w_iload_n dX5_add_28 rfl ?_
    refine v_iast dX5_add_29 ⟨by decide, rfl⟩ (by omega) (by omega) (by decide) ?_
    refine w_aload_n dX5_add_30 rfl ?_
    refine v_getR (j := 155) dX5_add_31 fX5_18 ⟨by decide, rfl⟩ rfl rfl ?_
    refine w_aload_n dX5_add_34 rfl ?_
    refine v_getI dX5_add_35 fX5_25 ⟨by decide, rfl⟩ (Or.inl rfl) (fun z35 e35 b35 => ?_)
    have f35 : z35 = m := by rw [e35, rd_wr_row (by decide), rd_wr_row (by decide)]; exact hc
    refine w_iload_n dX5_add_38 rfl ?_
    refine v_iast dX5_add_39 ⟨by decide, rfl⟩ (by omega) (by omega) (by decide) ?_
    refine w_aload_n dX5_add_40 rfl ?_
    refine v_getR (j := 156) dX5_add_41 fX5_21 ⟨by decide, rfl⟩ rfl rfl ?_
    refine w_aload_n dX5_add_44 rfl ?_
    refine v_getI dX5_add_45 fX5_25 ⟨by decide, rfl⟩ (Or.inl rfl) (fun z45 e45 b45 => ?_)
    have f45 : z45 = m := by rw [e45, rd_wr_row (by decide), rd_wr_row (by decide), rd_wr_row (by decide)]; exact hc
    refine w_iload dX5_add_48 rfl ?_
    refine v_zast dX5_add_50 ⟨by decide, rfl⟩ (by omega) (by omega) (by decide) (by omega) ?_
    refine w_aload_n dX5_add_51 rfl ?_
    refine w_dup dX5_add_52 rfl ?_
    refine v_getI dX5_add_53 fX5_25 ⟨by decide, rfl⟩ (Or.inl rfl) (fun z53 e53 b53 => ?_)
    have f53 : z53 = m := by rw [e53, rd_wr_row (by decide), rd_wr_row (by decide), rd_wr_row (by decide), rd_wr_row (by decide)]; exact hc
    refine w_iconst (v := iI 1) dX5_add_56 rfl ?_
    refine v_iadd dX5_add_57 ?_
    refine v_putI dX5_add_58 fX5_25 ⟨by decide, rfl⟩ rfl (Or.inl rfl) ?_
    refine v_vret dX5_add_61 rfl ⟨rfl, rfl⟩ ?_
    first
      | (exfalso; omega)
      | (rw [show z15.toNat = m by omega, show z25.toNat = m by omega, show z35.toNat = m by omega, show z45.toNat = m by omega, f53]; exact h)
set_option maxHeartbeats 8000000 in
theorem x5_collect_a_l {I : Nat → Nat → Int32} {J : Nat → Nat → Int64} {F : Option Value → zM → Prop} {b n wn : Nat} {ce : Nat → Int} (hK : bK I b ce n) (hs : shK I) (hL : wRL I J wn) {to : Int} (hto : to = 0 ∨ to = 1) (h : ∀ (I' : Nat → Nat → Int32) (J' : Nat → Nat → Int64) (m : Nat), (∀ id k, ¬ (152 ≤ id ∧ id ≤ 156) → rd I' id k = rd I id k) → (∀ id k, id ≠ 140 → id ≠ 141 → J' id k = J id k) → pE I' 152 m (plS I b ce n wn to) (gnC I b n) (tcC I b n) → F none (gM I' J')) (ha : aC I wn) : ∀ (nz : Nat) (row : Int) (col : Int) (m : Nat) (I' : Nat → Nat → Int32) (J' : Nat → Nat → Int64), (16 - row).toNat * 64 + (32 - col).toNat < nz → -4 ≤ row ∧ row ≤ 15 → -9 ≤ col → col ≤ 32 → (∀ id k, ¬ (152 ≤ id ∧ id ≤ 156) → rd I' id k = rd I id k) → (∀ id k, id ≠ 140 → id ≠ 141 → J' id k = J id k) → pE I' 152 m (pL (plS I b ce n wn to) row col) (gnC I b n) (tcC I b n) → ((m : Int) ≤ nB (row + rd I (bI b 2) 0) (col + rd I (bI b 3) 0)) → Wp (sE kX5_collect RX5) F 30 [(0, .ref 152), (1, .ref (bI b 0)), (2, .int (iI to)), (3, .ref 142), (4, .ref 134), (5, .int (iI row)), (6, .int (iI col))] [] (gM I' J') := by
  intro nz
  induction nz with
  | zero =>
    intro row col m I' J' hmz hr hc hc2 hx hJ hp hnb
    exact absurd hmz (Nat.not_lt_zero _)
  | succ nz ih =>
    intro row col m I' J' hmz hr hc hc2 hx hJ hp hnb
    have fx : fS I I' := fun id k g => hx id k (by omega)
    have r0 := hK.2.2.1.2.2.1 0 (by have := hK.2.2.2.2; omega)
    refine w_iload dX5_collect_30 rfl ?_
    refine w_bipush (v := iI 32) dX5_collect_32 (by decide) ?_
    refine v_icmp_ge 135 dX5_collect_34 (by decide) (by omega) (by omega) (fun c34 => ?_) (fun c34 => ?_)
    · refine v_iinc dX5_collect_135 rfl rfl rfl ?_
      refine w_goto 19 dX5_collect_138 (by decide) ?_
      refine w_iload dX5_collect_19 rfl ?_
      refine w_bipush (v := iI 16) dX5_collect_21 (by decide) ?_
      refine v_icmp_ge 141 dX5_collect_23 (by decide) (by omega) (by omega) (fun c23 => ?_) (fun c23 => ?_)
      · refine v_vret dX5_collect_141 rfl ⟨rfl, rfl⟩ ?_
        exact h I' J' m hx hJ (pE_end plS_rg (pE_row plS_rg hp (by omega)) (by omega) (by omega))
      · refine w_bipush (v := iI (-9)) dX5_collect_26 (by decide) ?_
        refine w_istore dX5_collect_28 rfl rfl ?_
        refine w_keep 7 ?_
        refine ih (row + 1) (-9) m I' J' (by omega) (by omega) (by omega) (by omega) hx hJ (pE_row plS_rg hp (by omega)) (by have := nB_ro (row + rd I (bI b 2) 0) (col + rd I (bI b 3) 0) (-9 + rd I (bI b 3) 0); rw [show row + 1 + rd I (bI b 2) 0 = row + rd I (bI b 2) 0 + 1 by omega]; omega)
    · refine w_aload_n dX5_collect_37 rfl ?_
      refine w_aload_n dX5_collect_38 rfl ?_
      refine w_iload dX5_collect_39 rfl ?_
      refine w_iload dX5_collect_41 rfl ?_
      refine v_callV3 dX5_collect_43 lX5_35 vX8_hasRoom (by decide) rfl rfl ⟨by decide, rfl⟩ (by decide) rfl (Nat.le_of_ble_eq_true rfl) ?_
      refine x8_hasRoom hK.1 (RBc_S hK.1 fx hK.2.2.1) (by omega) (by omega) (fun q43 => ?_) (fun q43 => ?_)
      all_goals (have q43' := q43; simp only [owAt_S fx] at q43'; clear q43)
      · refine v_if_ne 52 dX5_collect_46 (by decide) (by decide) (fun _ => ?_) (fun q => absurd q (by decide))
        refine w_aload_n dX5_collect_52 rfl ?_
        refine w_aload_n dX5_collect_53 rfl ?_
        refine w_iload dX5_collect_54 rfl ?_
        refine w_iload dX5_collect_56 rfl ?_
        refine v_callV3 dX5_collect_58 lX5_39 vX8_sidesOf (by decide) rfl rfl ⟨by decide, rfl⟩ (by decide) rfl (Nat.le_of_ble_eq_true rfl) ?_
        refine x8_sidesOf hK.1 (RBc_S hK.1 fx hK.2.2.1) (by omega) (by omega) ?_
        have s1 : smN (fun j => sd4 I' (row + rd I' (bI b 2) j) (col + rd I' (bI b 3) j)) n = sdC I b n row col := sdC_S hK.1 fx n row col
        rw [s1]
        have s2 := sdC_bd hK.2.2.1 row col
        have hin : inS (row + rd I (bI b 2) 0) (col + rd I (bI b 3) 0) := first_in hK q43'.2
        refine w_istore dX5_collect_61 rfl rfl ?_
        refine w_aload_n dX5_collect_63 rfl ?_
        refine w_aload_n dX5_collect_64 rfl ?_
        refine w_iload dX5_collect_65 rfl ?_
        refine w_iload dX5_collect_67 rfl ?_
        refine v_callV3 dX5_collect_69 lX5_43 vX8_fibreWorth (by decide) rfl rfl ⟨by decide, rfl⟩ (by decide) rfl (Nat.le_of_ble_eq_true rfl) ?_
        refine x8_fibreWorth hK.1 (shK_S fx hs).1 (shK_S fx hs).2.1 (by omega) (by omega) (fun qf => ?_) (fun qf => ?_)
        all_goals rw [qLq_S hK.1 fx] at qf
        rotate_left
        rw [show wLs I' 147 16 (fun i : Int => tF I' (bI b 7) (bI b 8) 5 i) row 5 + wLs I' 150 32 (fun i : Int => tF I' (bI b 10) (bI b 11) 10 i) col 10 = fwC I b row col from fwC_S hK.1 fx row col]
        have f2 := fwC_bd hs b row col
        rotate_left
        · refine w_istore dX5_collect_72 rfl rfl ?_
          refine w_iload dX5_collect_74 rfl ?_
          refine w_iconst (v := iI (-1)) dX5_collect_76 rfl ?_
          refine v_icmp_eq 129 dX5_collect_77 (by decide) (by decide) (by decide) (fun _ => ?_) (fun q => absurd q (by decide))
          refine v_iinc dX5_collect_129 rfl rfl rfl ?_
          refine w_goto 30 dX5_collect_132 (by decide) ?_
          refine w_keep 7 ?_
          refine ih row (col + 1) m I' J' (by omega) (by omega) (by omega) (by omega) hx hJ (pE_skip plS_rg hp (by omega) (fun g => ?_)) (by have := nB_nx (row + rd I (bI b 2) 0) (col + rd I (bI b 3) 0); rw [show col + 1 + rd I (bI b 3) 0 = col + rd I (bI b 3) 0 + 1 by omega]; omega)
          exact g.2.2.1 qf
        · refine w_istore dX5_collect_72 rfl rfl ?_
          refine w_iload dX5_collect_74 rfl ?_
          refine w_iconst (v := iI (-1)) dX5_collect_76 rfl ?_
          refine v_icmp_eq 129 dX5_collect_77 (by decide) (by omega) (by omega) (fun c77 => absurd c77 (by omega)) (fun c77 => ?_)
          refine w_iload_n dX5_collect_80 rfl ?_
          refine v_if_eq 92 dX5_collect_81 (by decide) (by omega) (fun c81 => ?_) (fun c81 => ?_)
          · refine w_aload_n dX5_collect_92 rfl ?_
            refine w_aload_n dX5_collect_93 rfl ?_
            refine w_iload dX5_collect_94 rfl ?_
            refine w_iload dX5_collect_96 rfl ?_
            refine w_aload dX5_collect_98 rfl ?_
            refine v_callV4 dX5_collect_100 lX5_46 vX8_runsCanWith (by decide) rfl rfl ⟨by decide, rfl⟩ (by decide) rfl (Nat.le_of_ble_eq_true rfl) ?_
            refine x8_runsCanWith (wn := wn) hK.1 (wRL_S fx hJ hL) (bK_S fx hK).2.1 (RBc_S hK.1 fx hK.2.2.1) (RBe_S hK.1 fx hK.2.2.2.1) (by omega) (by omega) (fun y x g => ⟨(q43'.2 y x g).1, by rw [sgAt_S fx]; exact hs.2.2 y x (q43'.2 y x g).1 (q43'.2 y x g).2⟩) ((aC_S fx).mpr ha) (fun qr J1 j1 => ?_) (fun qr J1 j1 => ?_)
            all_goals (have qr' : _ := (wC_S fx (wn := wn) (ce := ce) (R := row) (C := col)); have j2 : ∀ id k, id ≠ 140 → id ≠ 141 → J1 id k = J id k := fun id k u1 u2 => by rw [j1 id k u1 u2]; exact hJ id k u1 u2)
            · refine v_if_eq 129 dX5_collect_103 (by decide) (by decide) (fun q => absurd q (by decide)) (fun _ => ?_)
              refine w_aload_n dX5_collect_106 rfl ?_
              refine w_iload dX5_collect_107 rfl ?_
              refine w_iload dX5_collect_109 rfl ?_
              refine w_iload dX5_collect_111 rfl ?_
              refine w_iload dX5_collect_113 rfl ?_
              refine v_iadd dX5_collect_115 ?_
              refine w_iload dX5_collect_116 rfl ?_
              refine v_if_le 125 dX5_collect_118 (by decide) (by omega) (fun c118 => ?_) (fun c118 => ?_)
              · refine w_iconst (v := iI 0) dX5_collect_125 rfl ?_
                refine v_callV4 dX5_collect_126 lX5_50 vX5_add (by decide) rfl rfl ⟨by decide, rfl⟩ (by decide) rfl (Nat.le_of_ble_eq_true rfl) ?_
                refine x5_add_a (by omega) (by omega) (by omega) (by omega) hp.2.1 (by have := nB_ad hin; omega) ?_
                refine v_iinc dX5_collect_129 rfl rfl rfl ?_
                refine w_goto 30 dX5_collect_132 (by decide) ?_
                refine w_keep 7 ?_
                refine ih row (col + 1) (m + 1) _ J1 (by omega) (by omega) (by omega) (by omega) (fun id k u => ?_) j2 (pE_add plS_rg hp (by omega) (by omega) ⟨ha, q43', qf, ?_, qr'.mp qr⟩ (by have := nB_ad hin; omega) rfl ?_ (by omega)) (by have := nB_ad hin; rw [show col + 1 + rd I (bI b 3) 0 = col + rd I (bI b 3) 0 + 1 by omega]; omega)
                · rw [pW_rd (by omega) (by omega) (by omega) (by omega) (by have := hp.1; omega), if_neg (by omega), if_neg (by omega), if_neg (by omega), if_neg (by omega), if_neg (by omega)]
                  exact hx id k u
                · intro g; omega
                · show _ = if 0 < sdC I b n row col then (1 : Int) else 0
                  first | (exfalso; omega) | rw [if_pos (by omega)] | rw [if_neg (by omega)]
              · refine w_iconst (v := iI 1) dX5_collect_121 rfl ?_
                refine w_goto 126 dX5_collect_122 (by decide) ?_
                refine v_callV4 dX5_collect_126 lX5_50 vX5_add (by decide) rfl rfl ⟨by decide, rfl⟩ (by decide) rfl (Nat.le_of_ble_eq_true rfl) ?_
                refine x5_add_a (by omega) (by omega) (by omega) (by omega) hp.2.1 (by have := nB_ad hin; omega) ?_
                refine v_iinc dX5_collect_129 rfl rfl rfl ?_
                refine w_goto 30 dX5_collect_132 (by decide) ?_
                refine w_keep 7 ?_
                refine ih row (col + 1) (m + 1) _ J1 (by omega) (by omega) (by omega) (by omega) (fun id k u => ?_) j2 (pE_add plS_rg hp (by omega) (by omega) ⟨ha, q43', qf, ?_, qr'.mp qr⟩ (by have := nB_ad hin; omega) rfl ?_ (by omega)) (by have := nB_ad hin; rw [show col + 1 + rd I (bI b 3) 0 = col + rd I (bI b 3) 0 + 1 by omega]; omega)
                · rw [pW_rd (by omega) (by omega) (by omega) (by omega) (by have := hp.1; omega), if_neg (by omega), if_neg (by omega), if_neg (by omega), if_neg (by omega), if_neg (by omega)]
                  exact hx id k u
                · intro g; omega
                · show _ = if 0 < sdC I b n row col then (1 : Int) else 0
                  first | (exfalso; omega) | rw [if_pos (by omega)] | rw [if_neg (by omega)]
            · refine v_if_eq 129 dX5_collect_103 (by decide) (by decide) (fun _ => ?_) (fun q => absurd q (by decide))
              refine v_iinc dX5_collect_129 rfl rfl rfl ?_
              refine w_goto 30 dX5_collect_132 (by decide) ?_
              refine w_keep 7 ?_
              refine ih row (col + 1) m I' J1 (by omega) (by omega) (by omega) (by omega) hx j2 (pE_skip plS_rg hp (by omega) (fun g => ?_)) (by have := nB_nx (row + rd I (bI b 2) 0) (col + rd I (bI b 3) 0); rw [show col + 1 + rd I (bI b 3) 0 = col + rd I (bI b 3) 0 + 1 by omega]; omega)
              exact qr (qr'.mpr g.2.2.2.2)
          · refine w_iload dX5_collect_84 rfl ?_
            refine v_if_ne 92 dX5_collect_86 (by decide) (by omega) (fun c86 => ?_) (fun c86 => ?_)
            · refine w_aload_n dX5_collect_92 rfl ?_
              refine w_aload_n dX5_collect_93 rfl ?_
              refine w_iload dX5_collect_94 rfl ?_
              refine w_iload dX5_collect_96 rfl ?_
              refine w_aload dX5_collect_98 rfl ?_
              refine v_callV4 dX5_collect_100 lX5_46 vX8_runsCanWith (by decide) rfl rfl ⟨by decide, rfl⟩ (by decide) rfl (Nat.le_of_ble_eq_true rfl) ?_
              refine x8_runsCanWith (wn := wn) hK.1 (wRL_S fx hJ hL) (bK_S fx hK).2.1 (RBc_S hK.1 fx hK.2.2.1) (RBe_S hK.1 fx hK.2.2.2.1) (by omega) (by omega) (fun y x g => ⟨(q43'.2 y x g).1, by rw [sgAt_S fx]; exact hs.2.2 y x (q43'.2 y x g).1 (q43'.2 y x g).2⟩) ((aC_S fx).mpr ha) (fun qr J1 j1 => ?_) (fun qr J1 j1 => ?_)
              all_goals (have qr' : _ := (wC_S fx (wn := wn) (ce := ce) (R := row) (C := col)); have j2 : ∀ id k, id ≠ 140 → id ≠ 141 → J1 id k = J id k := fun id k u1 u2 => by rw [j1 id k u1 u2]; exact hJ id k u1 u2)
              · refine v_if_eq 129 dX5_collect_103 (by decide) (by decide) (fun q => absurd q (by decide)) (fun _ => ?_)
                refine w_aload_n dX5_collect_106 rfl ?_
                refine w_iload dX5_collect_107 rfl ?_
                refine w_iload dX5_collect_109 rfl ?_
                refine w_iload dX5_collect_111 rfl ?_
                refine w_iload dX5_collect_113 rfl ?_
                refine v_iadd dX5_collect_115 ?_
                refine w_iload dX5_collect_116 rfl ?_
                refine v_if_le 125 dX5_collect_118 (by decide) (by omega) (fun c118 => ?_) (fun c118 => ?_)
                · refine w_iconst (v := iI 0) dX5_collect_125 rfl ?_
                  refine v_callV4 dX5_collect_126 lX5_50 vX5_add (by decide) rfl rfl ⟨by decide, rfl⟩ (by decide) rfl (Nat.le_of_ble_eq_true rfl) ?_
                  refine x5_add_a (by omega) (by omega) (by omega) (by omega) hp.2.1 (by have := nB_ad hin; omega) ?_
                  refine v_iinc dX5_collect_129 rfl rfl rfl ?_
                  refine w_goto 30 dX5_collect_132 (by decide) ?_
                  refine w_keep 7 ?_
                  refine ih row (col + 1) (m + 1) _ J1 (by omega) (by omega) (by omega) (by omega) (fun id k u => ?_) j2 (pE_add plS_rg hp (by omega) (by omega) ⟨ha, q43', qf, ?_, qr'.mp qr⟩ (by have := nB_ad hin; omega) rfl ?_ (by omega)) (by have := nB_ad hin; rw [show col + 1 + rd I (bI b 3) 0 = col + rd I (bI b 3) 0 + 1 by omega]; omega)
                  · rw [pW_rd (by omega) (by omega) (by omega) (by omega) (by have := hp.1; omega), if_neg (by omega), if_neg (by omega), if_neg (by omega), if_neg (by omega), if_neg (by omega)]
                    exact hx id k u
                  · intro g; omega
                  · show _ = if 0 < sdC I b n row col then (1 : Int) else 0
                    first | (exfalso; omega) | rw [if_pos (by omega)] | rw [if_neg (by omega)]
                · refine w_iconst (v := iI 1) dX5_collect_121 rfl ?_
                  refine w_goto 126 dX5_collect_122 (by decide) ?_
                  refine v_callV4 dX5_collect_126 lX5_50 vX5_add (by decide) rfl rfl ⟨by decide, rfl⟩ (by decide) rfl (Nat.le_of_ble_eq_true rfl) ?_
                  refine x5_add_a (by omega) (by omega) (by omega) (by omega) hp.2.1 (by have := nB_ad hin; omega) ?_
                  refine v_iinc dX5_collect_129 rfl rfl rfl ?_
                  refine w_goto 30 dX5_collect_132 (by decide) ?_
                  refine w_keep 7 ?_
                  refine ih row (col + 1) (m + 1) _ J1 (by omega) (by omega) (by omega) (by omega) (fun id k u => ?_) j2 (pE_add plS_rg hp (by omega) (by omega) ⟨ha, q43', qf, ?_, qr'.mp qr⟩ (by have := nB_ad hin; omega) rfl ?_ (by omega)) (by have := nB_ad hin; rw [show col + 1 + rd I (bI b 3) 0 = col + rd I (bI b 3) 0 + 1 by omega]; omega)
                  · rw [pW_rd (by omega) (by omega) (by omega) (by omega) (by have := hp.1; omega), if_neg (by omega), if_neg (by omega), if_neg (by omega), if_neg (by omega), if_neg (by omega)]
                    exact hx id k u
                  · intro g; omega
                  · show _ = if 0 < sdC I b n row col then (1 : Int) else 0
                    first | (exfalso; omega) | rw [if_pos (by omega)] | rw [if_neg (by omega)]
              · refine v_if_eq 129 dX5_collect_103 (by decide) (by decide) (fun _ => ?_) (fun q => absurd q (by decide))
                refine v_iinc dX5_collect_129 rfl rfl rfl ?_
                refine w_goto 30 dX5_collect_132 (by decide) ?_
                refine w_keep 7 ?_
                refine ih row (col + 1) m I' J1 (by omega) (by omega) (by omega) (by omega) hx j2 (pE_skip plS_rg hp (by omega) (fun g => ?_)) (by have := nB_nx (row + rd I (bI b 2) 0) (col + rd I (bI b 3) 0); rw [show col + 1 + rd I (bI b 3) 0 = col + rd I (bI b 3) 0 + 1 by omega]; omega)
                exact qr (qr'.mpr g.2.2.2.2)
            · refine w_goto 129 dX5_collect_89 (by decide) ?_
              refine v_iinc dX5_collect_129 rfl rfl rfl ?_
              refine w_goto 30 dX5_collect_132 (by decide) ?_
              refine w_keep 7 ?_
              refine ih row (col + 1) m I' J' (by omega) (by omega) (by omega) (by omega) hx hJ (pE_skip plS_rg hp (by omega) (fun g => ?_)) (by have := nB_nx (row + rd I (bI b 2) 0) (col + rd I (bI b 3) 0); rw [show col + 1 + rd I (bI b 3) 0 = col + rd I (bI b 3) 0 + 1 by omega]; omega)
              exact g.2.2.2.1 (by omega) (by omega)
      · refine v_if_ne 52 dX5_collect_46 (by decide) (by decide) (fun q => absurd q (by decide)) (fun _ => ?_)
        refine w_goto 129 dX5_collect_49 (by decide) ?_
        refine v_iinc dX5_collect_129 rfl rfl rfl ?_
        refine w_goto 30 dX5_collect_132 (by decide) ?_
        refine w_keep 7 ?_
        refine ih row (col + 1) m I' J' (by omega) (by omega) (by omega) (by omega) hx hJ (pE_skip plS_rg hp (by omega) (fun g => ?_)) (by have := nB_nx (row + rd I (bI b 2) 0) (col + rd I (bI b 3) 0); rw [show col + 1 + rd I (bI b 3) 0 = col + rd I (bI b 3) 0 + 1 by omega]; omega)
        exact q43' g.2.1
theorem x5_collect_a {I : Nat → Nat → Int32} {J : Nat → Nat → Int64} {F : Option Value → zM → Prop} {b n wn : Nat} {ce : Nat → Int} (hK : bK I b ce n) (hs : shK I) (hL : wRL I J wn) {to : Int} (hto : to = 0 ∨ to = 1) (h : ∀ (I' : Nat → Nat → Int32) (J' : Nat → Nat → Int64) (m : Nat), (∀ id k, ¬ (152 ≤ id ∧ id ≤ 156) → rd I' id k = rd I id k) → (∀ id k, id ≠ 140 → id ≠ 141 → J' id k = J id k) → pE I' 152 m (plS I b ce n wn to) (gnC I b n) (tcC I b n) → F none (gM I' J')) : Cl yX5_collect kX5_collect [.ref 152, .ref (bI b 0), .int (iI to), .ref 142, .ref 134] (gM I J) F := by
  refine cl_s (by decide) (by decide) (Nat.le_of_ble_eq_true rfl) rt_v ?_
  show Wp _ F 0 [(0, .ref 152), (1, .ref (bI b 0)), (2, .int (iI to)), (3, .ref 142), (4, .ref 134)] [] _
  refine w_aload_n dX5_collect_0 rfl ?_
  refine w_iconst (v := iI 0) dX5_collect_1 rfl ?_
  refine v_putI dX5_collect_2 fX5_25 ⟨by decide, rfl⟩ rfl (Or.inl rfl) ?_
  refine w_aload_n dX5_collect_5 rfl ?_
  refine w_aload dX5_collect_6 rfl ?_
  refine v_callV1 dX5_collect_8 lX5_29 vX8_allRunsCan (by decide) rfl rfl ⟨by decide, rfl⟩ (by decide) rfl (Nat.le_of_ble_eq_true rfl) ?_
  have fx : ∀ id k, ¬ (152 ≤ id ∧ id ≤ 156) → rd (wr I 152 4 0) id k = rd I id k := fun id k g => rd_wr_row (by omega)
  have fx2 : fS I (wr I 152 4 0) := fun id k g => fx id k (by omega)
  refine x8_allRunsCan (wRL_S fx2 (fun _ _ _ _ => rfl) hL) (fun ha J1 j1 => ?_) (fun ha J1 j1 => ?_)
  all_goals have hac : aC (wr I 152 4 0) wn ↔ aC I wn := aC_S fx2
  · refine v_if_ne 15 dX5_collect_11 (by decide) (by decide) (fun _ => ?_) (fun q => absurd q (by decide))
    refine w_bipush (v := iI (-4)) dX5_collect_15 (by decide) ?_
    refine w_istore dX5_collect_17 rfl rfl ?_
    refine w_iload dX5_collect_19 rfl ?_
    refine w_bipush (v := iI 16) dX5_collect_21 (by decide) ?_
    refine v_icmp_ge 141 dX5_collect_23 (by decide) (by decide) (by decide) (fun q => absurd q (by decide)) (fun _ => ?_)
    refine w_bipush (v := iI (-9)) dX5_collect_26 (by decide) ?_
    refine w_istore dX5_collect_28 rfl rfl ?_
    refine x5_collect_a_l hK hs hL hto h (hac.mp ha) 2000 (-4) (-9) 0 _ J1 (by omega) (by omega) (by omega) (by omega) fx j1 ⟨by omega, rd_wr_eq (by decide) (by decide), fun j hj => by omega, fun i j _ hj => by omega, fun R C hS => ?_⟩ (nB_le _ _).1
    exact absurd hS.2 (by have := plS_rg R C hS.1; omega)
  · refine v_if_ne 15 dX5_collect_11 (by decide) (by decide) (fun q => absurd q (by decide)) (fun _ => ?_)
    refine v_vret dX5_collect_14 rfl ⟨rfl, rfl⟩ ?_
    refine h _ J1 0 fx j1 ⟨by omega, rd_wr_eq (by decide) (by decide), fun j hj => by omega, fun i j _ hj => by omega, fun R C hS => ?_⟩
    exact absurd (hac.mpr hS.1) ha
theorem x5_best_l {I : Nat → Nat → Int32} {J : Nat → Nat → Int64} {F : Option Value → zM → Prop} {m : Nat} (hm : m ≤ 512) (hc : rd I 152 4 = m) (hn : m = 0 → F (some (.int (iI (-1)))) (gM I J)) (hy : ∀ i : Nat, i < m → (∀ j, j < m → rd I 155 j ≤ rd I 155 i) → (∀ j, j < i → rd I 155 j < rd I 155 i) → F (some (.int (iI (i : Int)))) (gM I J)) : ∀ (nz : Nat) (k : Nat) (u : Int), m - k < nz → k ≤ m → -1 ≤ u ∧ u < k ∨ (u = -1) → (u = -1 → k = 0) → (u ≠ -1 → (∀ j, j < k → rd I 155 j ≤ rd I 155 u.toNat) ∧ ∀ j, j < u.toNat → rd I 155 j < rd I 155 u.toNat) → Wp (sE kX5_best RX5) F 4 [(0, .ref 152), (1, .int (iI u)), (2, .int (iI (k : Int)))] [] (gM I J) := by
  intro nz
  induction nz with
  | zero =>
    intro k u hmz hk hub hu0 hu1
    exact absurd hmz (Nat.not_lt_zero _)
  | succ nz ih =>
    intro k u hmz hk hub hu0 hu1
    refine w_iload_n dX5_best_4 rfl ?_
    refine w_aload_n dX5_best_5 rfl ?_
    refine v_getI dX5_best_6 fX5_25 ⟨by decide, rfl⟩ (Or.inl rfl) (fun z6 e6 b6 => ?_)
    have f6 : z6 = m := by rw [e6]; exact hc
    refine v_icmp_ge 40 dX5_best_9 (by decide) (by omega) (by omega) (fun c9 => ?_) (fun c9 => ?_)
    · refine w_iload_n dX5_best_40 rfl ?_
      refine v_iret dX5_best_41 rfl ⟨rfl, rfl⟩ ?_
      have e0 : k = m := by omega
      by_cases g : u = -1
      · rw [g]; exact hn (by have := hu0 g; omega)
      · have v := hu1 g
        have := hy u.toNat (by omega) (fun j hj => v.1 j (by omega)) v.2
        rw [show ((u.toNat : Nat) : Int) = u by omega] at this
        exact this
    · refine w_iload_n dX5_best_12 rfl ?_
      refine w_iconst (v := iI (-1)) dX5_best_13 rfl ?_
      refine v_icmp_eq 32 dX5_best_14 (by decide) (by omega) (by omega) (fun c14 => ?_) (fun c14 => ?_)
      · refine w_iload_n dX5_best_32 rfl ?_
        refine w_istore_n dX5_best_33 rfl rfl ?_
        refine v_iinc dX5_best_34 rfl rfl rfl ?_
        refine w_goto 4 dX5_best_37 (by decide) ?_
        first
          | (rw [show (k : Int) + 1 = ((k + 1 : Nat) : Int) by omega]
             refine ih (k + 1) (k : Int) (by omega) (by omega) (by omega) (fun g => by omega) (fun _ => ⟨fun j hj => ?_, fun j hj => ?_⟩)
             · rw [show ((k : Int)).toNat = k by omega]
               rcases Nat.lt_succ_iff_lt_or_eq.mp hj with g | g
               · first | (have := hu0 (by omega); omega) | (have := (hu1 (by omega)).1 j g; omega)
               · rw [g]; omega
             · rw [show ((k : Int)).toNat = k by omega]
               first | (have := hu0 (by omega); omega) | (have := (hu1 (by omega)).1 j (by omega); omega))
          | (rw [show (k : Int) + 1 = ((k + 1 : Nat) : Int) by omega]
             refine ih (k + 1) u (by omega) (by omega) (by omega) (fun g => by omega) (fun g1 => ⟨fun j hj => ?_, (hu1 g1).2⟩)
             rcases Nat.lt_succ_iff_lt_or_eq.mp hj with g | g
             · exact (hu1 g1).1 j g
             · rw [g]; omega)
      · refine w_aload_n dX5_best_17 rfl ?_
        refine v_getR (j := 155) dX5_best_18 fX5_18 ⟨by decide, rfl⟩ rfl rfl ?_
        refine w_iload_n dX5_best_21 rfl ?_
        refine v_iald dX5_best_22 ⟨by decide, rfl⟩ (by omega) (by omega) (by decide) (fun z22 e22 b22 => ?_)
        have f22 : z22 = rd I 155 k := by rw [e22]; rfl
        refine w_aload_n dX5_best_23 rfl ?_
        refine v_getR (j := 155) dX5_best_24 fX5_18 ⟨by decide, rfl⟩ rfl rfl ?_
        refine w_iload_n dX5_best_27 rfl ?_
        refine v_iald dX5_best_28 ⟨by decide, rfl⟩ (by omega) (by omega) (by decide) (fun z28 e28 b28 => ?_)
        refine v_icmp_le 34 dX5_best_29 (by decide) (by omega) (by omega) (fun c29 => ?_) (fun c29 => ?_)
        · refine v_iinc dX5_best_34 rfl rfl rfl ?_
          refine w_goto 4 dX5_best_37 (by decide) ?_
          first
            | (rw [show (k : Int) + 1 = ((k + 1 : Nat) : Int) by omega]
               refine ih (k + 1) (k : Int) (by omega) (by omega) (by omega) (fun g => by omega) (fun _ => ⟨fun j hj => ?_, fun j hj => ?_⟩)
               · rw [show ((k : Int)).toNat = k by omega]
                 rcases Nat.lt_succ_iff_lt_or_eq.mp hj with g | g
                 · first | (have := hu0 (by omega); omega) | (have := (hu1 (by omega)).1 j g; omega)
                 · rw [g]; omega
               · rw [show ((k : Int)).toNat = k by omega]
                 first | (have := hu0 (by omega); omega) | (have := (hu1 (by omega)).1 j (by omega); omega))
            | (rw [show (k : Int) + 1 = ((k + 1 : Nat) : Int) by omega]
               refine ih (k + 1) u (by omega) (by omega) (by omega) (fun g => by omega) (fun g1 => ⟨fun j hj => ?_, (hu1 g1).2⟩)
               rcases Nat.lt_succ_iff_lt_or_eq.mp hj with g | g
               · exact (hu1 g1).1 j g
               · rw [g]; omega)
        · refine w_iload_n dX5_best_32 rfl ?_
          refine w_istore_n dX5_best_33 rfl rfl ?_
          refine v_iinc dX5_best_34 rfl rfl rfl ?_
          refine w_goto 4 dX5_best_37 (by decide) ?_
          first
            | (rw [show (k : Int) + 1 = ((k + 1 : Nat) : Int) by omega]
               refine ih (k + 1) (k : Int) (by omega) (by omega) (by omega) (fun g => by omega) (fun _ => ⟨fun j hj => ?_, fun j hj => ?_⟩)
               · rw [show ((k : Int)).toNat = k by omega]
                 rcases Nat.lt_succ_iff_lt_or_eq.mp hj with g | g
                 · first | (have := hu0 (by omega); omega) | (have := (hu1 (by omega)).1 j g; omega)
                 · rw [g]; omega
               · rw [show ((k : Int)).toNat = k by omega]
                 first | (have := hu0 (by omega); omega) | (have := (hu1 (by omega)).1 j (by omega); omega))
            | (rw [show (k : Int) + 1 = ((k + 1 : Nat) : Int) by omega]
               refine ih (k + 1) u (by omega) (by omega) (by omega) (fun g => by omega) (fun g1 => ⟨fun j hj => ?_, (hu1 g1).2⟩)
               rcases Nat.lt_succ_iff_lt_or_eq.mp hj with g | g
               · exact (hu1 g1).1 j g
               · rw [g]; omega)
theorem x5_best {I : Nat → Nat → Int32} {J : Nat → Nat → Int64} {F : Option Value → zM → Prop} {m : Nat} (hm : m ≤ 512) (hc : rd I 152 4 = m) (hn : m = 0 → F (some (.int (iI (-1)))) (gM I J)) (hy : ∀ i : Nat, i < m → (∀ j, j < m → rd I 155 j ≤ rd I 155 i) → (∀ j, j < i → rd I 155 j < rd I 155 i) → F (some (.int (iI (i : Int)))) (gM I J)) : Cl yX5_best kX5_best [.ref 152] (gM I J) F := by
  refine cl_s (by decide) (by decide) (Nat.le_of_ble_eq_true rfl) rt_i ?_
  show Wp _ F 0 [(0, .ref 152)] [] _
  refine w_iconst (v := iI (-1)) dX5_best_0 rfl ?_
  refine w_istore_n dX5_best_1 rfl rfl ?_
  refine w_iconst (v := iI 0) dX5_best_2 rfl ?_
  refine w_istore_n dX5_best_3 rfl rfl ?_
  exact x5_best_l hm hc hn hy (m + 1) 0 (-1) (by omega) (by omega) (by omega) (fun _ => rfl) (fun g => absurd rfl g)
theorem x5_add_d {I : Nat → Nat → Int32} {J : Nat → Nat → Int64} {F : Option Value → zM → Prop} {R C g t : Int} (bR : -2147483648 ≤ R ∧ R < 2147483648) (bC : -2147483648 ≤ C ∧ C < 2147483648) (bg : -2147483648 ≤ g ∧ g < 2147483648) (ht : t = 0 ∨ t = 1) {m : Nat} (hc : rd I 157 4 = m) (hm : m < 512) (h : F none (gM (pW I 157 m R C g t) J)) : Cl yX5_add kX5_add [.ref 157, .int (iI R), .int (iI C), .int (iI g), .int (iI t)] (gM I J) F := by
  refine cl_s (by decide) (by decide) (Nat.le_of_ble_eq_true rfl) rt_v ?_
  show Wp _ F 0 [(0, .ref 157), (1, .int (iI R)), (2, .int (iI C)), (3, .int (iI g)), (4, .int (iI t))] [] _
  refine w_aload_n dX5_add_0 rfl ?_
  refine v_getI dX5_add_1 fX5_25 ⟨by decide, rfl⟩ (Or.inl rfl) (fun z1 e1 b1 => ?_)
  have f1 : z1 = m := by rw [e1]; exact hc
  refine w_sipush (v := iI 512) dX5_add_4 (by decide) ?_
  refine v_icmp_ge 61 dX5_add_7 (by decide) (by omega) (by omega) (fun c7 => ?_) (fun c7 => ?_)
  · refine v_vret dX5_add_61 rfl ⟨rfl, rfl⟩ ?_
    first
      | (exfalso; omega)
      | (rw [show z15.toNat = m by omega, show z25.toNat = m by omega, show z35.toNat = m by omega, show z45.toNat = m by omega, f53]; exact h)
  · refine w_aload_n dX5_add_10 rfl ?_
    refine v_getR (j := 158) dX5_add_11 fX5_9 ⟨by decide, rfl⟩ rfl rfl ?_
    refine w_aload_n dX5_add_14 rfl ?_
    refine v_getI dX5_add_15 fX5_25 ⟨by decide, rfl⟩ (Or.inl rfl) (fun z15 e15 b15 => ?_)
    have f15 : z15 = m := by rw [e15]; exact hc
    refine w_iload_n dX5_add_18 rfl ?_
    refine v_iast dX5_add_19 ⟨by decide, rfl⟩ (by omega) (by omega) (by decide) ?_
    refine w_aload_n dX5_add_20 rfl ?_
    refine v_getR (j := 159) dX5_add_21 fX5_15 ⟨by decide, rfl⟩ rfl rfl ?_
    refine w_aload_n dX5_add_24 rfl ?_
    refine v_getI dX5_add_25 fX5_25 ⟨by decide, rfl⟩ (Or.inl rfl) (fun z25 e25 b25 => ?_)
    have f25 : z25 = m := by rw [e25, rd_wr_row (by decide)]; exact hc
    refine w_iload_n dX5_add_28 rfl ?_
    refine v_iast dX5_add_29 ⟨by decide, rfl⟩ (by omega) (by omega) (by decide) ?_
    refine w_aload_n dX5_add_30 rfl ?_
    refine v_getR (j := 160) dX5_add_31 fX5_18 ⟨by decide, rfl⟩ rfl rfl ?_
    refine w_aload_n dX5_add_34 rfl ?_
    refine v_getI dX5_add_35 fX5_25 ⟨by decide, rfl⟩ (Or.inl rfl) (fun z35 e35 b35 => ?_)
    have f35 : z35 = m := by rw [e35, rd_wr_row (by decide), rd_wr_row (by decide)]; exact hc
    refine w_iload_n dX5_add_38 rfl ?_
    refine v_iast dX5_add_39 ⟨by decide, rfl⟩ (by omega) (by omega) (by decide) ?_
    refine w_aload_n dX5_add_40 rfl ?_
    refine v_getR (j := 161) dX5_add_41 fX5_21 ⟨by decide, rfl⟩ rfl rfl ?_
    refine w_aload_n dX5_add_44 rfl ?_
    refine v_getI dX5_add_45 fX5_25 ⟨by decide, rfl⟩ (Or.inl rfl) (fun z45 e45 b45 => ?_)
    have f45 : z45 = m := by rw [e45, rd_wr_row (by decide), rd_wr_row (by decide), rd_wr_row (by decide)]; exact hc
    refine w_iload dX5_add_48 rfl ?_
    refine v_zast dX5_add_50 ⟨by decide, rfl⟩ (by omega) (by omega) (by decide) (by omega) ?_
    refine w_aload_n dX5_add_51 rfl ?_
    refine w_dup dX5_add_52 rfl ?_
    refine v_getI dX5_add_53 fX5_25 ⟨by decide, rfl⟩ (Or.inl rfl) (fun z53 e53 b53 => ?_)
    have f53 : z53 = m := by rw [e53, rd_wr_row (by decide), rd_wr_row (by decide), rd_wr_row (by decide), rd_wr_row (by decide)]; exact hc
    refine w_iconst (v := iI 1) dX5_add_56 rfl ?_
    refine v_iadd dX5_add_57 ?_
    refine v_putI dX5_add_58 fX5_25 ⟨by decide, rfl⟩ rfl (Or.inl rfl) ?_
    refine v_vret dX5_add_61 rfl ⟨rfl, rfl⟩ ?_
    first
      | (exfalso; omega)
      | (rw [show z15.toNat = m by omega, show z25.toNat = m by omega, show z35.toNat = m by omega, show z45.toNat = m by omega, f53]; exact h)
set_option maxHeartbeats 8000000 in
theorem x5_collect_d_l {I : Nat → Nat → Int32} {J : Nat → Nat → Int64} {F : Option Value → zM → Prop} {b n wn : Nat} {ce : Nat → Int} (hK : bK I b ce n) (hs : shK I) (hL : wRL I J wn) {to : Int} (hto : to = 0 ∨ to = 1) (h : ∀ (I' : Nat → Nat → Int32) (J' : Nat → Nat → Int64) (m : Nat), (∀ id k, ¬ (157 ≤ id ∧ id ≤ 161) → rd I' id k = rd I id k) → (∀ id k, id ≠ 140 → id ≠ 141 → J' id k = J id k) → pE I' 157 m (plS I b ce n wn to) (gnC I b n) (tcC I b n) → F none (gM I' J')) (ha : aC I wn) : ∀ (nz : Nat) (row : Int) (col : Int) (m : Nat) (I' : Nat → Nat → Int32) (J' : Nat → Nat → Int64), (16 - row).toNat * 64 + (32 - col).toNat < nz → -4 ≤ row ∧ row ≤ 15 → -9 ≤ col → col ≤ 32 → (∀ id k, ¬ (157 ≤ id ∧ id ≤ 161) → rd I' id k = rd I id k) → (∀ id k, id ≠ 140 → id ≠ 141 → J' id k = J id k) → pE I' 157 m (pL (plS I b ce n wn to) row col) (gnC I b n) (tcC I b n) → ((m : Int) ≤ nB (row + rd I (bI b 2) 0) (col + rd I (bI b 3) 0)) → Wp (sE kX5_collect RX5) F 30 [(0, .ref 157), (1, .ref (bI b 0)), (2, .int (iI to)), (3, .ref 142), (4, .ref 134), (5, .int (iI row)), (6, .int (iI col))] [] (gM I' J') := by
  intro nz
  induction nz with
  | zero =>
    intro row col m I' J' hmz hr hc hc2 hx hJ hp hnb
    exact absurd hmz (Nat.not_lt_zero _)
  | succ nz ih =>
    intro row col m I' J' hmz hr hc hc2 hx hJ hp hnb
    have fx : fS I I' := fun id k g => hx id k (by omega)
    have r0 := hK.2.2.1.2.2.1 0 (by have := hK.2.2.2.2; omega)
    refine w_iload dX5_collect_30 rfl ?_
    refine w_bipush (v := iI 32) dX5_collect_32 (by decide) ?_
    refine v_icmp_ge 135 dX5_collect_34 (by decide) (by omega) (by omega) (fun c34 => ?_) (fun c34 => ?_)
    · refine v_iinc dX5_collect_135 rfl rfl rfl ?_
      refine w_goto 19 dX5_collect_138 (by decide) ?_
      refine w_iload dX5_collect_19 rfl ?_
      refine w_bipush (v := iI 16) dX5_collect_21 (by decide) ?_
      refine v_icmp_ge 141 dX5_collect_23 (by decide) (by omega) (by omega) (fun c23 => ?_) (fun c23 => ?_)
      · refine v_vret dX5_collect_141 rfl ⟨rfl, rfl⟩ ?_
        exact h I' J' m hx hJ (pE_end plS_rg (pE_row plS_rg hp (by omega)) (by omega) (by omega))
      · refine w_bipush (v := iI (-9)) dX5_collect_26 (by decide) ?_
        refine w_istore dX5_collect_28 rfl rfl ?_
        refine w_keep 7 ?_
        refine ih (row + 1) (-9) m I' J' (by omega) (by omega) (by omega) (by omega) hx hJ (pE_row plS_rg hp (by omega)) (by have := nB_ro (row + rd I (bI b 2) 0) (col + rd I (bI b 3) 0) (-9 + rd I (bI b 3) 0); rw [show row + 1 + rd I (bI b 2) 0 = row + rd I (bI b 2) 0 + 1 by omega]; omega)
    · refine w_aload_n dX5_collect_37 rfl ?_
      refine w_aload_n dX5_collect_38 rfl ?_
      refine w_iload dX5_collect_39 rfl ?_
      refine w_iload dX5_collect_41 rfl ?_
      refine v_callV3 dX5_collect_43 lX5_35 vX8_hasRoom (by decide) rfl rfl ⟨by decide, rfl⟩ (by decide) rfl (Nat.le_of_ble_eq_true rfl) ?_
      refine x8_hasRoom hK.1 (RBc_S hK.1 fx hK.2.2.1) (by omega) (by omega) (fun q43 => ?_) (fun q43 => ?_)
      all_goals (have q43' := q43; simp only [owAt_S fx] at q43'; clear q43)
      · refine v_if_ne 52 dX5_collect_46 (by decide) (by decide) (fun _ => ?_) (fun q => absurd q (by decide))
        refine w_aload_n dX5_collect_52 rfl ?_
        refine w_aload_n dX5_collect_53 rfl ?_
        refine w_iload dX5_collect_54 rfl ?_
        refine w_iload dX5_collect_56 rfl ?_
        refine v_callV3 dX5_collect_58 lX5_39 vX8_sidesOf (by decide) rfl rfl ⟨by decide, rfl⟩ (by decide) rfl (Nat.le_of_ble_eq_true rfl) ?_
        refine x8_sidesOf hK.1 (RBc_S hK.1 fx hK.2.2.1) (by omega) (by omega) ?_
        have s1 : smN (fun j => sd4 I' (row + rd I' (bI b 2) j) (col + rd I' (bI b 3) j)) n = sdC I b n row col := sdC_S hK.1 fx n row col
        rw [s1]
        have s2 := sdC_bd hK.2.2.1 row col
        have hin : inS (row + rd I (bI b 2) 0) (col + rd I (bI b 3) 0) := first_in hK q43'.2
        refine w_istore dX5_collect_61 rfl rfl ?_
        refine w_aload_n dX5_collect_63 rfl ?_
        refine w_aload_n dX5_collect_64 rfl ?_
        refine w_iload dX5_collect_65 rfl ?_
        refine w_iload dX5_collect_67 rfl ?_
        refine v_callV3 dX5_collect_69 lX5_43 vX8_fibreWorth (by decide) rfl rfl ⟨by decide, rfl⟩ (by decide) rfl (Nat.le_of_ble_eq_true rfl) ?_
        refine x8_fibreWorth hK.1 (shK_S fx hs).1 (shK_S fx hs).2.1 (by omega) (by omega) (fun qf => ?_) (fun qf => ?_)
        all_goals rw [qLq_S hK.1 fx] at qf
        rotate_left
        rw [show wLs I' 147 16 (fun i : Int => tF I' (bI b 7) (bI b 8) 5 i) row 5 + wLs I' 150 32 (fun i : Int => tF I' (bI b 10) (bI b 11) 10 i) col 10 = fwC I b row col from fwC_S hK.1 fx row col]
        have f2 := fwC_bd hs b row col
        rotate_left
        · refine w_istore dX5_collect_72 rfl rfl ?_
          refine w_iload dX5_collect_74 rfl ?_
          refine w_iconst (v := iI (-1)) dX5_collect_76 rfl ?_
          refine v_icmp_eq 129 dX5_collect_77 (by decide) (by decide) (by decide) (fun _ => ?_) (fun q => absurd q (by decide))
          refine v_iinc dX5_collect_129 rfl rfl rfl ?_
          refine w_goto 30 dX5_collect_132 (by decide) ?_
          refine w_keep 7 ?_
          refine ih row (col + 1) m I' J' (by omega) (by omega) (by omega) (by omega) hx hJ (pE_skip plS_rg hp (by omega) (fun g => ?_)) (by have := nB_nx (row + rd I (bI b 2) 0) (col + rd I (bI b 3) 0); rw [show col + 1 + rd I (bI b 3) 0 = col + rd I (bI b 3) 0 + 1 by omega]; omega)
          exact g.2.2.1 qf
        · refine w_istore dX5_collect_72 rfl rfl ?_
          refine w_iload dX5_collect_74 rfl ?_
          refine w_iconst (v := iI (-1)) dX5_collect_76 rfl ?_
          refine v_icmp_eq 129 dX5_collect_77 (by decide) (by omega) (by omega) (fun c77 => absurd c77 (by omega)) (fun c77 => ?_)
          refine w_iload_n dX5_collect_80 rfl ?_
          refine v_if_eq 92 dX5_collect_81 (by decide) (by omega) (fun c81 => ?_) (fun c81 => ?_)
          · refine w_aload_n dX5_collect_92 rfl ?_
            refine w_aload_n dX5_collect_93 rfl ?_
            refine w_iload dX5_collect_94 rfl ?_
            refine w_iload dX5_collect_96 rfl ?_
            refine w_aload dX5_collect_98 rfl ?_
            refine v_callV4 dX5_collect_100 lX5_46 vX8_runsCanWith (by decide) rfl rfl ⟨by decide, rfl⟩ (by decide) rfl (Nat.le_of_ble_eq_true rfl) ?_
            refine x8_runsCanWith (wn := wn) hK.1 (wRL_S fx hJ hL) (bK_S fx hK).2.1 (RBc_S hK.1 fx hK.2.2.1) (RBe_S hK.1 fx hK.2.2.2.1) (by omega) (by omega) (fun y x g => ⟨(q43'.2 y x g).1, by rw [sgAt_S fx]; exact hs.2.2 y x (q43'.2 y x g).1 (q43'.2 y x g).2⟩) ((aC_S fx).mpr ha) (fun qr J1 j1 => ?_) (fun qr J1 j1 => ?_)
            all_goals (have qr' : _ := (wC_S fx (wn := wn) (ce := ce) (R := row) (C := col)); have j2 : ∀ id k, id ≠ 140 → id ≠ 141 → J1 id k = J id k := fun id k u1 u2 => by rw [j1 id k u1 u2]; exact hJ id k u1 u2)
            · refine v_if_eq 129 dX5_collect_103 (by decide) (by decide) (fun q => absurd q (by decide)) (fun _ => ?_)
              refine w_aload_n dX5_collect_106 rfl ?_
              refine w_iload dX5_collect_107 rfl ?_
              refine w_iload dX5_collect_109 rfl ?_
              refine w_iload dX5_collect_111 rfl ?_
              refine w_iload dX5_collect_113 rfl ?_
              refine v_iadd dX5_collect_115 ?_
              refine w_iload dX5_collect_116 rfl ?_
              refine v_if_le 125 dX5_collect_118 (by decide) (by omega) (fun c118 => ?_) (fun c118 => ?_)
              · refine w_iconst (v := iI 0) dX5_collect_125 rfl ?_
                refine v_callV4 dX5_collect_126 lX5_50 vX5_add (by decide) rfl rfl ⟨by decide, rfl⟩ (by decide) rfl (Nat.le_of_ble_eq_true rfl) ?_
                refine x5_add_d (by omega) (by omega) (by omega) (by omega) hp.2.1 (by have := nB_ad hin; omega) ?_
                refine v_iinc dX5_collect_129 rfl rfl rfl ?_
                refine w_goto 30 dX5_collect_132 (by decide) ?_
                refine w_keep 7 ?_
                refine ih row (col + 1) (m + 1) _ J1 (by omega) (by omega) (by omega) (by omega) (fun id k u => ?_) j2 (pE_add plS_rg hp (by omega) (by omega) ⟨ha, q43', qf, ?_, qr'.mp qr⟩ (by have := nB_ad hin; omega) rfl ?_ (by omega)) (by have := nB_ad hin; rw [show col + 1 + rd I (bI b 3) 0 = col + rd I (bI b 3) 0 + 1 by omega]; omega)
                · rw [pW_rd (by omega) (by omega) (by omega) (by omega) (by have := hp.1; omega), if_neg (by omega), if_neg (by omega), if_neg (by omega), if_neg (by omega), if_neg (by omega)]
                  exact hx id k u
                · intro g; omega
                · show _ = if 0 < sdC I b n row col then (1 : Int) else 0
                  first | (exfalso; omega) | rw [if_pos (by omega)] | rw [if_neg (by omega)]
              · refine w_iconst (v := iI 1) dX5_collect_121 rfl ?_
                refine w_goto 126 dX5_collect_122 (by decide) ?_
                refine v_callV4 dX5_collect_126 lX5_50 vX5_add (by decide) rfl rfl ⟨by decide, rfl⟩ (by decide) rfl (Nat.le_of_ble_eq_true rfl) ?_
                refine x5_add_d (by omega) (by omega) (by omega) (by omega) hp.2.1 (by have := nB_ad hin; omega) ?_
                refine v_iinc dX5_collect_129 rfl rfl rfl ?_
                refine w_goto 30 dX5_collect_132 (by decide) ?_
                refine w_keep 7 ?_
                refine ih row (col + 1) (m + 1) _ J1 (by omega) (by omega) (by omega) (by omega) (fun id k u => ?_) j2 (pE_add plS_rg hp (by omega) (by omega) ⟨ha, q43', qf, ?_, qr'.mp qr⟩ (by have := nB_ad hin; omega) rfl ?_ (by omega)) (by have := nB_ad hin; rw [show col + 1 + rd I (bI b 3) 0 = col + rd I (bI b 3) 0 + 1 by omega]; omega)
                · rw [pW_rd (by omega) (by omega) (by omega) (by omega) (by have := hp.1; omega), if_neg (by omega), if_neg (by omega), if_neg (by omega), if_neg (by omega), if_neg (by omega)]
                  exact hx id k u
                · intro g; omega
                · show _ = if 0 < sdC I b n row col then (1 : Int) else 0
                  first | (exfalso; omega) | rw [if_pos (by omega)] | rw [if_neg (by omega)]
            · refine v_if_eq 129 dX5_collect_103 (by decide) (by decide) (fun _ => ?_) (fun q => absurd q (by decide))
              refine v_iinc dX5_collect_129 rfl rfl rfl ?_
              refine w_goto 30 dX5_collect_132 (by decide) ?_
              refine w_keep 7 ?_
              refine ih row (col + 1) m I' J1 (by omega) (by omega) (by omega) (by omega) hx j2 (pE_skip plS_rg hp (by omega) (fun g => ?_)) (by have := nB_nx (row + rd I (bI b 2) 0) (col + rd I (bI b 3) 0); rw [show col + 1 + rd I (bI b 3) 0 = col + rd I (bI b 3) 0 + 1 by omega]; omega)
              exact qr (qr'.mpr g.2.2.2.2)
          · refine w_iload dX5_collect_84 rfl ?_
            refine v_if_ne 92 dX5_collect_86 (by decide) (by omega) (fun c86 => ?_) (fun c86 => ?_)
            · refine w_aload_n dX5_collect_92 rfl ?_
              refine w_aload_n dX5_collect_93 rfl ?_
              refine w_iload dX5_collect_94 rfl ?_
              refine w_iload dX5_collect_96 rfl ?_
              refine w_aload dX5_collect_98 rfl ?_
              refine v_callV4 dX5_collect_100 lX5_46 vX8_runsCanWith (by decide) rfl rfl ⟨by decide, rfl⟩ (by decide) rfl (Nat.le_of_ble_eq_true rfl) ?_
              refine x8_runsCanWith (wn := wn) hK.1 (wRL_S fx hJ hL) (bK_S fx hK).2.1 (RBc_S hK.1 fx hK.2.2.1) (RBe_S hK.1 fx hK.2.2.2.1) (by omega) (by omega) (fun y x g => ⟨(q43'.2 y x g).1, by rw [sgAt_S fx]; exact hs.2.2 y x (q43'.2 y x g).1 (q43'.2 y x g).2⟩) ((aC_S fx).mpr ha) (fun qr J1 j1 => ?_) (fun qr J1 j1 => ?_)
              all_goals (have qr' : _ := (wC_S fx (wn := wn) (ce := ce) (R := row) (C := col)); have j2 : ∀ id k, id ≠ 140 → id ≠ 141 → J1 id k = J id k := fun id k u1 u2 => by rw [j1 id k u1 u2]; exact hJ id k u1 u2)
              · refine v_if_eq 129 dX5_collect_103 (by decide) (by decide) (fun q => absurd q (by decide)) (fun _ => ?_)
                refine w_aload_n dX5_collect_106 rfl ?_
                refine w_iload dX5_collect_107 rfl ?_
                refine w_iload dX5_collect_109 rfl ?_
                refine w_iload dX5_collect_111 rfl ?_
                refine w_iload dX5_collect_113 rfl ?_
                refine v_iadd dX5_collect_115 ?_
                refine w_iload dX5_collect_116 rfl ?_
                refine v_if_le 125 dX5_collect_118 (by decide) (by omega) (fun c118 => ?_) (fun c118 => ?_)
                · refine w_iconst (v := iI 0) dX5_collect_125 rfl ?_
                  refine v_callV4 dX5_collect_126 lX5_50 vX5_add (by decide) rfl rfl ⟨by decide, rfl⟩ (by decide) rfl (Nat.le_of_ble_eq_true rfl) ?_
                  refine x5_add_d (by omega) (by omega) (by omega) (by omega) hp.2.1 (by have := nB_ad hin; omega) ?_
                  refine v_iinc dX5_collect_129 rfl rfl rfl ?_
                  refine w_goto 30 dX5_collect_132 (by decide) ?_
                  refine w_keep 7 ?_
                  refine ih row (col + 1) (m + 1) _ J1 (by omega) (by omega) (by omega) (by omega) (fun id k u => ?_) j2 (pE_add plS_rg hp (by omega) (by omega) ⟨ha, q43', qf, ?_, qr'.mp qr⟩ (by have := nB_ad hin; omega) rfl ?_ (by omega)) (by have := nB_ad hin; rw [show col + 1 + rd I (bI b 3) 0 = col + rd I (bI b 3) 0 + 1 by omega]; omega)
                  · rw [pW_rd (by omega) (by omega) (by omega) (by omega) (by have := hp.1; omega), if_neg (by omega), if_neg (by omega), if_neg (by omega), if_neg (by omega), if_neg (by omega)]
                    exact hx id k u
                  · intro g; omega
                  · show _ = if 0 < sdC I b n row col then (1 : Int) else 0
                    first | (exfalso; omega) | rw [if_pos (by omega)] | rw [if_neg (by omega)]
                · refine w_iconst (v := iI 1) dX5_collect_121 rfl ?_
                  refine w_goto 126 dX5_collect_122 (by decide) ?_
                  refine v_callV4 dX5_collect_126 lX5_50 vX5_add (by decide) rfl rfl ⟨by decide, rfl⟩ (by decide) rfl (Nat.le_of_ble_eq_true rfl) ?_
                  refine x5_add_d (by omega) (by omega) (by omega) (by omega) hp.2.1 (by have := nB_ad hin; omega) ?_
                  refine v_iinc dX5_collect_129 rfl rfl rfl ?_
                  refine w_goto 30 dX5_collect_132 (by decide) ?_
                  refine w_keep 7 ?_
                  refine ih row (col + 1) (m + 1) _ J1 (by omega) (by omega) (by omega) (by omega) (fun id k u => ?_) j2 (pE_add plS_rg hp (by omega) (by omega) ⟨ha, q43', qf, ?_, qr'.mp qr⟩ (by have := nB_ad hin; omega) rfl ?_ (by omega)) (by have := nB_ad hin; rw [show col + 1 + rd I (bI b 3) 0 = col + rd I (bI b 3) 0 + 1 by omega]; omega)
                  · rw [pW_rd (by omega) (by omega) (by omega) (by omega) (by have := hp.1; omega), if_neg (by omega), if_neg (by omega), if_neg (by omega), if_neg (by omega), if_neg (by omega)]
                    exact hx id k u
                  · intro g; omega
                  · show _ = if 0 < sdC I b n row col then (1 : Int) else 0
                    first | (exfalso; omega) | rw [if_pos (by omega)] | rw [if_neg (by omega)]
              · refine v_if_eq 129 dX5_collect_103 (by decide) (by decide) (fun _ => ?_) (fun q => absurd q (by decide))
                refine v_iinc dX5_collect_129 rfl rfl rfl ?_
                refine w_goto 30 dX5_collect_132 (by decide) ?_
                refine w_keep 7 ?_
                refine ih row (col + 1) m I' J1 (by omega) (by omega) (by omega) (by omega) hx j2 (pE_skip plS_rg hp (by omega) (fun g => ?_)) (by have := nB_nx (row + rd I (bI b 2) 0) (col + rd I (bI b 3) 0); rw [show col + 1 + rd I (bI b 3) 0 = col + rd I (bI b 3) 0 + 1 by omega]; omega)
                exact qr (qr'.mpr g.2.2.2.2)
            · refine w_goto 129 dX5_collect_89 (by decide) ?_
              refine v_iinc dX5_collect_129 rfl rfl rfl ?_
              refine w_goto 30 dX5_collect_132 (by decide) ?_
              refine w_keep 7 ?_
              refine ih row (col + 1) m I' J' (by omega) (by omega) (by omega) (by omega) hx hJ (pE_skip plS_rg hp (by omega) (fun g => ?_)) (by have := nB_nx (row + rd I (bI b 2) 0) (col + rd I (bI b 3) 0); rw [show col + 1 + rd I (bI b 3) 0 = col + rd I (bI b 3) 0 + 1 by omega]; omega)
              exact g.2.2.2.1 (by omega) (by omega)
      · refine v_if_ne 52 dX5_collect_46 (by decide) (by decide) (fun q => absurd q (by decide)) (fun _ => ?_)
        refine w_goto 129 dX5_collect_49 (by decide) ?_
        refine v_iinc dX5_collect_129 rfl rfl rfl ?_
        refine w_goto 30 dX5_collect_132 (by decide) ?_
        refine w_keep 7 ?_
        refine ih row (col + 1) m I' J' (by omega) (by omega) (by omega) (by omega) hx hJ (pE_skip plS_rg hp (by omega) (fun g => ?_)) (by have := nB_nx (row + rd I (bI b 2) 0) (col + rd I (bI b 3) 0); rw [show col + 1 + rd I (bI b 3) 0 = col + rd I (bI b 3) 0 + 1 by omega]; omega)
        exact q43' g.2.1
theorem x5_collect_d {I : Nat → Nat → Int32} {J : Nat → Nat → Int64} {F : Option Value → zM → Prop} {b n wn : Nat} {ce : Nat → Int} (hK : bK I b ce n) (hs : shK I) (hL : wRL I J wn) {to : Int} (hto : to = 0 ∨ to = 1) (h : ∀ (I' : Nat → Nat → Int32) (J' : Nat → Nat → Int64) (m : Nat), (∀ id k, ¬ (157 ≤ id ∧ id ≤ 161) → rd I' id k = rd I id k) → (∀ id k, id ≠ 140 → id ≠ 141 → J' id k = J id k) → pE I' 157 m (plS I b ce n wn to) (gnC I b n) (tcC I b n) → F none (gM I' J')) : Cl yX5_collect kX5_collect [.ref 157, .ref (bI b 0), .int (iI to), .ref 142, .ref 134] (gM I J) F := by
  refine cl_s (by decide) (by decide) (Nat.le_of_ble_eq_true rfl) rt_v ?_
  show Wp _ F 0 [(0, .ref 157), (1, .ref (bI b 0)), (2, .int (iI to)), (3, .ref 142), (4, .ref 134)] [] _
  refine w_aload_n dX5_collect_0 rfl ?_
  refine w_iconst (v := iI 0) dX5_collect_1 rfl ?_
  refine v_putI dX5_collect_2 fX5_25 ⟨by decide, rfl⟩ rfl (Or.inl rfl) ?_
  refine w_aload_n dX5_collect_5 rfl ?_
  refine w_aload dX5_collect_6 rfl ?_
  refine v_callV1 dX5_collect_8 lX5_29 vX8_allRunsCan (by decide) rfl rfl ⟨by decide, rfl⟩ (by decide) rfl (Nat.le_of_ble_eq_true rfl) ?_
  have fx : ∀ id k, ¬ (157 ≤ id ∧ id ≤ 161) → rd (wr I 157 4 0) id k = rd I id k := fun id k g => rd_wr_row (by omega)
  have fx2 : fS I (wr I 157 4 0) := fun id k g => fx id k (by omega)
  refine x8_allRunsCan (wRL_S fx2 (fun _ _ _ _ => rfl) hL) (fun ha J1 j1 => ?_) (fun ha J1 j1 => ?_)
  all_goals have hac : aC (wr I 157 4 0) wn ↔ aC I wn := aC_S fx2
  · refine v_if_ne 15 dX5_collect_11 (by decide) (by decide) (fun _ => ?_) (fun q => absurd q (by decide))
    refine w_bipush (v := iI (-4)) dX5_collect_15 (by decide) ?_
    refine w_istore dX5_collect_17 rfl rfl ?_
    refine w_iload dX5_collect_19 rfl ?_
    refine w_bipush (v := iI 16) dX5_collect_21 (by decide) ?_
    refine v_icmp_ge 141 dX5_collect_23 (by decide) (by decide) (by decide) (fun q => absurd q (by decide)) (fun _ => ?_)
    refine w_bipush (v := iI (-9)) dX5_collect_26 (by decide) ?_
    refine w_istore dX5_collect_28 rfl rfl ?_
    refine x5_collect_d_l hK hs hL hto h (hac.mp ha) 2000 (-4) (-9) 0 _ J1 (by omega) (by omega) (by omega) (by omega) fx j1 ⟨by omega, rd_wr_eq (by decide) (by decide), fun j hj => by omega, fun i j _ hj => by omega, fun R C hS => ?_⟩ (nB_le _ _).1
    exact absurd hS.2 (by have := plS_rg R C hS.1; omega)
  · refine v_if_ne 15 dX5_collect_11 (by decide) (by decide) (fun q => absurd q (by decide)) (fun _ => ?_)
    refine v_vret dX5_collect_14 rfl ⟨rfl, rfl⟩ ?_
    refine h _ J1 0 fx j1 ⟨by omega, rd_wr_eq (by decide) (by decide), fun j hj => by omega, fun i j _ hj => by omega, fun R C hS => ?_⟩
    exact absurd (hac.mpr hS.1) ha
theorem x5_listTouching_l {I : Nat → Nat → Int32} {J : Nat → Nat → Int64} {F : Option Value → zM → Prop} {m : Nat} (hm : m ≤ 512) (hc : rd I 157 4 = m) (h : ∀ (I' : Nat → Nat → Int32) (f : Nat), (∀ id k, id ≠ 162 → rd I' id k = rd I id k) → tE I' f m → F (some (.int (iI (f : Int)))) (gM I' J)) : ∀ (nz : Nat) (k : Nat) (f : Nat) (I' : Nat → Nat → Int32), m - k < nz → k ≤ m → (∀ id k, id ≠ 162 → rd I' id k = rd I id k) → tE I' f k → Wp (sE kX5_listTouching RX5) F 4 [(0, .ref 157), (1, .ref 162), (2, .int (iI (f : Int))), (3, .int (iI (k : Int)))] [] (gM I' J) := by
  intro nz
  induction nz with
  | zero =>
    intro k f I' hmz hk hx ht
    exact absurd hmz (Nat.not_lt_zero _)
  | succ nz ih =>
    intro k f I' hmz hk hx ht
    refine w_iload_n dX5_listTouching_4 rfl ?_
    refine w_aload_n dX5_listTouching_5 rfl ?_
    refine v_getI dX5_listTouching_6 fX5_25 ⟨by decide, rfl⟩ (Or.inl rfl) (fun z6 e6 b6 => ?_)
    have f6 : z6 = m := by rw [e6, hx _ _ (by decide)]; exact hc
    refine v_icmp_ge 40 dX5_listTouching_9 (by decide) (by first | omega | (have := ht.1; omega)) (by first | omega | (have := ht.1; omega)) (fun c9 => ?_) (fun c9 => ?_)
    · refine w_iload_n dX5_listTouching_40 rfl ?_
      refine v_iret dX5_listTouching_41 rfl ⟨rfl, rfl⟩ ?_
      first
        | (have e0 : k = m := by omega
           rw [e0] at ht
           exact h I' f hx ht)
        | (exfalso; have := ht.1; omega)
    · refine w_iload_n dX5_listTouching_12 rfl ?_
      refine w_aload_n dX5_listTouching_13 rfl ?_
      refine v_alen0 dX5_listTouching_14 ⟨by decide, rfl⟩ ?_
      refine v_icmp_ge 40 dX5_listTouching_15 (by decide) (by first | omega | (have := ht.1; omega)) (by first | omega | (have := ht.1; omega)) (fun c15 => ?_) (fun c15 => ?_)
      · refine w_iload_n dX5_listTouching_40 rfl ?_
        refine v_iret dX5_listTouching_41 rfl ⟨rfl, rfl⟩ ?_
        first
          | (have e0 : k = m := by omega
             rw [e0] at ht
             exact h I' f hx ht)
          | (exfalso; have := ht.1; omega)
      · refine w_aload_n dX5_listTouching_18 rfl ?_
        refine v_getR (j := 161) dX5_listTouching_19 fX5_21 ⟨by decide, rfl⟩ rfl rfl ?_
        refine w_iload_n dX5_listTouching_22 rfl ?_
        refine v_zald dX5_listTouching_23 ⟨by decide, rfl⟩ (by first | omega | (have := ht.1; omega)) (by first | omega | (have := ht.1; omega)) (by decide) (fun z23 e23 b23 => ?_)
        have f23 : z23 = rd I 161 k := by rw [e23, hx _ _ (by decide)]; rfl
        refine v_if_eq 34 dX5_listTouching_24 (by decide) (by first | omega | (have := ht.1; omega)) (fun c24 => ?_) (fun c24 => ?_)
        · refine v_iinc dX5_listTouching_34 rfl rfl rfl ?_
          refine w_goto 4 dX5_listTouching_37 (by decide) ?_
          rw [show (k : Int) + 1 = ((k + 1 : Nat) : Int) by omega]
          have w3 : ∀ t, rd I' 161 t = rd I 161 t := fun t => hx _ _ (by decide)
          refine ih (k + 1) f I' (by omega) (by omega) hx ?_
          obtain ⟨t1, t2, t3, t4⟩ := ht
          refine ⟨by omega, fun t hf => ?_, t3, fun i hi g => ?_⟩
          · have := t2 t hf; omega
          · rcases Nat.lt_succ_iff_lt_or_eq.mp hi with u | u
            · exact t4 i u g
            · rw [u, w3, ← f23] at g; omega
        · refine w_aload_n dX5_listTouching_27 rfl ?_
          refine w_iload_n dX5_listTouching_28 rfl ?_
          refine w_iload_n dX5_listTouching_29 rfl ?_
          refine v_iast dX5_listTouching_30 ⟨by decide, rfl⟩ (by have := ht.1; omega) (by have := ht.1; omega) (by decide) ?_
          refine v_iinc dX5_listTouching_31 rfl rfl rfl ?_
          refine v_iinc dX5_listTouching_34 rfl rfl rfl ?_
          refine w_goto 4 dX5_listTouching_37 (by decide) ?_
          rw [Int.toNat_natCast]
          rw [show (k : Int) + 1 = ((k + 1 : Nat) : Int) by omega]
          rw [show (f : Int) + 1 = ((f + 1 : Nat) : Int) by omega]
          have w1 : ∀ t, rd (wr I' 162 f k) 162 t = if t = f then (k : Int) else rd I' 162 t := fun t => by
            rw [rd_wr (by omega) (by omega)]
            by_cases g : t = f
            · rw [if_pos ⟨rfl, g⟩, if_pos g]
            · rw [if_neg (fun q => g q.2), if_neg g]
          have w2 : ∀ t, rd (wr I' 162 f k) 161 t = rd I' 161 t := fun t => rd_wr_row (by decide)
          have w3 : ∀ t, rd I' 161 t = rd I 161 t := fun t => hx _ _ (by decide)
          refine ih (k + 1) (f + 1) _ (by omega) (by omega) (fun id k' g => by rw [rd_wr_row g]; exact hx id k' g) ?_
          obtain ⟨t1, t2, t3, t4⟩ := ht
          refine ⟨by omega, fun t hf => ?_, fun s t h1 h2 => ?_, fun i hi g => ?_⟩
          · rw [w1, w2]
            by_cases g : t = f
            · rw [if_pos g, show ((k : Int)).toNat = k by omega, w3, ← f23]; omega
            · rw [if_neg g]; have := t2 t (by omega); omega
          · rw [w1, w1, if_neg (show ¬ s = f by omega)]
            by_cases g : t = f
            · rw [if_pos g]; exact (t2 s (by omega)).2.1
            · rw [if_neg g]; exact t3 s t h1 (by omega)
          · rw [w2] at g
            rcases Nat.lt_succ_iff_lt_or_eq.mp hi with u | u
            · obtain ⟨t, v1, v2⟩ := t4 i u g
              exact ⟨t, by omega, by rw [w1, if_neg (by omega)]; exact v2⟩
            · exact ⟨f, by omega, by rw [w1, if_pos rfl, u]⟩
theorem x5_listTouching {I : Nat → Nat → Int32} {J : Nat → Nat → Int64} {F : Option Value → zM → Prop} {m : Nat} (hm : m ≤ 512) (hc : rd I 157 4 = m) (h : ∀ (I' : Nat → Nat → Int32) (f : Nat), (∀ id k, id ≠ 162 → rd I' id k = rd I id k) → tE I' f m → F (some (.int (iI (f : Int)))) (gM I' J)) : Cl yX5_listTouching kX5_listTouching [.ref 157, .ref 162] (gM I J) F := by
  refine cl_s (by decide) (by decide) (Nat.le_of_ble_eq_true rfl) rt_i ?_
  show Wp _ F 0 [(0, .ref 157), (1, .ref 162)] [] _
  refine w_iconst (v := iI 0) dX5_listTouching_0 rfl ?_
  refine w_istore_n dX5_listTouching_1 rfl rfl ?_
  refine w_iconst (v := iI 0) dX5_listTouching_2 rfl ?_
  refine w_istore_n dX5_listTouching_3 rfl rfl ?_
  exact x5_listTouching_l hm hc h (m + 1) 0 0 I (by omega) (by omega) (fun _ _ _ => rfl) ⟨by omega, fun t g => by omega, fun s t _ g => by omega, fun i g => by omega⟩
