/-! what THE SHEET is worth: the class -/
def mE (p q : Int) : Int := if p ≠ -1 ∧ q ≠ -1 ∧ p ≠ q then 1 else 0
def mT (I : Nat → Nat → Int32) (y x : Int) : Int := mE (owAt I y x) (owAt I y (x + 1)) + mE (owAt I y x) (owAt I (y + 1) x)
theorem x8_wholeWorth_l {I : Nat → Nat → Int32} {J : Nat → Nat → Int64} {F : Option Value → zM → Prop} (h : F (some (.int (iI ((smN (fun l => rd I 147 l * (rd I 147 l - 1)) 16 + smN (fun l => rd I 150 l * (rd I 150 l - 1)) 32) + smN (fun k => mT I ((k / 32 : Nat) : Int) ((k % 32 : Nat) : Int)) 512)))) (gM I J)) : ∀ (nz : Nat) (r : Nat) (c : Nat) (u : Int), (16 - r) * 33 + (32 - c) < nz → r < 16 → c ≤ 32 → u = (smN (fun l => rd I 147 l * (rd I 147 l - 1)) 16 + smN (fun l => rd I 150 l * (rd I 150 l - 1)) 32) + smN (fun k => mT I ((k / 32 : Nat) : Int) ((k % 32 : Nat) : Int)) (32 * r + c) → Wp (sE kX8_wholeWorth RX8) F 26 [(0, .ref 142), (1, .int (iI u)), (2, .int (iI (r : Int))), (3, .int (iI (c : Int)))] [] (gM I J) := by
  intro nz
  induction nz with
  | zero =>
    intro r c u hmz hr hc hu
    exact absurd hmz (Nat.not_lt_zero _)
  | succ nz ih =>
    intro r c u hmz hr hc hu
    refine w_iload_n dX8_wholeWorth_26 rfl ?_
    refine w_bipush (v := iI 32) dX8_wholeWorth_27 (by decide) ?_
    refine v_icmp_ge 76 dX8_wholeWorth_29 (by decide) (by omega) (by omega) (fun c29 => ?_) (fun c29 => ?_)
    · refine v_iinc dX8_wholeWorth_76 rfl rfl rfl ?_
      refine w_goto 18 dX8_wholeWorth_79 (by decide) ?_
      refine w_iload_n dX8_wholeWorth_18 rfl ?_
      refine w_bipush (v := iI 16) dX8_wholeWorth_19 (by decide) ?_
      refine v_icmp_ge 82 dX8_wholeWorth_21 (by decide) (by omega) (by omega) (fun c21 => ?_) (fun c21 => ?_)
      · refine w_iload_n dX8_wholeWorth_82 rfl ?_
        refine v_iret dX8_wholeWorth_83 rfl ⟨rfl, rfl⟩ ?_
        rw [hu, show 32 * r + c = 512 by omega]
        exact h
      · refine w_iconst (v := iI 0) dX8_wholeWorth_24 rfl ?_
        refine w_istore_n dX8_wholeWorth_25 rfl rfl ?_
        first
          | (rw [show (r : Int) + 1 = ((r + 1 : Nat) : Int) by omega]
             refine ih (r + 1) 0 u (by omega) (by omega) (by omega) ?_
             rw [hu, show 32 * (r + 1) + 0 = 32 * r + c by omega])
          | (refine w_keep 4 ?_
             rw [show (c : Int) + 1 = ((c + 1 : Nat) : Int) by omega]
             refine ih r (c + 1) _ (by omega) (by omega) (by omega) ?_
             have e1 : smN (fun k => mT I ((k / 32 : Nat) : Int) ((k % 32 : Nat) : Int)) (32 * r + (c + 1)) = smN (fun k => mT I ((k / 32 : Nat) : Int) ((k % 32 : Nat) : Int)) (32 * r + c) + mT I (((32 * r + c) / 32 : Nat) : Int) (((32 * r + c) % 32 : Nat) : Int) := rfl
             rw [show (32 * r + c) / 32 = r by omega, show (32 * r + c) % 32 = c by omega] at e1
             have e2 : mT I r c = mE z35 z48 + mE z35 z61 := by unfold mT; rw [← e35, ← e48, ← e61]
             have e3 : mE z35 z48 = 1 ∨ mE z35 z48 = 0 := by unfold mE; split <;> simp
             rw [e1, e2, hu]
             first
               | (have a1 : mE z35 z48 = 1 := if_pos m51
                  first
                    | (have a2 : mE z35 z61 = 1 := if_pos m64
                       omega)
                    | (have a2 : mE z35 z61 = 0 := if_neg m64
                       omega))
               | (have a1 : mE z35 z48 = 0 := if_neg m51
                  first
                    | (have a2 : mE z35 z61 = 1 := if_pos m64
                       omega)
                    | (have a2 : mE z35 z61 = 0 := if_neg m64
                       omega)))
    · refine w_aload_n dX8_wholeWorth_32 rfl ?_
      refine w_iload_n dX8_wholeWorth_33 rfl ?_
      refine w_iload_n dX8_wholeWorth_34 rfl ?_
      refine v_callV2 dX8_wholeWorth_35 lX8_59 vX8_ownerAt (by decide) rfl rfl ⟨by decide, rfl⟩ (by decide) rfl (Nat.le_of_ble_eq_true rfl) ?_
      refine x8_ownerAt (by omega) (by omega) (fun z35 e35 b35 => ?_)
      refine w_istore dX8_wholeWorth_38 rfl rfl ?_
      refine w_iload_n dX8_wholeWorth_40 rfl ?_
      refine w_iload dX8_wholeWorth_41 rfl ?_
      refine w_aload_n dX8_wholeWorth_43 rfl ?_
      refine w_iload_n dX8_wholeWorth_44 rfl ?_
      refine w_iload_n dX8_wholeWorth_45 rfl ?_
      refine w_iconst (v := iI 1) dX8_wholeWorth_46 rfl ?_
      refine v_iadd dX8_wholeWorth_47 ?_
      refine v_callV2 dX8_wholeWorth_48 lX8_59 vX8_ownerAt (by decide) rfl rfl ⟨by decide, rfl⟩ (by decide) rfl (Nat.le_of_ble_eq_true rfl) ?_
      refine x8_ownerAt (by omega) (by omega) (fun z48 e48 b48 => ?_)
      refine v_callS2 dX8_wholeWorth_51 lX8_112 vX8_meet (by decide) rfl rfl (Nat.le_of_ble_eq_true rfl) ?_
      refine x8_meet (by omega) (by omega) (fun m51 => ?_) (fun m51 => ?_)
      · refine w_iload dX8_wholeWorth_54 rfl ?_
        refine w_aload_n dX8_wholeWorth_56 rfl ?_
        refine w_iload_n dX8_wholeWorth_57 rfl ?_
        refine w_iconst (v := iI 1) dX8_wholeWorth_58 rfl ?_
        refine v_iadd dX8_wholeWorth_59 ?_
        refine w_iload_n dX8_wholeWorth_60 rfl ?_
        refine v_callV2 dX8_wholeWorth_61 lX8_59 vX8_ownerAt (by decide) rfl rfl ⟨by decide, rfl⟩ (by decide) rfl (Nat.le_of_ble_eq_true rfl) ?_
        refine x8_ownerAt (by omega) (by omega) (fun z61 e61 b61 => ?_)
        refine v_callS2 dX8_wholeWorth_64 lX8_112 vX8_meet (by decide) rfl rfl (Nat.le_of_ble_eq_true rfl) ?_
        refine x8_meet (by omega) (by omega) (fun m64 => ?_) (fun m64 => ?_)
        · refine v_iadd dX8_wholeWorth_67 ?_
          refine v_iadd dX8_wholeWorth_68 ?_
          refine w_istore_n dX8_wholeWorth_69 rfl rfl ?_
          refine v_iinc dX8_wholeWorth_70 rfl rfl rfl ?_
          refine w_goto 26 dX8_wholeWorth_73 (by decide) ?_
          first
            | (rw [show (r : Int) + 1 = ((r + 1 : Nat) : Int) by omega]
               refine ih (r + 1) 0 u (by omega) (by omega) (by omega) ?_
               rw [hu, show 32 * (r + 1) + 0 = 32 * r + c by omega])
            | (refine w_keep 4 ?_
               rw [show (c : Int) + 1 = ((c + 1 : Nat) : Int) by omega]
               refine ih r (c + 1) _ (by omega) (by omega) (by omega) ?_
               have e1 : smN (fun k => mT I ((k / 32 : Nat) : Int) ((k % 32 : Nat) : Int)) (32 * r + (c + 1)) = smN (fun k => mT I ((k / 32 : Nat) : Int) ((k % 32 : Nat) : Int)) (32 * r + c) + mT I (((32 * r + c) / 32 : Nat) : Int) (((32 * r + c) % 32 : Nat) : Int) := rfl
               rw [show (32 * r + c) / 32 = r by omega, show (32 * r + c) % 32 = c by omega] at e1
               have e2 : mT I r c = mE z35 z48 + mE z35 z61 := by unfold mT; rw [← e35, ← e48, ← e61]
               have e3 : mE z35 z48 = 1 ∨ mE z35 z48 = 0 := by unfold mE; split <;> simp
               rw [e1, e2, hu]
               first
                 | (have a1 : mE z35 z48 = 1 := if_pos m51
                    first
                      | (have a2 : mE z35 z61 = 1 := if_pos m64
                         omega)
                      | (have a2 : mE z35 z61 = 0 := if_neg m64
                         omega))
                 | (have a1 : mE z35 z48 = 0 := if_neg m51
                    first
                      | (have a2 : mE z35 z61 = 1 := if_pos m64
                         omega)
                      | (have a2 : mE z35 z61 = 0 := if_neg m64
                         omega)))
        · refine v_iadd dX8_wholeWorth_67 ?_
          refine v_iadd dX8_wholeWorth_68 ?_
          refine w_istore_n dX8_wholeWorth_69 rfl rfl ?_
          refine v_iinc dX8_wholeWorth_70 rfl rfl rfl ?_
          refine w_goto 26 dX8_wholeWorth_73 (by decide) ?_
          first
            | (rw [show (r : Int) + 1 = ((r + 1 : Nat) : Int) by omega]
               refine ih (r + 1) 0 u (by omega) (by omega) (by omega) ?_
               rw [hu, show 32 * (r + 1) + 0 = 32 * r + c by omega])
            | (refine w_keep 4 ?_
               rw [show (c : Int) + 1 = ((c + 1 : Nat) : Int) by omega]
               refine ih r (c + 1) _ (by omega) (by omega) (by omega) ?_
               have e1 : smN (fun k => mT I ((k / 32 : Nat) : Int) ((k % 32 : Nat) : Int)) (32 * r + (c + 1)) = smN (fun k => mT I ((k / 32 : Nat) : Int) ((k % 32 : Nat) : Int)) (32 * r + c) + mT I (((32 * r + c) / 32 : Nat) : Int) (((32 * r + c) % 32 : Nat) : Int) := rfl
               rw [show (32 * r + c) / 32 = r by omega, show (32 * r + c) % 32 = c by omega] at e1
               have e2 : mT I r c = mE z35 z48 + mE z35 z61 := by unfold mT; rw [← e35, ← e48, ← e61]
               have e3 : mE z35 z48 = 1 ∨ mE z35 z48 = 0 := by unfold mE; split <;> simp
               rw [e1, e2, hu]
               first
                 | (have a1 : mE z35 z48 = 1 := if_pos m51
                    first
                      | (have a2 : mE z35 z61 = 1 := if_pos m64
                         omega)
                      | (have a2 : mE z35 z61 = 0 := if_neg m64
                         omega))
                 | (have a1 : mE z35 z48 = 0 := if_neg m51
                    first
                      | (have a2 : mE z35 z61 = 1 := if_pos m64
                         omega)
                      | (have a2 : mE z35 z61 = 0 := if_neg m64
                         omega)))
      · refine w_iload dX8_wholeWorth_54 rfl ?_
        refine w_aload_n dX8_wholeWorth_56 rfl ?_
        refine w_iload_n dX8_wholeWorth_57 rfl ?_
        refine w_iconst (v := iI 1) dX8_wholeWorth_58 rfl ?_
        refine v_iadd dX8_wholeWorth_59 ?_
        refine w_iload_n dX8_wholeWorth_60 rfl ?_
        refine v_callV2 dX8_wholeWorth_61 lX8_59 vX8_ownerAt (by decide) rfl rfl ⟨by decide, rfl⟩ (by decide) rfl (Nat.le_of_ble_eq_true rfl) ?_
        refine x8_ownerAt (by omega) (by omega) (fun z61 e61 b61 => ?_)
        refine v_callS2 dX8_wholeWorth_64 lX8_112 vX8_meet (by decide) rfl rfl (Nat.le_of_ble_eq_true rfl) ?_
        refine x8_meet (by omega) (by omega) (fun m64 => ?_) (fun m64 => ?_)
        · refine v_iadd dX8_wholeWorth_67 ?_
          refine v_iadd dX8_wholeWorth_68 ?_
          refine w_istore_n dX8_wholeWorth_69 rfl rfl ?_
          refine v_iinc dX8_wholeWorth_70 rfl rfl rfl ?_
          refine w_goto 26 dX8_wholeWorth_73 (by decide) ?_
          first
            | (rw [show (r : Int) + 1 = ((r + 1 : Nat) : Int) by omega]
               refine ih (r + 1) 0 u (by omega) (by omega) (by omega) ?_
               rw [hu, show 32 * (r + 1) + 0 = 32 * r + c by omega])
            | (refine w_keep 4 ?_
               rw [show (c : Int) + 1 = ((c + 1 : Nat) : Int) by omega]
               refine ih r (c + 1) _ (by omega) (by omega) (by omega) ?_
               have e1 : smN (fun k => mT I ((k / 32 : Nat) : Int) ((k % 32 : Nat) : Int)) (32 * r + (c + 1)) = smN (fun k => mT I ((k / 32 : Nat) : Int) ((k % 32 : Nat) : Int)) (32 * r + c) + mT I (((32 * r + c) / 32 : Nat) : Int) (((32 * r + c) % 32 : Nat) : Int) := rfl
               rw [show (32 * r + c) / 32 = r by omega, show (32 * r + c) % 32 = c by omega] at e1
               have e2 : mT I r c = mE z35 z48 + mE z35 z61 := by unfold mT; rw [← e35, ← e48, ← e61]
               have e3 : mE z35 z48 = 1 ∨ mE z35 z48 = 0 := by unfold mE; split <;> simp
               rw [e1, e2, hu]
               first
                 | (have a1 : mE z35 z48 = 1 := if_pos m51
                    first
                      | (have a2 : mE z35 z61 = 1 := if_pos m64
                         omega)
                      | (have a2 : mE z35 z61 = 0 := if_neg m64
                         omega))
                 | (have a1 : mE z35 z48 = 0 := if_neg m51
                    first
                      | (have a2 : mE z35 z61 = 1 := if_pos m64
                         omega)
                      | (have a2 : mE z35 z61 = 0 := if_neg m64
                         omega)))
        · refine v_iadd dX8_wholeWorth_67 ?_
          refine v_iadd dX8_wholeWorth_68 ?_
          refine w_istore_n dX8_wholeWorth_69 rfl rfl ?_
          refine v_iinc dX8_wholeWorth_70 rfl rfl rfl ?_
          refine w_goto 26 dX8_wholeWorth_73 (by decide) ?_
          first
            | (rw [show (r : Int) + 1 = ((r + 1 : Nat) : Int) by omega]
               refine ih (r + 1) 0 u (by omega) (by omega) (by omega) ?_
               rw [hu, show 32 * (r + 1) + 0 = 32 * r + c by omega])
            | (refine w_keep 4 ?_
               rw [show (c : Int) + 1 = ((c + 1 : Nat) : Int) by omega]
               refine ih r (c + 1) _ (by omega) (by omega) (by omega) ?_
               have e1 : smN (fun k => mT I ((k / 32 : Nat) : Int) ((k % 32 : Nat) : Int)) (32 * r + (c + 1)) = smN (fun k => mT I ((k / 32 : Nat) : Int) ((k % 32 : Nat) : Int)) (32 * r + c) + mT I (((32 * r + c) / 32 : Nat) : Int) (((32 * r + c) % 32 : Nat) : Int) := rfl
               rw [show (32 * r + c) / 32 = r by omega, show (32 * r + c) % 32 = c by omega] at e1
               have e2 : mT I r c = mE z35 z48 + mE z35 z61 := by unfold mT; rw [← e35, ← e48, ← e61]
               have e3 : mE z35 z48 = 1 ∨ mE z35 z48 = 0 := by unfold mE; split <;> simp
               rw [e1, e2, hu]
               first
                 | (have a1 : mE z35 z48 = 1 := if_pos m51
                    first
                      | (have a2 : mE z35 z61 = 1 := if_pos m64
                         omega)
                      | (have a2 : mE z35 z61 = 0 := if_neg m64
                         omega))
                 | (have a1 : mE z35 z48 = 0 := if_neg m51
                    first
                      | (have a2 : mE z35 z61 = 1 := if_pos m64
                         omega)
                      | (have a2 : mE z35 z61 = 0 := if_neg m64
                         omega)))
theorem x8_wholeWorth {I : Nat → Nat → Int32} {J : Nat → Nat → Int64} {F : Option Value → zM → Prop} (h : F (some (.int (iI ((smN (fun l => rd I 147 l * (rd I 147 l - 1)) 16 + smN (fun l => rd I 150 l * (rd I 150 l - 1)) 32) + smN (fun k => mT I ((k / 32 : Nat) : Int) ((k % 32 : Nat) : Int)) 512)))) (gM I J)) : Cl yX8_wholeWorth kX8_wholeWorth [.ref 142] (gM I J) F := by
  refine cl_s (by decide) (by decide) (Nat.le_of_ble_eq_true rfl) rt_i ?_
  show Wp _ F 0 [(0, .ref 142)] [] _
  refine w_aload_n dX8_wholeWorth_0 rfl ?_
  refine v_getR (j := 145) dX8_wholeWorth_1 fX8_23 ⟨by decide, rfl⟩ rfl rfl ?_
  refine v_callV0 dX8_wholeWorth_4 lX8_108 vX3_pairsWorth (by decide) rfl rfl ⟨by decide, rfl⟩ (by decide) rfl (Nat.le_of_ble_eq_true rfl) ?_
  refine x3_pairsWorth_a ?_
  refine w_aload_n dX8_wholeWorth_7 rfl ?_
  refine v_getR (j := 148) dX8_wholeWorth_8 fX8_27 ⟨by decide, rfl⟩ rfl rfl ?_
  refine v_callV0 dX8_wholeWorth_11 lX8_108 vX3_pairsWorth (by decide) rfl rfl ⟨by decide, rfl⟩ (by decide) rfl (Nat.le_of_ble_eq_true rfl) ?_
  refine x3_pairsWorth_d ?_
  refine v_iadd dX8_wholeWorth_14 ?_
  refine w_istore_n dX8_wholeWorth_15 rfl rfl ?_
  refine w_iconst (v := iI 0) dX8_wholeWorth_16 rfl ?_
  refine w_istore_n dX8_wholeWorth_17 rfl rfl ?_
  refine w_iload_n dX8_wholeWorth_18 rfl ?_
  refine w_bipush (v := iI 16) dX8_wholeWorth_19 (by decide) ?_
  refine v_icmp_ge 82 dX8_wholeWorth_21 (by decide) (by decide) (by decide) (fun q => absurd q (by decide)) (fun _ => ?_)
  refine w_iconst (v := iI 0) dX8_wholeWorth_24 rfl ?_
  refine w_istore_n dX8_wholeWorth_25 rfl rfl ?_
  exact x8_wholeWorth_l h 1000 0 0 _ (by omega) (by omega) (by omega) (by rw [smN]; omega)
theorem x11_worth {I : Nat → Nat → Int32} {J : Nat → Nat → Int64} {F : Option Value → zM → Prop} (h : F (some (.int (iI ((smN (fun l => rd I 147 l * (rd I 147 l - 1)) 16 + smN (fun l => rd I 150 l * (rd I 150 l - 1)) 32) + smN (fun k => mT I ((k / 32 : Nat) : Int) ((k % 32 : Nat) : Int)) 512)))) (gM I J)) : Cl yX11_worth kX11_worth [.ref 0] (gM I J) F := by
  refine cl_s (by decide) (by decide) (Nat.le_of_ble_eq_true rfl) rt_i ?_
  show Wp _ F 0 [(0, .ref 0)] [] _
  refine w_aload_n dX11_worth_0 rfl ?_
  refine v_getR (j := 142) dX11_worth_1 fX11_35 ⟨by decide, rfl⟩ rfl rfl ?_
  refine v_callV0 dX11_worth_4 lX11_159 vX8_wholeWorth (by decide) rfl rfl ⟨by decide, rfl⟩ (by decide) rfl (Nat.le_of_ble_eq_true rfl) ?_
  refine x8_wholeWorth ?_
  refine v_iret dX11_worth_7 rfl ⟨rfl, rfl⟩ ?_
  exact h
