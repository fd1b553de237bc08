/-! worthNow, worth: the reference -/
noncomputable def pw (I : Nat → Nat → Int32) (a b : Nat) : Int := if lyB I a ∧ lyB I b then smN (sdK (fun k => rd I 186 k) a b) 512 + smN (fun y => wP (rTa I a (y : Nat)) (rTa I b (y : Nat))) 16 + smN (fun x => wP (rTd I a (x : Nat)) (rTd I b (x : Nat))) 32 else 0
noncomputable def pwR (I : Nat → Nat → Int32) (a : Nat) : Int := smN (fun d => pw I a (a + 1 + d)) (9 - a)
noncomputable def wNow (I : Nat → Nat → Int32) : Int := smN (pwR I) 10
theorem x12_worthNow_l {I : Nat → Nat → Int32} {J : Nat → Nat → Int64} {F : Option Value → zM → Prop} (hR : ∀ b, b < 10 → -1000 ≤ rd I 178 b ∧ rd I 178 b ≤ 1000) (hC : ∀ b, b < 10 → -1000 ≤ rd I 179 b ∧ rd I 179 b ≤ 1000) (h : F (some (.int (iI (wNow I)))) (gM I J)) : ∀ (nz : Nat) (a : Nat) (b : Nat) (u : Int), (10 - a) * 11 + (10 - b) < nz → a < 10 → a < b → b ≤ 10 → u = smN (pwR I) a + smN (fun d => pw I a (a + 1 + d)) (b - (a + 1)) → Wp (sE kX12_worthNow RX12) F 14 [(0, .ref 171), (1, .int (iI u)), (2, .int (iI (a : Int))), (3, .int (iI (b : Int)))] [] (gM I J) := by
  intro nz
  induction nz with
  | zero =>
    intro a b u hmz ha hab hb hu
    exact absurd hmz (Nat.not_lt_zero _)
  | succ nz ih =>
    intro a b u hmz ha hab hb hu
    refine w_iload_n dX12_worthNow_14 rfl ?_
    refine w_bipush (v := iI 10) dX12_worthNow_15 (by decide) ?_
    refine v_icmp_ge 53 dX12_worthNow_17 (by decide) (by omega) (by omega) (fun c17 => ?_) (fun c17 => ?_)
    · refine v_iinc dX12_worthNow_53 rfl rfl rfl ?_
      refine w_goto 4 dX12_worthNow_56 (by decide) ?_
      refine w_iload_n dX12_worthNow_4 rfl ?_
      refine w_bipush (v := iI 10) dX12_worthNow_5 (by decide) ?_
      refine v_icmp_ge 59 dX12_worthNow_7 (by decide) (by omega) (by omega) (fun c7 => ?_) (fun c7 => ?_)
      · refine w_iload_n dX12_worthNow_59 rfl ?_
        refine v_iret dX12_worthNow_60 rfl ⟨rfl, rfl⟩ ?_
        have e1 : wNow I = smN (pwR I) a + pwR I a := by
          unfold wNow
          rw [show 10 = a + 1 by omega]; rfl
        rw [hu, show b - (a + 1) = 9 - a by omega]
        rw [e1] at h
        exact h
      · refine w_iload_n dX12_worthNow_10 rfl ?_
        refine w_iconst (v := iI 1) dX12_worthNow_11 rfl ?_
        refine v_iadd dX12_worthNow_12 ?_
        refine w_istore_n dX12_worthNow_13 rfl rfl ?_
        first
          | (rw [show (a : Int) + 1 = ((a + 1 : Nat) : Int) by omega]
             rw [show ((a + 1 : Nat) : Int) + 1 = ((a + 1 + 1 : Nat) : Int) by omega]
             refine ih (a + 1) (a + 1 + 1) _ (by omega) (by omega) (by omega) (by omega) ?_
             have e1 : smN (pwR I) (a + 1) = smN (pwR I) a + pwR I a := rfl
             rw [e1, hu, show a + 1 + 1 - (a + 1 + 1) = 0 by omega, show b - (a + 1) = 9 - a by omega]
             unfold pwR
             exact (Int.add_zero _).symm)
          | (rw [show (b : Int) + 1 = ((b + 1 : Nat) : Int) by omega]
             refine ih a (b + 1) _ (by omega) (by omega) (by omega) (by omega) ?_
             have e1 : smN (fun d => pw I a (a + 1 + d)) (b + 1 - (a + 1)) = smN (fun d => pw I a (a + 1 + d)) (b - (a + 1)) + pw I a b := by
               rw [show b + 1 - (a + 1) = (b - (a + 1)) + 1 by omega, smN, show a + 1 + (b - (a + 1)) = b by omega]
             rw [e1, hu]
             first
               | (have e2 : pw I a b = _ := if_pos ⟨by show rd I 177 a ≠ 0; omega, by show rd I 177 b ≠ 0; omega⟩
                  rw [e2]; omega)
               | (have e2 : pw I a b = 0 := if_neg (fun g => by
                    have g1 : rd I 177 a ≠ 0 := g.1
                    have g2 : rd I 177 b ≠ 0 := g.2
                    omega)
                  rw [e2]; omega))
    · refine w_aload_n dX12_worthNow_20 rfl ?_
      refine v_getR (j := 177) dX12_worthNow_21 fX12_26 ⟨by decide, rfl⟩ rfl rfl ?_
      refine w_iload_n dX12_worthNow_24 rfl ?_
      refine v_zald dX12_worthNow_25 ⟨by decide, rfl⟩ (by omega) (by omega) (by decide) (fun z25 e25 b25 => ?_)
      have f25 : z25 = rd I 177 a := by rw [e25]; rfl
      refine v_if_eq 47 dX12_worthNow_26 (by decide) (by omega) (fun c26 => ?_) (fun c26 => ?_)
      · refine v_iinc dX12_worthNow_47 rfl rfl rfl ?_
        refine w_goto 14 dX12_worthNow_50 (by decide) ?_
        first
          | (rw [show (a : Int) + 1 = ((a + 1 : Nat) : Int) by omega]
             rw [show ((a + 1 : Nat) : Int) + 1 = ((a + 1 + 1 : Nat) : Int) by omega]
             refine ih (a + 1) (a + 1 + 1) _ (by omega) (by omega) (by omega) (by omega) ?_
             have e1 : smN (pwR I) (a + 1) = smN (pwR I) a + pwR I a := rfl
             rw [e1, hu, show a + 1 + 1 - (a + 1 + 1) = 0 by omega, show b - (a + 1) = 9 - a by omega]
             unfold pwR
             exact (Int.add_zero _).symm)
          | (rw [show (b : Int) + 1 = ((b + 1 : Nat) : Int) by omega]
             refine ih a (b + 1) _ (by omega) (by omega) (by omega) (by omega) ?_
             have e1 : smN (fun d => pw I a (a + 1 + d)) (b + 1 - (a + 1)) = smN (fun d => pw I a (a + 1 + d)) (b - (a + 1)) + pw I a b := by
               rw [show b + 1 - (a + 1) = (b - (a + 1)) + 1 by omega, smN, show a + 1 + (b - (a + 1)) = b by omega]
             rw [e1, hu]
             first
               | (have e2 : pw I a b = _ := if_pos ⟨by show rd I 177 a ≠ 0; omega, by show rd I 177 b ≠ 0; omega⟩
                  rw [e2]; omega)
               | (have e2 : pw I a b = 0 := if_neg (fun g => by
                    have g1 : rd I 177 a ≠ 0 := g.1
                    have g2 : rd I 177 b ≠ 0 := g.2
                    omega)
                  rw [e2]; omega))
      · refine w_aload_n dX12_worthNow_29 rfl ?_
        refine v_getR (j := 177) dX12_worthNow_30 fX12_26 ⟨by decide, rfl⟩ rfl rfl ?_
        refine w_iload_n dX12_worthNow_33 rfl ?_
        refine v_zald dX12_worthNow_34 ⟨by decide, rfl⟩ (by omega) (by omega) (by decide) (fun z34 e34 b34 => ?_)
        have f34 : z34 = rd I 177 b := by rw [e34]; rfl
        refine v_if_eq 47 dX12_worthNow_35 (by decide) (by omega) (fun c35 => ?_) (fun c35 => ?_)
        · refine v_iinc dX12_worthNow_47 rfl rfl rfl ?_
          refine w_goto 14 dX12_worthNow_50 (by decide) ?_
          first
            | (rw [show (a : Int) + 1 = ((a + 1 : Nat) : Int) by omega]
               rw [show ((a + 1 : Nat) : Int) + 1 = ((a + 1 + 1 : Nat) : Int) by omega]
               refine ih (a + 1) (a + 1 + 1) _ (by omega) (by omega) (by omega) (by omega) ?_
               have e1 : smN (pwR I) (a + 1) = smN (pwR I) a + pwR I a := rfl
               rw [e1, hu, show a + 1 + 1 - (a + 1 + 1) = 0 by omega, show b - (a + 1) = 9 - a by omega]
               unfold pwR
               exact (Int.add_zero _).symm)
            | (rw [show (b : Int) + 1 = ((b + 1 : Nat) : Int) by omega]
               refine ih a (b + 1) _ (by omega) (by omega) (by omega) (by omega) ?_
               have e1 : smN (fun d => pw I a (a + 1 + d)) (b + 1 - (a + 1)) = smN (fun d => pw I a (a + 1 + d)) (b - (a + 1)) + pw I a b := by
                 rw [show b + 1 - (a + 1) = (b - (a + 1)) + 1 by omega, smN, show a + 1 + (b - (a + 1)) = b by omega]
               rw [e1, hu]
               first
                 | (have e2 : pw I a b = _ := if_pos ⟨by show rd I 177 a ≠ 0; omega, by show rd I 177 b ≠ 0; omega⟩
                    rw [e2]; omega)
                 | (have e2 : pw I a b = 0 := if_neg (fun g => by
                      have g1 : rd I 177 a ≠ 0 := g.1
                      have g2 : rd I 177 b ≠ 0 := g.2
                      omega)
                    rw [e2]; omega))
        · refine w_iload_n dX12_worthNow_38 rfl ?_
          refine w_aload_n dX12_worthNow_39 rfl ?_
          refine w_iload_n dX12_worthNow_40 rfl ?_
          refine w_iload_n dX12_worthNow_41 rfl ?_
          refine v_callV2 dX12_worthNow_42 lX12_162 vX12_worthOf (by decide) rfl rfl ⟨by decide, rfl⟩ (by decide) rfl (Nat.le_of_ble_eq_true rfl) ?_
          refine x12_worthOf (a := a) (b := b) (by omega) (by omega) hR hC ?_
          refine v_iadd dX12_worthNow_45 ?_
          refine w_istore_n dX12_worthNow_46 rfl rfl ?_
          refine v_iinc dX12_worthNow_47 rfl rfl rfl ?_
          refine w_goto 14 dX12_worthNow_50 (by decide) ?_
          first
            | (rw [show (a : Int) + 1 = ((a + 1 : Nat) : Int) by omega]
               rw [show ((a + 1 : Nat) : Int) + 1 = ((a + 1 + 1 : Nat) : Int) by omega]
               refine ih (a + 1) (a + 1 + 1) _ (by omega) (by omega) (by omega) (by omega) ?_
               have e1 : smN (pwR I) (a + 1) = smN (pwR I) a + pwR I a := rfl
               rw [e1, hu, show a + 1 + 1 - (a + 1 + 1) = 0 by omega, show b - (a + 1) = 9 - a by omega]
               unfold pwR
               exact (Int.add_zero _).symm)
            | (rw [show (b : Int) + 1 = ((b + 1 : Nat) : Int) by omega]
               refine ih a (b + 1) _ (by omega) (by omega) (by omega) (by omega) ?_
               have e1 : smN (fun d => pw I a (a + 1 + d)) (b + 1 - (a + 1)) = smN (fun d => pw I a (a + 1 + d)) (b - (a + 1)) + pw I a b := by
                 rw [show b + 1 - (a + 1) = (b - (a + 1)) + 1 by omega, smN, show a + 1 + (b - (a + 1)) = b by omega]
               rw [e1, hu]
               first
                 | (have e2 : pw I a b = _ := if_pos ⟨by show rd I 177 a ≠ 0; omega, by show rd I 177 b ≠ 0; omega⟩
                    rw [e2]; omega)
                 | (have e2 : pw I a b = 0 := if_neg (fun g => by
                      have g1 : rd I 177 a ≠ 0 := g.1
                      have g2 : rd I 177 b ≠ 0 := g.2
                      omega)
                    rw [e2]; omega))
theorem x12_worthNow {I : Nat → Nat → Int32} {J : Nat → Nat → Int64} {F : Option Value → zM → Prop} (hR : ∀ b, b < 10 → -1000 ≤ rd I 178 b ∧ rd I 178 b ≤ 1000) (hC : ∀ b, b < 10 → -1000 ≤ rd I 179 b ∧ rd I 179 b ≤ 1000) (h : F (some (.int (iI (wNow I)))) (gM I J)) : Cl yX12_worthNow kX12_worthNow [.ref 171] (gM I J) F := by
  refine cl_s (by decide) (by decide) (Nat.le_of_ble_eq_true rfl) rt_i ?_
  show Wp _ F 0 [(0, .ref 171)] [] _
  refine w_iconst (v := iI 0) dX12_worthNow_0 rfl ?_
  refine w_istore_n dX12_worthNow_1 rfl rfl ?_
  refine w_iconst (v := iI 0) dX12_worthNow_2 rfl ?_
  refine w_istore_n dX12_worthNow_3 rfl rfl ?_
  refine w_iload_n dX12_worthNow_4 rfl ?_
  refine w_bipush (v := iI 10) dX12_worthNow_5 (by decide) ?_
  refine v_icmp_ge 59 dX12_worthNow_7 (by decide) (by decide) (by decide) (fun q => absurd q (by decide)) (fun _ => ?_)
  refine w_iload_n dX12_worthNow_10 rfl ?_
  refine w_iconst (v := iI 1) dX12_worthNow_11 rfl ?_
  refine v_iadd dX12_worthNow_12 ?_
  refine w_istore_n dX12_worthNow_13 rfl rfl ?_
  exact x12_worthNow_l hR hC h 200 0 1 0 (by omega) (by omega) (by omega) (by omega) rfl
