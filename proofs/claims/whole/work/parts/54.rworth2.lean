/-! worthOf: the reference -/
def wP (p q : Int) : Int := if p ≠ 0 ∧ p = q then 2 else 0
theorem aO_pos {p q : Int} : 0 < aO p q ↔ p ≠ 0 ∧ p = q := by
  unfold aO
  by_cases h : p = 0 ∨ q = 0
  · rw [if_pos h]; exact ⟨fun g => absurd g (by decide), fun g => by omega⟩
  · rw [if_neg h]
    by_cases h2 : p = q
    · rw [if_pos h2]; exact ⟨fun _ => by omega, fun _ => by decide⟩
    · rw [if_neg h2]; exact ⟨fun g => absurd g (by decide), fun g => by omega⟩
theorem aO_bd (p q : Int) : -1 ≤ aO p q ∧ aO p q ≤ 1 := by unfold aO; split <;> (try split) <;> omega
theorem x12_worthOf_d {I : Nat → Nat → Int32} {J : Nat → Nat → Int64} {F : Option Value → zM → Prop} {a b : Nat} (ha : a < 10) (hb : b < 10) (hR : ∀ b, b < 10 → -1000 ≤ rd I 178 b ∧ rd I 178 b ≤ 1000) (hC : ∀ b, b < 10 → -1000 ≤ rd I 179 b ∧ rd I 179 b ≤ 1000) (h : F (some (.int (iI (smN (sdK (fun k => rd I 186 k) a b) 512 + smN (fun y => wP (rTa I a (y : Nat)) (rTa I b (y : Nat))) 16 + smN (fun x => wP (rTd I a (x : Nat)) (rTd I b (x : Nat))) 32)))) (gM I J)) : ∀ (nz : Nat) (k : Nat) (u : Int), 32 - k < nz → k ≤ 32 → u = smN (sdK (fun k => rd I 186 k) a b) 512 + smN (fun y => wP (rTa I a (y : Nat)) (rTa I b (y : Nat))) 16 + smN (fun x => wP (rTd I a (x : Nat)) (rTd I b (x : Nat))) k → Wp (sE kX12_worthOf RX12) F 40 [(0, .ref 171), (1, .int (iI (a : Int))), (2, .int (iI (b : Int))), (3, .int (iI u)), (4, .int (iI (k : Int)))] [] (gM I J) := by
  intro nz
  induction nz with
  | zero =>
    intro k u hmz hk hu
    exact absurd hmz (Nat.not_lt_zero _)
  | succ nz ih =>
    intro k u hmz hk hu
    refine w_iload dX12_worthOf_40 rfl ?_
    refine w_bipush (v := iI 32) dX12_worthOf_42 (by decide) ?_
    refine v_icmp_ge 67 dX12_worthOf_44 (by decide) (by omega) (by omega) (fun c44 => ?_) (fun c44 => ?_)
    · refine w_iload_n dX12_worthOf_67 rfl ?_
      refine v_iret dX12_worthOf_68 rfl ⟨rfl, rfl⟩ ?_
      have g : k = 32 := by omega
      subst g
      rw [hu]
      exact h
    · refine w_aload_n dX12_worthOf_47 rfl ?_
      refine w_iload_n dX12_worthOf_48 rfl ?_
      refine w_iload_n dX12_worthOf_49 rfl ?_
      refine w_iload dX12_worthOf_50 rfl ?_
      refine v_callV3 dX12_worthOf_52 lX12_103 vX12_downOf (by decide) rfl rfl ⟨by decide, rfl⟩ (by decide) rfl (Nat.le_of_ble_eq_true rfl) ?_
      have bdo := aO_bd (rTd I a k) (rTd I b k)
      refine x12_downOf ha hb hR hC (by omega) ?_
      refine v_if_le 61 dX12_worthOf_55 (by decide) (by omega) (fun c55 => ?_) (fun c55 => ?_)
      · refine v_iinc dX12_worthOf_61 rfl rfl rfl ?_
        refine w_goto 40 dX12_worthOf_64 (by decide) ?_
        rw [show (k : Int) + 1 = ((k + 1 : Nat) : Int) by omega]
        refine ih (k + 1) _ (by omega) (by omega) ?_
        have e1 : smN (fun x => wP (rTd I a (x : Nat)) (rTd I b (x : Nat))) (k + 1) = smN (fun x => wP (rTd I a (x : Nat)) (rTd I b (x : Nat))) k + wP (rTd I a k) (rTd I b k) := rfl
        rw [e1]
        first
          | (have e2 : wP (rTd I a k) (rTd I b k) = 2 := if_pos (aO_pos.mp (by omega))
             omega)
          | (have e2 : wP (rTd I a k) (rTd I b k) = 0 := if_neg (fun g => by have := aO_pos.mpr g; omega)
             omega)
      · refine v_iinc dX12_worthOf_58 rfl rfl rfl ?_
        refine v_iinc dX12_worthOf_61 rfl rfl rfl ?_
        refine w_goto 40 dX12_worthOf_64 (by decide) ?_
        rw [show (k : Int) + 1 = ((k + 1 : Nat) : Int) by omega]
        refine ih (k + 1) _ (by omega) (by omega) ?_
        have e1 : smN (fun x => wP (rTd I a (x : Nat)) (rTd I b (x : Nat))) (k + 1) = smN (fun x => wP (rTd I a (x : Nat)) (rTd I b (x : Nat))) k + wP (rTd I a k) (rTd I b k) := rfl
        rw [e1]
        first
          | (have e2 : wP (rTd I a k) (rTd I b k) = 2 := if_pos (aO_pos.mp (by omega))
             omega)
          | (have e2 : wP (rTd I a k) (rTd I b k) = 0 := if_neg (fun g => by have := aO_pos.mpr g; omega)
             omega)
theorem x12_worthOf_a {I : Nat → Nat → Int32} {J : Nat → Nat → Int64} {F : Option Value → zM → Prop} {a b : Nat} (ha : a < 10) (hb : b < 10) (hR : ∀ b, b < 10 → -1000 ≤ rd I 178 b ∧ rd I 178 b ≤ 1000) (hC : ∀ b, b < 10 → -1000 ≤ rd I 179 b ∧ rd I 179 b ≤ 1000) (h : F (some (.int (iI (smN (sdK (fun k => rd I 186 k) a b) 512 + smN (fun y => wP (rTa I a (y : Nat)) (rTa I b (y : Nat))) 16 + smN (fun x => wP (rTd I a (x : Nat)) (rTd I b (x : Nat))) 32)))) (gM I J)) : ∀ (nz : Nat) (k : Nat) (u : Int), 16 - k < nz → k ≤ 16 → u = smN (sdK (fun k => rd I 186 k) a b) 512 + smN (fun y => wP (rTa I a (y : Nat)) (rTa I b (y : Nat))) k → Wp (sE kX12_worthOf RX12) F 10 [(0, .ref 171), (1, .int (iI (a : Int))), (2, .int (iI (b : Int))), (3, .int (iI u)), (4, .int (iI (k : Int)))] [] (gM I J) := by
  intro nz
  induction nz with
  | zero =>
    intro k u hmz hk hu
    exact absurd hmz (Nat.not_lt_zero _)
  | succ nz ih =>
    intro k u hmz hk hu
    refine w_iload dX12_worthOf_10 rfl ?_
    refine w_bipush (v := iI 16) dX12_worthOf_12 (by decide) ?_
    refine v_icmp_ge 37 dX12_worthOf_14 (by decide) (by omega) (by omega) (fun c14 => ?_) (fun c14 => ?_)
    · refine w_iconst (v := iI 0) dX12_worthOf_37 rfl ?_
      refine w_istore dX12_worthOf_38 rfl rfl ?_
      have g : k = 16 := by omega
      subst g
      exact x12_worthOf_d ha hb hR hC h 33 0 _ (by omega) (by omega) (by rw [hu, smN]; omega)
    · refine w_aload_n dX12_worthOf_17 rfl ?_
      refine w_iload_n dX12_worthOf_18 rfl ?_
      refine w_iload_n dX12_worthOf_19 rfl ?_
      refine w_iload dX12_worthOf_20 rfl ?_
      refine v_callV3 dX12_worthOf_22 lX12_100 vX12_acrossOf (by decide) rfl rfl ⟨by decide, rfl⟩ (by decide) rfl (Nat.le_of_ble_eq_true rfl) ?_
      have bdo := aO_bd (rTa I a k) (rTa I b k)
      refine x12_acrossOf ha hb hR hC (by omega) ?_
      refine v_if_le 31 dX12_worthOf_25 (by decide) (by omega) (fun c25 => ?_) (fun c25 => ?_)
      · refine v_iinc dX12_worthOf_31 rfl rfl rfl ?_
        refine w_goto 10 dX12_worthOf_34 (by decide) ?_
        rw [show (k : Int) + 1 = ((k + 1 : Nat) : Int) by omega]
        refine ih (k + 1) _ (by omega) (by omega) ?_
        have e1 : smN (fun y => wP (rTa I a (y : Nat)) (rTa I b (y : Nat))) (k + 1) = smN (fun y => wP (rTa I a (y : Nat)) (rTa I b (y : Nat))) k + wP (rTa I a k) (rTa I b k) := rfl
        rw [e1]
        first
          | (have e2 : wP (rTa I a k) (rTa I b k) = 2 := if_pos (aO_pos.mp (by omega))
             omega)
          | (have e2 : wP (rTa I a k) (rTa I b k) = 0 := if_neg (fun g => by have := aO_pos.mpr g; omega)
             omega)
      · refine v_iinc dX12_worthOf_28 rfl rfl rfl ?_
        refine v_iinc dX12_worthOf_31 rfl rfl rfl ?_
        refine w_goto 10 dX12_worthOf_34 (by decide) ?_
        rw [show (k : Int) + 1 = ((k + 1 : Nat) : Int) by omega]
        refine ih (k + 1) _ (by omega) (by omega) ?_
        have e1 : smN (fun y => wP (rTa I a (y : Nat)) (rTa I b (y : Nat))) (k + 1) = smN (fun y => wP (rTa I a (y : Nat)) (rTa I b (y : Nat))) k + wP (rTa I a k) (rTa I b k) := rfl
        rw [e1]
        first
          | (have e2 : wP (rTa I a k) (rTa I b k) = 2 := if_pos (aO_pos.mp (by omega))
             omega)
          | (have e2 : wP (rTa I a k) (rTa I b k) = 0 := if_neg (fun g => by have := aO_pos.mpr g; omega)
             omega)
theorem x12_worthOf {I : Nat → Nat → Int32} {J : Nat → Nat → Int64} {F : Option Value → zM → Prop} {a b : Nat} (ha : a < 10) (hb : b < 10) (hR : ∀ b, b < 10 → -1000 ≤ rd I 178 b ∧ rd I 178 b ≤ 1000) (hC : ∀ b, b < 10 → -1000 ≤ rd I 179 b ∧ rd I 179 b ≤ 1000) (h : F (some (.int (iI (smN (sdK (fun k => rd I 186 k) a b) 512 + smN (fun y => wP (rTa I a (y : Nat)) (rTa I b (y : Nat))) 16 + smN (fun x => wP (rTd I a (x : Nat)) (rTd I b (x : Nat))) 32)))) (gM I J)) : Cl yX12_worthOf kX12_worthOf [.ref 171, .int (iI (a : Int)), .int (iI (b : Int))] (gM I J) F := by
  refine cl_s (by decide) (by decide) (Nat.le_of_ble_eq_true rfl) rt_i ?_
  show Wp _ F 0 [(0, .ref 171), (1, .int (iI (a : Int))), (2, .int (iI (b : Int)))] [] _
  refine w_aload_n dX12_worthOf_0 rfl ?_
  refine w_iload_n dX12_worthOf_1 rfl ?_
  refine w_iload_n dX12_worthOf_2 rfl ?_
  refine v_callV2 dX12_worthOf_3 lX12_158 vX12_sides (by decide) rfl rfl ⟨by decide, rfl⟩ (by decide) rfl (Nat.le_of_ble_eq_true rfl) ?_
  refine x12_sides ha hb ?_
  refine w_istore_n dX12_worthOf_6 rfl rfl ?_
  refine w_iconst (v := iI 0) dX12_worthOf_7 rfl ?_
  refine w_istore dX12_worthOf_8 rfl rfl ?_
  exact x12_worthOf_a ha hb hR hC h 17 0 _ (by omega) (by omega) (Int.add_zero _).symm
