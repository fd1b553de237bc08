/-! FIBRES of what lies, QUARRELS: the reference -/
def hIR (I : Nat → Nat → Int32) (b : Nat) (y : Int) : Prop := 0 ≤ y - rd I 178 b ∧ y - rd I 178 b < 5 ∧ rowH (rce I b) (y - rd I 178 b).toNat
def hIC (I : Nat → Nat → Int32) (b : Nat) (x : Int) : Prop := 0 ≤ x - rd I 179 b ∧ x - rd I 179 b < 10 ∧ colH (rce I b) (x - rd I 179 b).toNat
noncomputable def rTa (I : Nat → Nat → Int32) (b : Nat) (y : Int) : Int := @ite _ (hIR I b y) (Classical.propDecidable _) (rd I 175 (5 * (b : Int) + y - rd I 178 b).toNat) 0
noncomputable def rTd (I : Nat → Nat → Int32) (b : Nat) (x : Int) : Int := @ite _ (hIC I b x) (Classical.propDecidable _) (rd I 176 (10 * (b : Int) + x - rd I 179 b).toNat) 0
def aO (p q : Int) : Int := if p = 0 ∨ q = 0 then 0 else if p = q then 1 else -1
abbrev qrP (p q : Int) : Prop := p ≠ 0 ∧ q ≠ 0 ∧ p ≠ q
theorem aO_neg {p q : Int} : aO p q < 0 ↔ qrP p q := by
  unfold aO
  by_cases h : p = 0 ∨ q = 0
  · rw [if_pos h]; exact ⟨fun g => absurd g (by decide), fun g => by omega⟩
  · rw [if_neg h]
    by_cases h2 : p = q
    · rw [if_pos h2]; exact ⟨fun g => absurd g (by decide), fun g => by omega⟩
    · rw [if_neg h2]; exact ⟨fun _ => by omega, fun _ => by decide⟩
def qrl (I : Nat → Nat → Int32) (a b : Nat) : Prop := (∃ y : Nat, y < 16 ∧ qrP (rTa I a y) (rTa I b y)) ∨ (∃ x : Nat, x < 32 ∧ qrP (rTd I a x) (rTd I b x))
theorem x12_hasInRow_l {I : Nat → Nat → Int32} {J : Nat → Nat → Int64} {F : Option Value → zM → Prop} {b : Nat} (hb : b < 10) (hR : ∀ b, b < 10 → -1000 ≤ rd I 178 b ∧ rd I 178 b ≤ 1000) (hC : ∀ b, b < 10 → -1000 ≤ rd I 179 b ∧ rd I 179 b ≤ 1000) {y : Int} (hy : 0 ≤ y ∧ y < 32) (ht : hIR I b y → F (some (.int (iI 1))) (gM I J)) (hf : ¬ hIR I b y → F (some (.int (iI 0))) (gM I J)) {z6 : Int} (hz : z6 = rd I 178 b) (hq : 0 ≤ y - z6 ∧ y - z6 < 5) : ∀ (nz : Nat) (k : Nat), 10 - k < nz → k ≤ 10 → (∀ j, j < k → rce I b (10 * (y - z6).toNat + j) = 95) → Wp (sE kX12_hasInRow RX12) F 23 [(0, .ref 171), (1, .int (iI (b : Int))), (2, .int (iI y)), (3, .int (iI (y - z6))), (4, .int (iI (k : Int)))] [] (gM I J) := by
  intro nz
  induction nz with
  | zero =>
    intro k hmz hk hn
    exact absurd hmz (Nat.not_lt_zero _)
  | succ nz ih =>
    intro k hmz hk hn
    refine w_iload dX12_hasInRow_23 rfl ?_
    refine w_bipush (v := iI 10) dX12_hasInRow_25 (by decide) ?_
    refine v_icmp_ge 51 dX12_hasInRow_27 (by decide) (by omega) (by omega) (fun c27 => ?_) (fun c27 => ?_)
    · refine w_iconst (v := iI 0) dX12_hasInRow_51 rfl ?_
      refine v_zret dX12_hasInRow_52 rfl ⟨rfl, rfl⟩ (by decide) ?_
      refine hf (fun ⟨g1, g2, j, g3, g4⟩ => g4 ?_)
      rw [← hz]
      exact hn j (by omega)
    · refine w_aload_n dX12_hasInRow_30 rfl ?_
      refine w_iload_n dX12_hasInRow_31 rfl ?_
      refine w_iload_n dX12_hasInRow_32 rfl ?_
      refine w_iload dX12_hasInRow_33 rfl ?_
      refine v_callV3 dX12_hasInRow_35 lX12_86 vX12_at (by decide) rfl rfl ⟨by decide, rfl⟩ (by decide) rfl (Nat.le_of_ble_eq_true rfl) ?_
      refine x12_at hb (by omega) (by omega) (fun z35 e35 b35 => ?_)
      have f35 : z35 = rce I b (10 * (y - z6).toNat + k) := by
        rw [e35]; unfold rce; congr 1; omega
      refine w_bipush (v := iI 95) dX12_hasInRow_38 (by decide) ?_
      refine v_icmp_eq 45 dX12_hasInRow_40 (by decide) (by omega) (by omega) (fun c40 => ?_) (fun c40 => ?_)
      · refine v_iinc dX12_hasInRow_45 rfl rfl rfl ?_
        refine w_goto 23 dX12_hasInRow_48 (by decide) ?_
        rw [show (k : Int) + 1 = ((k + 1 : Nat) : Int) by omega]
        refine ih (k + 1) (by omega) (by omega) (fun j hj => ?_)
        rcases Nat.lt_succ_iff_lt_or_eq.mp hj with g | g
        · exact hn j g
        · subst g; rw [← f35]; omega
      · refine w_iconst (v := iI 1) dX12_hasInRow_43 rfl ?_
        refine v_zret dX12_hasInRow_44 rfl ⟨rfl, rfl⟩ (by decide) ?_
        refine ht ⟨by omega, by omega, k, by omega, ?_⟩
        rw [← hz, ← f35]; omega
theorem x12_hasInRow {I : Nat → Nat → Int32} {J : Nat → Nat → Int64} {F : Option Value → zM → Prop} {b : Nat} (hb : b < 10) (hR : ∀ b, b < 10 → -1000 ≤ rd I 178 b ∧ rd I 178 b ≤ 1000) (hC : ∀ b, b < 10 → -1000 ≤ rd I 179 b ∧ rd I 179 b ≤ 1000) {y : Int} (hy : 0 ≤ y ∧ y < 32) (ht : hIR I b y → F (some (.int (iI 1))) (gM I J)) (hf : ¬ hIR I b y → F (some (.int (iI 0))) (gM I J)) : Cl yX12_hasInRow kX12_hasInRow [.ref 171, .int (iI (b : Int)), .int (iI y)] (gM I J) F := by
  refine cl_s (by decide) (by decide) (Nat.le_of_ble_eq_true rfl) rt_z ?_
  show Wp _ F 0 [(0, .ref 171), (1, .int (iI (b : Int))), (2, .int (iI y))] [] _
  refine w_iload_n dX12_hasInRow_0 rfl ?_
  refine w_aload_n dX12_hasInRow_1 rfl ?_
  refine v_getR (j := 178) dX12_hasInRow_2 fX12_29 ⟨by decide, rfl⟩ rfl rfl ?_
  refine w_iload_n dX12_hasInRow_5 rfl ?_
  refine v_iald dX12_hasInRow_6 ⟨by decide, rfl⟩ (by omega) (by omega) (by decide) (fun z6 e6 b6 => ?_)
  have f6 : z6 = rd I 178 b := by rw [e6]; rfl
  have r6 := hR b hb
  have c6 := hC b hb
  refine v_isub dX12_hasInRow_7 ?_
  refine w_istore_n dX12_hasInRow_8 rfl rfl ?_
  refine w_iload_n dX12_hasInRow_9 rfl ?_
  refine w_iconst (v := iI 0) dX12_hasInRow_10 rfl ?_
  refine w_iconst (v := iI 4) dX12_hasInRow_11 rfl ?_
  refine v_callS3 dX12_hasInRow_12 lX12_69 vX12_isIn (by decide) rfl rfl (Nat.le_of_ble_eq_true rfl) ?_
  refine x12_isIn (by omega) (by omega) (by omega) (fun q12 => ?_) (fun q12 => ?_)
  · refine v_if_ne 20 dX12_hasInRow_15 (by decide) (by decide) (fun _ => ?_) (fun q => absurd q (by decide))
    refine w_iconst (v := iI 0) dX12_hasInRow_20 rfl ?_
    refine w_istore dX12_hasInRow_21 rfl rfl ?_
    exact x12_hasInRow_l hb hR hC hy ht hf f6 (by omega) 11 0 (by omega) (by omega) (fun j hj => by omega)
  · refine v_if_ne 20 dX12_hasInRow_15 (by decide) (by decide) (fun q => absurd q (by decide)) (fun _ => ?_)
    refine w_iconst (v := iI 0) dX12_hasInRow_18 rfl ?_
    refine v_zret dX12_hasInRow_19 rfl ⟨rfl, rfl⟩ (by decide) ?_
    exact hf (fun g => q12 (by have g1 := g.1; have g2 := g.2.1; omega))
theorem x12_hasInColumn_l {I : Nat → Nat → Int32} {J : Nat → Nat → Int64} {F : Option Value → zM → Prop} {b : Nat} (hb : b < 10) (hR : ∀ b, b < 10 → -1000 ≤ rd I 178 b ∧ rd I 178 b ≤ 1000) (hC : ∀ b, b < 10 → -1000 ≤ rd I 179 b ∧ rd I 179 b ≤ 1000) {y : Int} (hy : 0 ≤ y ∧ y < 32) (ht : hIC I b y → F (some (.int (iI 1))) (gM I J)) (hf : ¬ hIC I b y → F (some (.int (iI 0))) (gM I J)) {z6 : Int} (hz : z6 = rd I 179 b) (hq : 0 ≤ y - z6 ∧ y - z6 < 10) : ∀ (nz : Nat) (k : Nat), 5 - k < nz → k ≤ 5 → (∀ j, j < k → rce I b (10 * j + (y - z6).toNat) = 95) → Wp (sE kX12_hasInColumn RX12) F 24 [(0, .ref 171), (1, .int (iI (b : Int))), (2, .int (iI y)), (3, .int (iI (y - z6))), (4, .int (iI (k : Int)))] [] (gM I J) := by
  intro nz
  induction nz with
  | zero =>
    intro k hmz hk hn
    exact absurd hmz (Nat.not_lt_zero _)
  | succ nz ih =>
    intro k hmz hk hn
    refine w_iload dX12_hasInColumn_24 rfl ?_
    refine w_iconst (v := iI 5) dX12_hasInColumn_26 rfl ?_
    refine v_icmp_ge 51 dX12_hasInColumn_27 (by decide) (by omega) (by omega) (fun c27 => ?_) (fun c27 => ?_)
    · refine w_iconst (v := iI 0) dX12_hasInColumn_51 rfl ?_
      refine v_zret dX12_hasInColumn_52 rfl ⟨rfl, rfl⟩ (by decide) ?_
      refine hf (fun ⟨g1, g2, j, g3, g4⟩ => g4 ?_)
      rw [← hz]
      exact hn j (by omega)
    · refine w_aload_n dX12_hasInColumn_30 rfl ?_
      refine w_iload_n dX12_hasInColumn_31 rfl ?_
      refine w_iload dX12_hasInColumn_32 rfl ?_
      refine w_iload_n dX12_hasInColumn_34 rfl ?_
      refine v_callV3 dX12_hasInColumn_35 lX12_86 vX12_at (by decide) rfl rfl ⟨by decide, rfl⟩ (by decide) rfl (Nat.le_of_ble_eq_true rfl) ?_
      refine x12_at hb (by omega) (by omega) (fun z35 e35 b35 => ?_)
      have f35 : z35 = rce I b (10 * k + (y - z6).toNat) := by
        rw [e35]; unfold rce; congr 1; omega
      refine w_bipush (v := iI 95) dX12_hasInColumn_38 (by decide) ?_
      refine v_icmp_eq 45 dX12_hasInColumn_40 (by decide) (by omega) (by omega) (fun c40 => ?_) (fun c40 => ?_)
      · refine v_iinc dX12_hasInColumn_45 rfl rfl rfl ?_
        refine w_goto 24 dX12_hasInColumn_48 (by decide) ?_
        rw [show (k : Int) + 1 = ((k + 1 : Nat) : Int) by omega]
        refine ih (k + 1) (by omega) (by omega) (fun j hj => ?_)
        rcases Nat.lt_succ_iff_lt_or_eq.mp hj with g | g
        · exact hn j g
        · subst g; rw [← f35]; omega
      · refine w_iconst (v := iI 1) dX12_hasInColumn_43 rfl ?_
        refine v_zret dX12_hasInColumn_44 rfl ⟨rfl, rfl⟩ (by decide) ?_
        refine ht ⟨by omega, by omega, k, by omega, ?_⟩
        rw [← hz, ← f35]; omega
theorem x12_hasInColumn {I : Nat → Nat → Int32} {J : Nat → Nat → Int64} {F : Option Value → zM → Prop} {b : Nat} (hb : b < 10) (hR : ∀ b, b < 10 → -1000 ≤ rd I 178 b ∧ rd I 178 b ≤ 1000) (hC : ∀ b, b < 10 → -1000 ≤ rd I 179 b ∧ rd I 179 b ≤ 1000) {y : Int} (hy : 0 ≤ y ∧ y < 32) (ht : hIC I b y → F (some (.int (iI 1))) (gM I J)) (hf : ¬ hIC I b y → F (some (.int (iI 0))) (gM I J)) : Cl yX12_hasInColumn kX12_hasInColumn [.ref 171, .int (iI (b : Int)), .int (iI y)] (gM I J) F := by
  refine cl_s (by decide) (by decide) (Nat.le_of_ble_eq_true rfl) rt_z ?_
  show Wp _ F 0 [(0, .ref 171), (1, .int (iI (b : Int))), (2, .int (iI y))] [] _
  refine w_iload_n dX12_hasInColumn_0 rfl ?_
  refine w_aload_n dX12_hasInColumn_1 rfl ?_
  refine v_getR (j := 179) dX12_hasInColumn_2 fX12_32 ⟨by decide, rfl⟩ rfl rfl ?_
  refine w_iload_n dX12_hasInColumn_5 rfl ?_
  refine v_iald dX12_hasInColumn_6 ⟨by decide, rfl⟩ (by omega) (by omega) (by decide) (fun z6 e6 b6 => ?_)
  have f6 : z6 = rd I 179 b := by rw [e6]; rfl
  have r6 := hR b hb
  have c6 := hC b hb
  refine v_isub dX12_hasInColumn_7 ?_
  refine w_istore_n dX12_hasInColumn_8 rfl rfl ?_
  refine w_iload_n dX12_hasInColumn_9 rfl ?_
  refine w_iconst (v := iI 0) dX12_hasInColumn_10 rfl ?_
  refine w_bipush (v := iI 9) dX12_hasInColumn_11 (by decide) ?_
  refine v_callS3 dX12_hasInColumn_13 lX12_69 vX12_isIn (by decide) rfl rfl (Nat.le_of_ble_eq_true rfl) ?_
  refine x12_isIn (by omega) (by omega) (by omega) (fun q13 => ?_) (fun q13 => ?_)
  · refine v_if_ne 21 dX12_hasInColumn_16 (by decide) (by decide) (fun _ => ?_) (fun q => absurd q (by decide))
    refine w_iconst (v := iI 0) dX12_hasInColumn_21 rfl ?_
    refine w_istore dX12_hasInColumn_22 rfl rfl ?_
    exact x12_hasInColumn_l hb hR hC hy ht hf f6 (by omega) 6 0 (by omega) (by omega) (fun j hj => by omega)
  · refine v_if_ne 21 dX12_hasInColumn_16 (by decide) (by decide) (fun q => absurd q (by decide)) (fun _ => ?_)
    refine w_iconst (v := iI 0) dX12_hasInColumn_19 rfl ?_
    refine v_zret dX12_hasInColumn_20 rfl ⟨rfl, rfl⟩ (by decide) ?_
    exact hf (fun g => q13 (by have g1 := g.1; have g2 := g.2.1; omega))
theorem x12_acrossOf {I : Nat → Nat → Int32} {J : Nat → Nat → Int64} {F : Option Value → zM → Prop} {a b : Nat} (ha : a < 10) (hb : b < 10) (hR : ∀ b, b < 10 → -1000 ≤ rd I 178 b ∧ rd I 178 b ≤ 1000) (hC : ∀ b, b < 10 → -1000 ≤ rd I 179 b ∧ rd I 179 b ≤ 1000) {y : Int} (hy : 0 ≤ y ∧ y < 32) (h : F (some (.int (iI (aO (rTa I a y) (rTa I b y))))) (gM I J)) : Cl yX12_acrossOf kX12_acrossOf [.ref 171, .int (iI (a : Int)), .int (iI (b : Int)), .int (iI y)] (gM I J) F := by
  refine cl_s (by decide) (by decide) (Nat.le_of_ble_eq_true rfl) rt_i ?_
  show Wp _ F 0 [(0, .ref 171), (1, .int (iI (a : Int))), (2, .int (iI (b : Int))), (3, .int (iI y))] [] _
  refine w_aload_n dX12_acrossOf_0 rfl ?_
  refine w_iload_n dX12_acrossOf_1 rfl ?_
  refine w_iload_n dX12_acrossOf_2 rfl ?_
  refine v_callV2 dX12_acrossOf_3 lX12_93 vX12_hasInRow (by decide) rfl rfl ⟨by decide, rfl⟩ (by decide) rfl (Nat.le_of_ble_eq_true rfl) ?_
  refine x12_hasInRow ha hR hC hy (fun q3 => ?_) (fun q3 => ?_)
  · refine v_if_eq 18 dX12_acrossOf_6 (by decide) (by decide) (fun q => absurd q (by decide)) (fun _ => ?_)
    refine w_aload_n dX12_acrossOf_9 rfl ?_
    refine w_iload_n dX12_acrossOf_10 rfl ?_
    refine w_iload_n dX12_acrossOf_11 rfl ?_
    refine v_callV2 dX12_acrossOf_12 lX12_93 vX12_hasInRow (by decide) rfl rfl ⟨by decide, rfl⟩ (by decide) rfl (Nat.le_of_ble_eq_true rfl) ?_
    refine x12_hasInRow hb hR hC hy (fun q12 => ?_) (fun q12 => ?_)
    · refine v_if_ne 20 dX12_acrossOf_15 (by decide) (by decide) (fun _ => ?_) (fun q => absurd q (by decide))
      refine w_aload_n dX12_acrossOf_20 rfl ?_
      refine v_getR (j := 175) dX12_acrossOf_21 fX12_20 ⟨by decide, rfl⟩ rfl rfl ?_
      refine w_iconst (v := iI 5) dX12_acrossOf_24 rfl ?_
      refine w_iload_n dX12_acrossOf_25 rfl ?_
      refine v_imul dX12_acrossOf_26 ?_
      refine w_iload_n dX12_acrossOf_27 rfl ?_
      refine v_iadd dX12_acrossOf_28 ?_
      refine w_aload_n dX12_acrossOf_29 rfl ?_
      refine v_getR (j := 178) dX12_acrossOf_30 fX12_29 ⟨by decide, rfl⟩ rfl rfl ?_
      refine w_iload_n dX12_acrossOf_33 rfl ?_
      refine v_iald dX12_acrossOf_34 ⟨by decide, rfl⟩ (by omega) (by omega) (by decide) (fun z34 e34 b34 => ?_)
      have r1 : z34 = rd I 178 a := by rw [e34]; rfl
      have h1 := q3.1
      have h2 := q3.2.1
      have u1 := hR a ha
      have u2 := hC a ha
      refine v_isub dX12_acrossOf_35 ?_
      refine v_iald dX12_acrossOf_36 ⟨by decide, rfl⟩ (by omega) (by omega) (by decide) (fun z36 e36 b36 => ?_)
      have g1 : z36 = rTa I a y := by rw [e36, rTa, if_pos q3, r1]
      refine w_istore dX12_acrossOf_37 rfl rfl ?_
      refine w_aload_n dX12_acrossOf_39 rfl ?_
      refine v_getR (j := 175) dX12_acrossOf_40 fX12_20 ⟨by decide, rfl⟩ rfl rfl ?_
      refine w_iconst (v := iI 5) dX12_acrossOf_43 rfl ?_
      refine w_iload_n dX12_acrossOf_44 rfl ?_
      refine v_imul dX12_acrossOf_45 ?_
      refine w_iload_n dX12_acrossOf_46 rfl ?_
      refine v_iadd dX12_acrossOf_47 ?_
      refine w_aload_n dX12_acrossOf_48 rfl ?_
      refine v_getR (j := 178) dX12_acrossOf_49 fX12_29 ⟨by decide, rfl⟩ rfl rfl ?_
      refine w_iload_n dX12_acrossOf_52 rfl ?_
      refine v_iald dX12_acrossOf_53 ⟨by decide, rfl⟩ (by omega) (by omega) (by decide) (fun z53 e53 b53 => ?_)
      have r2 : z53 = rd I 178 b := by rw [e53]; rfl
      have h3 := q12.1
      have h4 := q12.2.1
      have u3 := hR b hb
      have u4 := hC b hb
      refine v_isub dX12_acrossOf_54 ?_
      refine v_iald dX12_acrossOf_55 ⟨by decide, rfl⟩ (by omega) (by omega) (by decide) (fun z55 e55 b55 => ?_)
      have g2 : z55 = rTa I b y := by rw [e55, rTa, if_pos q12, r2]
      refine w_istore dX12_acrossOf_56 rfl rfl ?_
      refine w_iload dX12_acrossOf_58 rfl ?_
      refine v_if_eq 68 dX12_acrossOf_60 (by decide) (by omega) (fun c60 => ?_) (fun c60 => ?_)
      · refine w_iconst (v := iI 0) dX12_acrossOf_68 rfl ?_
        refine w_goto 84 dX12_acrossOf_69 (by decide) ?_
        refine v_iret dX12_acrossOf_84 rfl ⟨rfl, rfl⟩ ?_
        first
          | (have t0 : rTa I a y = 0 := by rw [rTa, if_neg q3]
             have e : aO (rTa I a y) (rTa I b y) = 0 := by unfold aO; rw [if_pos (Or.inl t0)]
             rw [e] at h; exact h)
          | (have t0 : rTa I b y = 0 := by rw [rTa, if_neg q12]
             have e : aO (rTa I a y) (rTa I b y) = 0 := by unfold aO; rw [if_pos (Or.inr t0)]
             rw [e] at h; exact h)
          | (have e : aO (rTa I a y) (rTa I b y) = 0 := by unfold aO; rw [← g1, ← g2, if_pos (by omega)]
             rw [e] at h; exact h)
          | (have e : aO (rTa I a y) (rTa I b y) = 1 := by unfold aO; rw [← g1, ← g2, if_neg (by omega), if_pos (by omega)]
             rw [e] at h; exact h)
          | (have e : aO (rTa I a y) (rTa I b y) = -1 := by unfold aO; rw [← g1, ← g2, if_neg (by omega), if_neg (by omega)]
             rw [e] at h; exact h)
      · refine w_iload dX12_acrossOf_63 rfl ?_
        refine v_if_ne 72 dX12_acrossOf_65 (by decide) (by omega) (fun c65 => ?_) (fun c65 => ?_)
        · refine w_iload dX12_acrossOf_72 rfl ?_
          refine w_iload dX12_acrossOf_74 rfl ?_
          refine v_icmp_ne 83 dX12_acrossOf_76 (by decide) (by omega) (by omega) (fun c76 => ?_) (fun c76 => ?_)
          · refine w_iconst (v := iI (-1)) dX12_acrossOf_83 rfl ?_
            refine v_iret dX12_acrossOf_84 rfl ⟨rfl, rfl⟩ ?_
            first
              | (have t0 : rTa I a y = 0 := by rw [rTa, if_neg q3]
                 have e : aO (rTa I a y) (rTa I b y) = 0 := by unfold aO; rw [if_pos (Or.inl t0)]
                 rw [e] at h; exact h)
              | (have t0 : rTa I b y = 0 := by rw [rTa, if_neg q12]
                 have e : aO (rTa I a y) (rTa I b y) = 0 := by unfold aO; rw [if_pos (Or.inr t0)]
                 rw [e] at h; exact h)
              | (have e : aO (rTa I a y) (rTa I b y) = 0 := by unfold aO; rw [← g1, ← g2, if_pos (by omega)]
                 rw [e] at h; exact h)
              | (have e : aO (rTa I a y) (rTa I b y) = 1 := by unfold aO; rw [← g1, ← g2, if_neg (by omega), if_pos (by omega)]
                 rw [e] at h; exact h)
              | (have e : aO (rTa I a y) (rTa I b y) = -1 := by unfold aO; rw [← g1, ← g2, if_neg (by omega), if_neg (by omega)]
                 rw [e] at h; exact h)
          · refine w_iconst (v := iI 1) dX12_acrossOf_79 rfl ?_
            refine w_goto 84 dX12_acrossOf_80 (by decide) ?_
            refine v_iret dX12_acrossOf_84 rfl ⟨rfl, rfl⟩ ?_
            first
              | (have t0 : rTa I a y = 0 := by rw [rTa, if_neg q3]
                 have e : aO (rTa I a y) (rTa I b y) = 0 := by unfold aO; rw [if_pos (Or.inl t0)]
                 rw [e] at h; exact h)
              | (have t0 : rTa I b y = 0 := by rw [rTa, if_neg q12]
                 have e : aO (rTa I a y) (rTa I b y) = 0 := by unfold aO; rw [if_pos (Or.inr t0)]
                 rw [e] at h; exact h)
              | (have e : aO (rTa I a y) (rTa I b y) = 0 := by unfold aO; rw [← g1, ← g2, if_pos (by omega)]
                 rw [e] at h; exact h)
              | (have e : aO (rTa I a y) (rTa I b y) = 1 := by unfold aO; rw [← g1, ← g2, if_neg (by omega), if_pos (by omega)]
                 rw [e] at h; exact h)
              | (have e : aO (rTa I a y) (rTa I b y) = -1 := by unfold aO; rw [← g1, ← g2, if_neg (by omega), if_neg (by omega)]
                 rw [e] at h; exact h)
        · refine w_iconst (v := iI 0) dX12_acrossOf_68 rfl ?_
          refine w_goto 84 dX12_acrossOf_69 (by decide) ?_
          refine v_iret dX12_acrossOf_84 rfl ⟨rfl, rfl⟩ ?_
          first
            | (have t0 : rTa I a y = 0 := by rw [rTa, if_neg q3]
               have e : aO (rTa I a y) (rTa I b y) = 0 := by unfold aO; rw [if_pos (Or.inl t0)]
               rw [e] at h; exact h)
            | (have t0 : rTa I b y = 0 := by rw [rTa, if_neg q12]
               have e : aO (rTa I a y) (rTa I b y) = 0 := by unfold aO; rw [if_pos (Or.inr t0)]
               rw [e] at h; exact h)
            | (have e : aO (rTa I a y) (rTa I b y) = 0 := by unfold aO; rw [← g1, ← g2, if_pos (by omega)]
               rw [e] at h; exact h)
            | (have e : aO (rTa I a y) (rTa I b y) = 1 := by unfold aO; rw [← g1, ← g2, if_neg (by omega), if_pos (by omega)]
               rw [e] at h; exact h)
            | (have e : aO (rTa I a y) (rTa I b y) = -1 := by unfold aO; rw [← g1, ← g2, if_neg (by omega), if_neg (by omega)]
               rw [e] at h; exact h)
    · refine v_if_ne 20 dX12_acrossOf_15 (by decide) (by decide) (fun q => absurd q (by decide)) (fun _ => ?_)
      refine w_iconst (v := iI 0) dX12_acrossOf_18 rfl ?_
      refine v_iret dX12_acrossOf_19 rfl ⟨rfl, rfl⟩ ?_
      first
        | (have t0 : rTa I a y = 0 := by rw [rTa, if_neg q3]
           have e : aO (rTa I a y) (rTa I b y) = 0 := by unfold aO; rw [if_pos (Or.inl t0)]
           rw [e] at h; exact h)
        | (have t0 : rTa I b y = 0 := by rw [rTa, if_neg q12]
           have e : aO (rTa I a y) (rTa I b y) = 0 := by unfold aO; rw [if_pos (Or.inr t0)]
           rw [e] at h; exact h)
        | (have e : aO (rTa I a y) (rTa I b y) = 0 := by unfold aO; rw [← g1, ← g2, if_pos (by omega)]
           rw [e] at h; exact h)
        | (have e : aO (rTa I a y) (rTa I b y) = 1 := by unfold aO; rw [← g1, ← g2, if_neg (by omega), if_pos (by omega)]
           rw [e] at h; exact h)
        | (have e : aO (rTa I a y) (rTa I b y) = -1 := by unfold aO; rw [← g1, ← g2, if_neg (by omega), if_neg (by omega)]
           rw [e] at h; exact h)
  · refine v_if_eq 18 dX12_acrossOf_6 (by decide) (by decide) (fun _ => ?_) (fun q => absurd q (by decide))
    refine w_iconst (v := iI 0) dX12_acrossOf_18 rfl ?_
    refine v_iret dX12_acrossOf_19 rfl ⟨rfl, rfl⟩ ?_
    first
      | (have t0 : rTa I a y = 0 := by rw [rTa, if_neg q3]
         have e : aO (rTa I a y) (rTa I b y) = 0 := by unfold aO; rw [if_pos (Or.inl t0)]
         rw [e] at h; exact h)
      | (have t0 : rTa I b y = 0 := by rw [rTa, if_neg q12]
         have e : aO (rTa I a y) (rTa I b y) = 0 := by unfold aO; rw [if_pos (Or.inr t0)]
         rw [e] at h; exact h)
      | (have e : aO (rTa I a y) (rTa I b y) = 0 := by unfold aO; rw [← g1, ← g2, if_pos (by omega)]
         rw [e] at h; exact h)
      | (have e : aO (rTa I a y) (rTa I b y) = 1 := by unfold aO; rw [← g1, ← g2, if_neg (by omega), if_pos (by omega)]
         rw [e] at h; exact h)
      | (have e : aO (rTa I a y) (rTa I b y) = -1 := by unfold aO; rw [← g1, ← g2, if_neg (by omega), if_neg (by omega)]
         rw [e] at h; exact h)
theorem x12_downOf {I : Nat → Nat → Int32} {J : Nat → Nat → Int64} {F : Option Value → zM → Prop} {a b : Nat} (ha : a < 10) (hb : b < 10) (hR : ∀ b, b < 10 → -1000 ≤ rd I 178 b ∧ rd I 178 b ≤ 1000) (hC : ∀ b, b < 10 → -1000 ≤ rd I 179 b ∧ rd I 179 b ≤ 1000) {y : Int} (hy : 0 ≤ y ∧ y < 32) (h : F (some (.int (iI (aO (rTd I a y) (rTd I b y))))) (gM I J)) : Cl yX12_downOf kX12_downOf [.ref 171, .int (iI (a : Int)), .int (iI (b : Int)), .int (iI y)] (gM I J) F := by
  refine cl_s (by decide) (by decide) (Nat.le_of_ble_eq_true rfl) rt_i ?_
  show Wp _ F 0 [(0, .ref 171), (1, .int (iI (a : Int))), (2, .int (iI (b : Int))), (3, .int (iI y))] [] _
  refine w_aload_n dX12_downOf_0 rfl ?_
  refine w_iload_n dX12_downOf_1 rfl ?_
  refine w_iload_n dX12_downOf_2 rfl ?_
  refine v_callV2 dX12_downOf_3 lX12_97 vX12_hasInColumn (by decide) rfl rfl ⟨by decide, rfl⟩ (by decide) rfl (Nat.le_of_ble_eq_true rfl) ?_
  refine x12_hasInColumn ha hR hC hy (fun q3 => ?_) (fun q3 => ?_)
  · refine v_if_eq 18 dX12_downOf_6 (by decide) (by decide) (fun q => absurd q (by decide)) (fun _ => ?_)
    refine w_aload_n dX12_downOf_9 rfl ?_
    refine w_iload_n dX12_downOf_10 rfl ?_
    refine w_iload_n dX12_downOf_11 rfl ?_
    refine v_callV2 dX12_downOf_12 lX12_97 vX12_hasInColumn (by decide) rfl rfl ⟨by decide, rfl⟩ (by decide) rfl (Nat.le_of_ble_eq_true rfl) ?_
    refine x12_hasInColumn hb hR hC hy (fun q12 => ?_) (fun q12 => ?_)
    · refine v_if_ne 20 dX12_downOf_15 (by decide) (by decide) (fun _ => ?_) (fun q => absurd q (by decide))
      refine w_aload_n dX12_downOf_20 rfl ?_
      refine v_getR (j := 176) dX12_downOf_21 fX12_23 ⟨by decide, rfl⟩ rfl rfl ?_
      refine w_bipush (v := iI 10) dX12_downOf_24 (by decide) ?_
      refine w_iload_n dX12_downOf_26 rfl ?_
      refine v_imul dX12_downOf_27 ?_
      refine w_iload_n dX12_downOf_28 rfl ?_
      refine v_iadd dX12_downOf_29 ?_
      refine w_aload_n dX12_downOf_30 rfl ?_
      refine v_getR (j := 179) dX12_downOf_31 fX12_32 ⟨by decide, rfl⟩ rfl rfl ?_
      refine w_iload_n dX12_downOf_34 rfl ?_
      refine v_iald dX12_downOf_35 ⟨by decide, rfl⟩ (by omega) (by omega) (by decide) (fun z35 e35 b35 => ?_)
      have r1 : z35 = rd I 179 a := by rw [e35]; rfl
      have h1 := q3.1
      have h2 := q3.2.1
      have u1 := hR a ha
      have u2 := hC a ha
      refine v_isub dX12_downOf_36 ?_
      refine v_iald dX12_downOf_37 ⟨by decide, rfl⟩ (by omega) (by omega) (by decide) (fun z37 e37 b37 => ?_)
      have g1 : z37 = rTd I a y := by rw [e37, rTd, if_pos q3, r1]
      refine w_istore dX12_downOf_38 rfl rfl ?_
      refine w_aload_n dX12_downOf_40 rfl ?_
      refine v_getR (j := 176) dX12_downOf_41 fX12_23 ⟨by decide, rfl⟩ rfl rfl ?_
      refine w_bipush (v := iI 10) dX12_downOf_44 (by decide) ?_
      refine w_iload_n dX12_downOf_46 rfl ?_
      refine v_imul dX12_downOf_47 ?_
      refine w_iload_n dX12_downOf_48 rfl ?_
      refine v_iadd dX12_downOf_49 ?_
      refine w_aload_n dX12_downOf_50 rfl ?_
      refine v_getR (j := 179) dX12_downOf_51 fX12_32 ⟨by decide, rfl⟩ rfl rfl ?_
      refine w_iload_n dX12_downOf_54 rfl ?_
      refine v_iald dX12_downOf_55 ⟨by decide, rfl⟩ (by omega) (by omega) (by decide) (fun z55 e55 b55 => ?_)
      have r2 : z55 = rd I 179 b := by rw [e55]; rfl
      have h3 := q12.1
      have h4 := q12.2.1
      have u3 := hR b hb
      have u4 := hC b hb
      refine v_isub dX12_downOf_56 ?_
      refine v_iald dX12_downOf_57 ⟨by decide, rfl⟩ (by omega) (by omega) (by decide) (fun z57 e57 b57 => ?_)
      have g2 : z57 = rTd I b y := by rw [e57, rTd, if_pos q12, r2]
      refine w_istore dX12_downOf_58 rfl rfl ?_
      refine w_iload dX12_downOf_60 rfl ?_
      refine v_if_eq 70 dX12_downOf_62 (by decide) (by omega) (fun c62 => ?_) (fun c62 => ?_)
      · refine w_iconst (v := iI 0) dX12_downOf_70 rfl ?_
        refine w_goto 86 dX12_downOf_71 (by decide) ?_
        refine v_iret dX12_downOf_86 rfl ⟨rfl, rfl⟩ ?_
        first
          | (have t0 : rTd I a y = 0 := by rw [rTd, if_neg q3]
             have e : aO (rTd I a y) (rTd I b y) = 0 := by unfold aO; rw [if_pos (Or.inl t0)]
             rw [e] at h; exact h)
          | (have t0 : rTd I b y = 0 := by rw [rTd, if_neg q12]
             have e : aO (rTd I a y) (rTd I b y) = 0 := by unfold aO; rw [if_pos (Or.inr t0)]
             rw [e] at h; exact h)
          | (have e : aO (rTd I a y) (rTd I b y) = 0 := by unfold aO; rw [← g1, ← g2, if_pos (by omega)]
             rw [e] at h; exact h)
          | (have e : aO (rTd I a y) (rTd I b y) = 1 := by unfold aO; rw [← g1, ← g2, if_neg (by omega), if_pos (by omega)]
             rw [e] at h; exact h)
          | (have e : aO (rTd I a y) (rTd I b y) = -1 := by unfold aO; rw [← g1, ← g2, if_neg (by omega), if_neg (by omega)]
             rw [e] at h; exact h)
      · refine w_iload dX12_downOf_65 rfl ?_
        refine v_if_ne 74 dX12_downOf_67 (by decide) (by omega) (fun c67 => ?_) (fun c67 => ?_)
        · refine w_iload dX12_downOf_74 rfl ?_
          refine w_iload dX12_downOf_76 rfl ?_
          refine v_icmp_ne 85 dX12_downOf_78 (by decide) (by omega) (by omega) (fun c78 => ?_) (fun c78 => ?_)
          · refine w_iconst (v := iI (-1)) dX12_downOf_85 rfl ?_
            refine v_iret dX12_downOf_86 rfl ⟨rfl, rfl⟩ ?_
            first
              | (have t0 : rTd I a y = 0 := by rw [rTd, if_neg q3]
                 have e : aO (rTd I a y) (rTd I b y) = 0 := by unfold aO; rw [if_pos (Or.inl t0)]
                 rw [e] at h; exact h)
              | (have t0 : rTd I b y = 0 := by rw [rTd, if_neg q12]
                 have e : aO (rTd I a y) (rTd I b y) = 0 := by unfold aO; rw [if_pos (Or.inr t0)]
                 rw [e] at h; exact h)
              | (have e : aO (rTd I a y) (rTd I b y) = 0 := by unfold aO; rw [← g1, ← g2, if_pos (by omega)]
                 rw [e] at h; exact h)
              | (have e : aO (rTd I a y) (rTd I b y) = 1 := by unfold aO; rw [← g1, ← g2, if_neg (by omega), if_pos (by omega)]
                 rw [e] at h; exact h)
              | (have e : aO (rTd I a y) (rTd I b y) = -1 := by unfold aO; rw [← g1, ← g2, if_neg (by omega), if_neg (by omega)]
                 rw [e] at h; exact h)
          · refine w_iconst (v := iI 1) dX12_downOf_81 rfl ?_
            refine w_goto 86 dX12_downOf_82 (by decide) ?_
            refine v_iret dX12_downOf_86 rfl ⟨rfl, rfl⟩ ?_
            first
              | (have t0 : rTd I a y = 0 := by rw [rTd, if_neg q3]
                 have e : aO (rTd I a y) (rTd I b y) = 0 := by unfold aO; rw [if_pos (Or.inl t0)]
                 rw [e] at h; exact h)
              | (have t0 : rTd I b y = 0 := by rw [rTd, if_neg q12]
                 have e : aO (rTd I a y) (rTd I b y) = 0 := by unfold aO; rw [if_pos (Or.inr t0)]
                 rw [e] at h; exact h)
              | (have e : aO (rTd I a y) (rTd I b y) = 0 := by unfold aO; rw [← g1, ← g2, if_pos (by omega)]
                 rw [e] at h; exact h)
              | (have e : aO (rTd I a y) (rTd I b y) = 1 := by unfold aO; rw [← g1, ← g2, if_neg (by omega), if_pos (by omega)]
                 rw [e] at h; exact h)
              | (have e : aO (rTd I a y) (rTd I b y) = -1 := by unfold aO; rw [← g1, ← g2, if_neg (by omega), if_neg (by omega)]
                 rw [e] at h; exact h)
        · refine w_iconst (v := iI 0) dX12_downOf_70 rfl ?_
          refine w_goto 86 dX12_downOf_71 (by decide) ?_
          refine v_iret dX12_downOf_86 rfl ⟨rfl, rfl⟩ ?_
          first
            | (have t0 : rTd I a y = 0 := by rw [rTd, if_neg q3]
               have e : aO (rTd I a y) (rTd I b y) = 0 := by unfold aO; rw [if_pos (Or.inl t0)]
               rw [e] at h; exact h)
            | (have t0 : rTd I b y = 0 := by rw [rTd, if_neg q12]
               have e : aO (rTd I a y) (rTd I b y) = 0 := by unfold aO; rw [if_pos (Or.inr t0)]
               rw [e] at h; exact h)
            | (have e : aO (rTd I a y) (rTd I b y) = 0 := by unfold aO; rw [← g1, ← g2, if_pos (by omega)]
               rw [e] at h; exact h)
            | (have e : aO (rTd I a y) (rTd I b y) = 1 := by unfold aO; rw [← g1, ← g2, if_neg (by omega), if_pos (by omega)]
               rw [e] at h; exact h)
            | (have e : aO (rTd I a y) (rTd I b y) = -1 := by unfold aO; rw [← g1, ← g2, if_neg (by omega), if_neg (by omega)]
               rw [e] at h; exact h)
    · refine v_if_ne 20 dX12_downOf_15 (by decide) (by decide) (fun q => absurd q (by decide)) (fun _ => ?_)
      refine w_iconst (v := iI 0) dX12_downOf_18 rfl ?_
      refine v_iret dX12_downOf_19 rfl ⟨rfl, rfl⟩ ?_
      first
        | (have t0 : rTd I a y = 0 := by rw [rTd, if_neg q3]
           have e : aO (rTd I a y) (rTd I b y) = 0 := by unfold aO; rw [if_pos (Or.inl t0)]
           rw [e] at h; exact h)
        | (have t0 : rTd I b y = 0 := by rw [rTd, if_neg q12]
           have e : aO (rTd I a y) (rTd I b y) = 0 := by unfold aO; rw [if_pos (Or.inr t0)]
           rw [e] at h; exact h)
        | (have e : aO (rTd I a y) (rTd I b y) = 0 := by unfold aO; rw [← g1, ← g2, if_pos (by omega)]
           rw [e] at h; exact h)
        | (have e : aO (rTd I a y) (rTd I b y) = 1 := by unfold aO; rw [← g1, ← g2, if_neg (by omega), if_pos (by omega)]
           rw [e] at h; exact h)
        | (have e : aO (rTd I a y) (rTd I b y) = -1 := by unfold aO; rw [← g1, ← g2, if_neg (by omega), if_neg (by omega)]
           rw [e] at h; exact h)
  · refine v_if_eq 18 dX12_downOf_6 (by decide) (by decide) (fun _ => ?_) (fun q => absurd q (by decide))
    refine w_iconst (v := iI 0) dX12_downOf_18 rfl ?_
    refine v_iret dX12_downOf_19 rfl ⟨rfl, rfl⟩ ?_
    first
      | (have t0 : rTd I a y = 0 := by rw [rTd, if_neg q3]
         have e : aO (rTd I a y) (rTd I b y) = 0 := by unfold aO; rw [if_pos (Or.inl t0)]
         rw [e] at h; exact h)
      | (have t0 : rTd I b y = 0 := by rw [rTd, if_neg q12]
         have e : aO (rTd I a y) (rTd I b y) = 0 := by unfold aO; rw [if_pos (Or.inr t0)]
         rw [e] at h; exact h)
      | (have e : aO (rTd I a y) (rTd I b y) = 0 := by unfold aO; rw [← g1, ← g2, if_pos (by omega)]
         rw [e] at h; exact h)
      | (have e : aO (rTd I a y) (rTd I b y) = 1 := by unfold aO; rw [← g1, ← g2, if_neg (by omega), if_pos (by omega)]
         rw [e] at h; exact h)
      | (have e : aO (rTd I a y) (rTd I b y) = -1 := by unfold aO; rw [← g1, ← g2, if_neg (by omega), if_neg (by omega)]
         rw [e] at h; exact h)
theorem x12_quarrel_d {I : Nat → Nat → Int32} {J : Nat → Nat → Int64} {F : Option Value → zM → Prop} {a b : Nat} (ha : a < 10) (hb : b < 10) (hR : ∀ b, b < 10 → -1000 ≤ rd I 178 b ∧ rd I 178 b ≤ 1000) (hC : ∀ b, b < 10 → -1000 ≤ rd I 179 b ∧ rd I 179 b ≤ 1000) (ht : qrl I a b → F (some (.int (iI 1))) (gM I J)) (hf : ¬ qrl I a b → F (some (.int (iI 0))) (gM I J)) (hna : ∀ j : Nat, j < 16 → ¬ qrP (rTa I a j) (rTa I b j)) : ∀ (nz : Nat) (k : Nat), 32 - k < nz → k ≤ 32 → (∀ j : Nat, j < k → ¬ qrP (rTd I a j) (rTd I b j)) → Wp (sE kX12_quarrel RX12) F 28 [(0, .ref 171), (1, .int (iI (a : Int))), (2, .int (iI (b : Int))), (3, .int (iI (k : Int)))] [] (gM I J) := by
  intro nz
  induction nz with
  | zero =>
    intro k hmz hk hn
    exact absurd hmz (Nat.not_lt_zero _)
  | succ nz ih =>
    intro k hmz hk hn
    refine w_iload_n dX12_quarrel_28 rfl ?_
    refine w_bipush (v := iI 32) dX12_quarrel_29 (by decide) ?_
    refine v_icmp_ge 52 dX12_quarrel_31 (by decide) (by omega) (by omega) (fun c31 => ?_) (fun c31 => ?_)
    · refine w_iconst (v := iI 0) dX12_quarrel_52 rfl ?_
      refine v_zret dX12_quarrel_53 rfl ⟨rfl, rfl⟩ (by decide) ?_
      exact hf (fun g => by
        rcases g with ⟨j, g1, g2⟩ | ⟨j, g1, g2⟩
        · exact hna j g1 g2
        · exact hn j (by omega) g2)
    · refine w_aload_n dX12_quarrel_34 rfl ?_
      refine w_iload_n dX12_quarrel_35 rfl ?_
      refine w_iload_n dX12_quarrel_36 rfl ?_
      refine w_iload_n dX12_quarrel_37 rfl ?_
      refine v_callV3 dX12_quarrel_38 lX12_103 vX12_downOf (by decide) rfl rfl ⟨by decide, rfl⟩ (by decide) rfl (Nat.le_of_ble_eq_true rfl) ?_
      have bdo : -1 ≤ aO (rTd I a k) (rTd I b k) ∧ aO (rTd I a k) (rTd I b k) ≤ 1 := by unfold aO; split <;> (try split) <;> omega
      refine x12_downOf ha hb hR hC (by omega) ?_
      refine v_if_ge 46 dX12_quarrel_41 (by decide) (by omega) (fun c41 => ?_) (fun c41 => ?_)
      · refine v_iinc dX12_quarrel_46 rfl rfl rfl ?_
        refine w_goto 28 dX12_quarrel_49 (by decide) ?_
        rw [show (k : Int) + 1 = ((k + 1 : Nat) : Int) by omega]
        refine ih (k + 1) (by omega) (by omega) (fun j hj g => ?_)
        rcases Nat.lt_succ_iff_lt_or_eq.mp hj with u | u
        · exact hn j u g
        · subst u; have := aO_neg.mpr g; omega
      · refine w_iconst (v := iI 1) dX12_quarrel_44 rfl ?_
        refine v_zret dX12_quarrel_45 rfl ⟨rfl, rfl⟩ (by decide) ?_
        exact ht (Or.inr ⟨k, by omega, aO_neg.mp (by omega)⟩)
theorem x12_quarrel_a {I : Nat → Nat → Int32} {J : Nat → Nat → Int64} {F : Option Value → zM → Prop} {a b : Nat} (ha : a < 10) (hb : b < 10) (hR : ∀ b, b < 10 → -1000 ≤ rd I 178 b ∧ rd I 178 b ≤ 1000) (hC : ∀ b, b < 10 → -1000 ≤ rd I 179 b ∧ rd I 179 b ≤ 1000) (ht : qrl I a b → F (some (.int (iI 1))) (gM I J)) (hf : ¬ qrl I a b → F (some (.int (iI 0))) (gM I J)) : ∀ (nz : Nat) (k : Nat), 16 - k < nz → k ≤ 16 → (∀ j : Nat, j < k → ¬ qrP (rTa I a j) (rTa I b j)) → Wp (sE kX12_quarrel RX12) F 2 [(0, .ref 171), (1, .int (iI (a : Int))), (2, .int (iI (b : Int))), (3, .int (iI (k : Int)))] [] (gM I J) := by
  intro nz
  induction nz with
  | zero =>
    intro k hmz hk hn
    exact absurd hmz (Nat.not_lt_zero _)
  | succ nz ih =>
    intro k hmz hk hn
    refine w_iload_n dX12_quarrel_2 rfl ?_
    refine w_bipush (v := iI 16) dX12_quarrel_3 (by decide) ?_
    refine v_icmp_ge 26 dX12_quarrel_5 (by decide) (by omega) (by omega) (fun c5 => ?_) (fun c5 => ?_)
    · refine w_iconst (v := iI 0) dX12_quarrel_26 rfl ?_
      refine w_istore_n dX12_quarrel_27 rfl rfl ?_
      exact x12_quarrel_d ha hb hR hC ht hf (fun j hj => hn j (by omega)) 33 0 (by omega) (by omega) (fun j hj => by omega)
    · refine w_aload_n dX12_quarrel_8 rfl ?_
      refine w_iload_n dX12_quarrel_9 rfl ?_
      refine w_iload_n dX12_quarrel_10 rfl ?_
      refine w_iload_n dX12_quarrel_11 rfl ?_
      refine v_callV3 dX12_quarrel_12 lX12_100 vX12_acrossOf (by decide) rfl rfl ⟨by decide, rfl⟩ (by decide) rfl (Nat.le_of_ble_eq_true rfl) ?_
      have bdo : -1 ≤ aO (rTa I a k) (rTa I b k) ∧ aO (rTa I a k) (rTa I b k) ≤ 1 := by unfold aO; split <;> (try split) <;> omega
      refine x12_acrossOf ha hb hR hC (by omega) ?_
      refine v_if_ge 20 dX12_quarrel_15 (by decide) (by omega) (fun c15 => ?_) (fun c15 => ?_)
      · refine v_iinc dX12_quarrel_20 rfl rfl rfl ?_
        refine w_goto 2 dX12_quarrel_23 (by decide) ?_
        rw [show (k : Int) + 1 = ((k + 1 : Nat) : Int) by omega]
        refine ih (k + 1) (by omega) (by omega) (fun j hj g => ?_)
        rcases Nat.lt_succ_iff_lt_or_eq.mp hj with u | u
        · exact hn j u g
        · subst u; have := aO_neg.mpr g; omega
      · refine w_iconst (v := iI 1) dX12_quarrel_18 rfl ?_
        refine v_zret dX12_quarrel_19 rfl ⟨rfl, rfl⟩ (by decide) ?_
        exact ht (Or.inl ⟨k, by omega, aO_neg.mp (by omega)⟩)
theorem x12_quarrel {I : Nat → Nat → Int32} {J : Nat → Nat → Int64} {F : Option Value → zM → Prop} {a b : Nat} (ha : a < 10) (hb : b < 10) (hR : ∀ b, b < 10 → -1000 ≤ rd I 178 b ∧ rd I 178 b ≤ 1000) (hC : ∀ b, b < 10 → -1000 ≤ rd I 179 b ∧ rd I 179 b ≤ 1000) (ht : qrl I a b → F (some (.int (iI 1))) (gM I J)) (hf : ¬ qrl I a b → F (some (.int (iI 0))) (gM I J)) : Cl yX12_quarrel kX12_quarrel [.ref 171, .int (iI (a : Int)), .int (iI (b : Int))] (gM I J) F := by
  refine cl_s (by decide) (by decide) (Nat.le_of_ble_eq_true rfl) rt_z ?_
  show Wp _ F 0 [(0, .ref 171), (1, .int (iI (a : Int))), (2, .int (iI (b : Int)))] [] _
  refine w_iconst (v := iI 0) dX12_quarrel_0 rfl ?_
  refine w_istore_n dX12_quarrel_1 rfl rfl ?_
  exact x12_quarrel_a ha hb hR hC ht hf 17 0 (by omega) (by omega) (fun j hj => by omega)
