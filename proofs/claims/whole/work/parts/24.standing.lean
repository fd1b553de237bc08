/-! stood, standing: both sides -/
theorem x11_stood {I : Nat → Nat → Int32} {J : Nat → Nat → Int64} {F : Option Value → zM → Prop} {b : Int} (bb : -2147483648 ≤ b ∧ b < 2147483648) {c : Nat} (hc : rd I 167 1 = c) (hc40 : c ≤ 40) (hP : ∀ k, k < c → 0 ≤ rd I 168 k ∧ rd I 168 k ≤ 1000000) (hm : ∀ q : Nat, q < 10 → 0 ≤ rd I (bI q 0) 12 ∧ rd I (bI q 0) 12 ≤ 6) (hH : ∀ q k : Nat, q < 10 → (k : Int) < rd I (bI q 0) 12 → 0 ≤ rd I (bI q 12) k ∧ rd I (bI q 12) k ≤ 2000) (hn : (∀ q m : Nat, b = q → q < 10 → rd I (bI q 0) 4 ≠ 0 → rd I (bI q 0) 12 = m → m = 0 ∨ c = 0) → F (some (.int (iI (-1)))) (gM I J)) (hy : ∀ q m : Nat, b = q → q < 10 → rd I (bI q 0) 4 ≠ 0 → rd I (bI q 0) 12 = m → 1 ≤ m → 1 ≤ c → F (some (.int (iI (cn (fun h => decide (SB (fun k => rd I 168 k) (fun k => rd I (bI q 12) k) c m h)) c)))) (gM I J)) : Cl yX11_stood kX11_stood [.ref 0, .int (iI b)] (gM I J) F := by
  refine cl_s (by decide) (by decide) (Nat.le_of_ble_eq_true rfl) rt_i ?_
  show Wp _ F 0 [(0, .ref 0), (1, .int (iI b))] [] _
  refine w_aload_n dX11_stood_0 rfl ?_
  refine w_iload_n dX11_stood_1 rfl ?_
  refine v_callV1 dX11_stood_2 lX11_83 vX11_bitOf (by decide) rfl rfl ⟨by decide, rfl⟩ (by decide) rfl (by decide) ?_
  refine x11_bitOf (by omega) (fun q2 => ?_) (fun q hqe hq hqc => ?_)
  · refine w_astore_nN dX11_stood_5 rfl rfl ?_
    refine w_aload_nN dX11_stood_6 rfl ?_
    refine w_ifnull_n 27 dX11_stood_7 (by decide) ?_
    refine w_iconst (v := iI (-1)) dX11_stood_27 rfl ?_
    refine v_iret dX11_stood_28 rfl ⟨rfl, rfl⟩ ?_
    refine hn (fun q' m g1 g2 g3 g4 => ?_)
    first | exact absurd (q2 q' g1 g2) g3 | (have g5 : q' = q := (by omega); subst g5; omega) | omega
  · refine w_astore_n dX11_stood_5 rfl rfl ?_
    refine w_aload_n dX11_stood_6 rfl ?_
    refine w_ifnull_r dX11_stood_7 ?_
    refine w_aload_n dX11_stood_10 rfl ?_
    refine v_getI dX11_stood_11 fX11_190 (sO_b hq (by decide) rfl) (Or.inl rfl) (fun z11 e11 b11 => ?_)
    refine v_if_eq 27 dX11_stood_14 (by decide) (by omega) (fun c14 => ?_) (fun c14 => ?_)
    · refine w_iconst (v := iI (-1)) dX11_stood_27 rfl ?_
      refine v_iret dX11_stood_28 rfl ⟨rfl, rfl⟩ ?_
      refine hn (fun q' m g1 g2 g3 g4 => ?_)
      first | exact absurd (q2 q' g1 g2) g3 | (have g5 : q' = q := (by omega); subst g5; omega) | omega
    · refine w_aload_n dX11_stood_17 rfl ?_
      refine v_getR (j := 167) dX11_stood_18 fX11_49 ⟨by decide, rfl⟩ rfl rfl ?_
      refine v_getI dX11_stood_21 fX11_185 ⟨by decide, rfl⟩ (Or.inl rfl) (fun z21 e21 b21 => ?_)
      refine v_if_ne 29 dX11_stood_24 (by decide) (by omega) (fun c24 => ?_) (fun c24 => ?_)
      · refine w_aload_n dX11_stood_29 rfl ?_
        refine v_getR (j := 167) dX11_stood_30 fX11_49 ⟨by decide, rfl⟩ rfl rfl ?_
        refine w_aload_n dX11_stood_33 rfl ?_
        refine v_callV1 dX11_stood_34 lX11_193 vX6_countPlaces (by decide) rfl rfl ⟨by decide, rfl⟩ (by decide) rfl (by decide) ?_
        have hm0 := hm q hq
        obtain ⟨m, hmm⟩ : ∃ m : Nat, rd I (bI q 0) 12 = m := ⟨(rd I (bI q 0) 12).toNat, by omega⟩
        refine x6_countPlaces (m := m) hq hc hc40 hP hmm (by omega) (by omega) (fun k hk => hH q k hq (by omega)) ?_
        refine v_iret dX11_stood_37 rfl ⟨rfl, rfl⟩ ?_
        exact hy q m hqe hq hqc hmm (by omega) (by omega)
      · refine w_iconst (v := iI (-1)) dX11_stood_27 rfl ?_
        refine v_iret dX11_stood_28 rfl ⟨rfl, rfl⟩ ?_
        refine hn (fun q' m g1 g2 g3 g4 => ?_)
        first | exact absurd (q2 q' g1 g2) g3 | (have g5 : q' = q := (by omega); subst g5; omega) | omega
theorem x11_standing {I : Nat → Nat → Int32} {J : Nat → Nat → Int64} {F : Option Value → zM → Prop} {b t : Int} (bb : -2147483648 ≤ b ∧ b < 2147483648) (bt : -2147483648 ≤ t ∧ t < 2147483648) {c : Nat} (hc : rd I 167 1 = c) (hc40 : c ≤ 40) (hP : ∀ k, k < c → 0 ≤ rd I 168 k ∧ rd I 168 k ≤ 1000000) (hm : ∀ q : Nat, q < 10 → 0 ≤ rd I (bI q 0) 12 ∧ rd I (bI q 0) 12 ≤ 6) (hH : ∀ q k : Nat, q < 10 → (k : Int) < rd I (bI q 0) 12 → 0 ≤ rd I (bI q 12) k ∧ rd I (bI q 12) k ≤ 2000) (hn : (∀ q m : Nat, b = q → q < 10 → rd I (bI q 0) 4 ≠ 0 → rd I (bI q 0) 12 = m → m = 0 ∨ t < 0) → F (some (.int (iI (-1)))) (gM I J)) (hy : ∀ q m : Nat, b = q → q < 10 → rd I (bI q 0) 4 ≠ 0 → rd I (bI q 0) 12 = m → 1 ≤ m → 0 ≤ t → F (some (.int (iI (kf (fun h => decide (SB (fun k => rd I 168 k) (fun k => rd I (bI q 12) k) c m h)) (fun h => rd I 168 h - rd I (bI q 12) 0) t (-1) c)))) (gM I J)) : Cl yX11_standing kX11_standing [.ref 0, .int (iI b), .int (iI t)] (gM I J) F := by
  refine cl_s (by decide) (by decide) (Nat.le_of_ble_eq_true rfl) rt_i ?_
  show Wp _ F 0 [(0, .ref 0), (1, .int (iI b)), (2, .int (iI t))] [] _
  refine w_aload_n dX11_standing_0 rfl ?_
  refine w_iload_n dX11_standing_1 rfl ?_
  refine v_callV1 dX11_standing_2 lX11_83 vX11_bitOf (by decide) rfl rfl ⟨by decide, rfl⟩ (by decide) rfl (by decide) ?_
  refine x11_bitOf (by omega) (fun q2 => ?_) (fun q hqe hq hqc => ?_)
  · refine w_astore_nN dX11_standing_5 rfl rfl ?_
    refine w_aload_nN dX11_standing_6 rfl ?_
    refine w_ifnull_n 21 dX11_standing_7 (by decide) ?_
    refine w_iconst (v := iI (-1)) dX11_standing_21 rfl ?_
    refine v_iret dX11_standing_22 rfl ⟨rfl, rfl⟩ ?_
    refine hn (fun q' m g1 g2 g3 g4 => ?_)
    first | exact absurd (q2 q' g1 g2) g3 | (have g5 : q' = q := (by omega); subst g5; omega) | omega
  · refine w_astore_n dX11_standing_5 rfl rfl ?_
    refine w_aload_n dX11_standing_6 rfl ?_
    refine w_ifnull_r dX11_standing_7 ?_
    refine w_aload_n dX11_standing_10 rfl ?_
    refine v_getI dX11_standing_11 fX11_190 (sO_b hq (by decide) rfl) (Or.inl rfl) (fun z11 e11 b11 => ?_)
    refine v_if_eq 21 dX11_standing_14 (by decide) (by omega) (fun c14 => ?_) (fun c14 => ?_)
    · refine w_iconst (v := iI (-1)) dX11_standing_21 rfl ?_
      refine v_iret dX11_standing_22 rfl ⟨rfl, rfl⟩ ?_
      refine hn (fun q' m g1 g2 g3 g4 => ?_)
      first | exact absurd (q2 q' g1 g2) g3 | (have g5 : q' = q := (by omega); subst g5; omega) | omega
    · refine w_iload_n dX11_standing_17 rfl ?_
      refine v_if_ge 23 dX11_standing_18 (by decide) (by omega) (fun c18 => ?_) (fun c18 => ?_)
      · refine w_aload_n dX11_standing_23 rfl ?_
        refine v_getR (j := 167) dX11_standing_24 fX11_49 ⟨by decide, rfl⟩ rfl rfl ?_
        refine w_aload_n dX11_standing_27 rfl ?_
        refine w_iload_n dX11_standing_28 rfl ?_
        refine v_callV2 dX11_standing_29 lX11_197 vX6_placeOf (by decide) rfl rfl ⟨by decide, rfl⟩ (by decide) rfl (by decide) ?_
        have hm0 := hm q hq
        obtain ⟨m, hmm⟩ : ∃ m : Nat, rd I (bI q 0) 12 = m := ⟨(rd I (bI q 0) 12).toNat, by omega⟩
        refine x6_placeOf (m := m) hq hc hc40 hP hmm (by omega) (by omega) (fun k hk => hH q k hq (by omega)) (by omega) ?_
        refine v_iret dX11_standing_32 rfl ⟨rfl, rfl⟩ ?_
        exact hy q m hqe hq hqc hmm (by omega) (by omega)
      · refine w_iconst (v := iI (-1)) dX11_standing_21 rfl ?_
        refine v_iret dX11_standing_22 rfl ⟨rfl, rfl⟩ ?_
        refine hn (fun q' m g1 g2 g3 g4 => ?_)
        first | exact absurd (q2 q' g1 g2) g3 | (have g5 : q' = q := (by omega); subst g5; omega) | omega
theorem x12_mayStand {I : Nat → Nat → Int32} {J : Nat → Nat → Int64} {F : Option Value → zM → Prop} {b : Int} (bb : -2147483648 ≤ b ∧ b < 2147483648) {c : Nat} (hc : rd I 171 25 = c) (hm : ∀ q : Nat, q < 10 → 0 ≤ rd I 180 q ∧ rd I 180 q ≤ 6) (hn : (∀ q m : Nat, b = q → q < 10 → rd I 173 q ≠ 0 → rd I 180 q = m → m = 0 ∨ c = 0) → F (some (.int (iI 0))) (gM I J)) (hy : ∀ q m : Nat, b = q → q < 10 → rd I 173 q ≠ 0 → rd I 180 q = m → 1 ≤ m → 1 ≤ c → F (some (.int (iI 1))) (gM I J)) : Cl yX12_mayStand kX12_mayStand [.ref 171, .int (iI b)] (gM I J) F := by
  refine cl_s (by decide) (by decide) (Nat.le_of_ble_eq_true rfl) rt_z ?_
  show Wp _ F 0 [(0, .ref 171), (1, .int (iI b))] [] _
  refine w_aload_n dX12_mayStand_0 rfl ?_
  refine w_iload_n dX12_mayStand_1 rfl ?_
  refine v_callV1 dX12_mayStand_2 lX12_81 vX12_isBit (by decide) rfl rfl ⟨by decide, rfl⟩ (by decide) rfl (by decide) ?_
  refine x12_isBit (by omega) (fun q2 => ?_) (fun q hqe hq hqc => ?_)
  rotate_left
  · refine v_if_eq 28 dX12_mayStand_5 (by decide) (by decide) (fun q => absurd q (by decide)) (fun _ => ?_)
    refine w_aload_n dX12_mayStand_8 rfl ?_
    refine v_getI dX12_mayStand_9 fX12_213 ⟨by decide, rfl⟩ (Or.inl rfl) (fun z9 e9 b9 => ?_)
    subst hqe
    have hm0 := hm q hq
    obtain ⟨m, hmm⟩ : ∃ m : Nat, rd I 180 q = m := ⟨(rd I 180 q).toNat, by omega⟩
    refine v_if_le 28 dX12_mayStand_12 (by decide) (by omega) (fun c12 => ?_) (fun c12 => ?_)
    · refine w_iconst (v := iI 0) dX12_mayStand_28 rfl ?_
      refine v_zret dX12_mayStand_29 rfl ⟨rfl, rfl⟩ (by decide) ?_
      first | exact hy q m rfl hq hqc hmm (by omega) (by omega) | (refine hn (fun q' m' g1 g2 g3 g4 => ?_); first | exact absurd (q2 q' g1 g2) g3 | (have g5 : q' = q := (by omega); subst g5; omega) | omega)
    · refine w_aload_n dX12_mayStand_15 rfl ?_
      refine v_getR (j := 180) dX12_mayStand_16 fX12_35 ⟨by decide, rfl⟩ rfl rfl ?_
      refine w_iload_n dX12_mayStand_19 rfl ?_
      refine v_iald dX12_mayStand_20 ⟨by decide, rfl⟩ (by omega) (by omega) (by decide) (fun z20 e20 b20 => ?_)
      have f20 : z20 = m := by rw [e20]; exact hmm
      refine v_if_le 28 dX12_mayStand_21 (by decide) (by omega) (fun c21 => ?_) (fun c21 => ?_)
      · refine w_iconst (v := iI 0) dX12_mayStand_28 rfl ?_
        refine v_zret dX12_mayStand_29 rfl ⟨rfl, rfl⟩ (by decide) ?_
        first | exact hy q m rfl hq hqc hmm (by omega) (by omega) | (refine hn (fun q' m' g1 g2 g3 g4 => ?_); first | exact absurd (q2 q' g1 g2) g3 | (have g5 : q' = q := (by omega); subst g5; omega) | omega)
      · refine w_iconst (v := iI 1) dX12_mayStand_24 rfl ?_
        refine w_goto 29 dX12_mayStand_25 (by decide) ?_
        refine v_zret dX12_mayStand_29 rfl ⟨rfl, rfl⟩ (by decide) ?_
        first | exact hy q m rfl hq hqc hmm (by omega) (by omega) | (refine hn (fun q' m' g1 g2 g3 g4 => ?_); first | exact absurd (q2 q' g1 g2) g3 | (have g5 : q' = q := (by omega); subst g5; omega) | omega)
  · refine v_if_eq 28 dX12_mayStand_5 (by decide) (by decide) (fun _ => ?_) (fun q => absurd q (by decide))
    refine w_iconst (v := iI 0) dX12_mayStand_28 rfl ?_
    refine v_zret dX12_mayStand_29 rfl ⟨rfl, rfl⟩ (by decide) ?_
    first | exact hy q m rfl hq hqc hmm (by omega) (by omega) | (refine hn (fun q' m' g1 g2 g3 g4 => ?_); first | exact absurd (q2 q' g1 g2) g3 | (have g5 : q' = q := (by omega); subst g5; omega) | omega)
theorem x12_stood {I : Nat → Nat → Int32} {J : Nat → Nat → Int64} {F : Option Value → zM → Prop} {b : Int} (bb : -2147483648 ≤ b ∧ b < 2147483648) {c : Nat} (hc : rd I 171 25 = c) (hc40 : c ≤ 40) (hP : ∀ k, k < c → 0 ≤ rd I 188 k ∧ rd I 188 k ≤ 1000000) (hmo : ∀ i j, i < j → j < c → rd I 188 i < rd I 188 j) (hm : ∀ q : Nat, q < 10 → 0 ≤ rd I 180 q ∧ rd I 180 q ≤ 6) (hH : ∀ q k : Nat, q < 10 → (k : Int) < rd I 180 q → 0 ≤ rd I 181 (6 * q + k) ∧ rd I 181 (6 * q + k) ≤ 2000) (hHm : ∀ q m i : Nat, q < 10 → rd I 180 q = m → i < m → rd I 181 (6 * q + i) ≤ rd I 181 (6 * q + (m - 1))) (hn : (∀ q m : Nat, b = q → q < 10 → rd I 173 q ≠ 0 → rd I 180 q = m → m = 0 ∨ c = 0) → F (some (.int (iI (-1)))) (gM I J)) (hy : ∀ q m : Nat, b = q → q < 10 → rd I 173 q ≠ 0 → rd I 180 q = m → 1 ≤ m → 1 ≤ c → ∀ I', (∀ id k, ¬ (id = 171 ∧ k = 27) → rd I' id k = rd I id k) → F (some (.int (iI (cn (fun h => decide (SB (fun k => rd I 188 k) (fun k => rd I 181 (6 * q + k)) c m h)) c)))) (gM I' J)) : Cl yX12_stood kX12_stood [.ref 171, .int (iI b)] (gM I J) F := by
  refine cl_s (by decide) (by decide) (Nat.le_of_ble_eq_true rfl) rt_i ?_
  show Wp _ F 0 [(0, .ref 171), (1, .int (iI b))] [] _
  refine w_aload_n dX12_stood_0 rfl ?_
  refine w_iload_n dX12_stood_1 rfl ?_
  refine v_callV1 dX12_stood_2 lX12_222 vX12_mayStand (by decide) rfl rfl ⟨by decide, rfl⟩ (by decide) rfl (by decide) ?_
  refine x12_mayStand (by omega) hc hm (fun q2 => ?_) (fun q m hqe hq hqc hmm h1m h1c => ?_)
  rotate_left
  · refine v_if_ne 10 dX12_stood_5 (by decide) (by decide) (fun _ => ?_) (fun q => absurd q (by decide))
    refine w_aload_n dX12_stood_10 rfl ?_
    refine w_iload_n dX12_stood_11 rfl ?_
    refine w_iconst (v := iI (-1)) dX12_stood_12 rfl ?_
    refine v_callV2 dX12_stood_13 lX12_225 vX12_stoods (by decide) rfl rfl ⟨by decide, rfl⟩ (by decide) rfl (by decide) ?_
    subst hqe
    refine x12_stoods (c := c) (m := m) hq hc hc40 hP hmo hmm h1m (by have := hm q hq; omega) (fun k hk => hH q k hq (by omega)) (fun i hi => hHm q m i hq hmm hi) (by omega) (fun I' hcn hx => ?_)
    refine w_pop dX12_stood_16 rfl ?_
    refine w_aload_n dX12_stood_17 rfl ?_
    refine v_getI dX12_stood_18 fX12_216 ⟨by decide, rfl⟩ (Or.inl rfl) (fun z18 e18 b18 => ?_)
    refine v_iret dX12_stood_21 rfl ⟨rfl, rfl⟩ ?_
    rw [e18, hcn]
    exact hy q m rfl hq hqc hmm h1m h1c I' hx
  · refine v_if_ne 10 dX12_stood_5 (by decide) (by decide) (fun q => absurd q (by decide)) (fun _ => ?_)
    refine w_iconst (v := iI (-1)) dX12_stood_8 rfl ?_
    refine v_iret dX12_stood_9 rfl ⟨rfl, rfl⟩ ?_
    exact hn q2
theorem x12_standing {I : Nat → Nat → Int32} {J : Nat → Nat → Int64} {F : Option Value → zM → Prop} {b t : Int} (bb : -2147483648 ≤ b ∧ b < 2147483648) (bt : -2147483648 ≤ t ∧ t < 2147483648) {c : Nat} (hc : rd I 171 25 = c) (hc40 : c ≤ 40) (hP : ∀ k, k < c → 0 ≤ rd I 188 k ∧ rd I 188 k ≤ 1000000) (hmo : ∀ i j, i < j → j < c → rd I 188 i < rd I 188 j) (hm : ∀ q : Nat, q < 10 → 0 ≤ rd I 180 q ∧ rd I 180 q ≤ 6) (hH : ∀ q k : Nat, q < 10 → (k : Int) < rd I 180 q → 0 ≤ rd I 181 (6 * q + k) ∧ rd I 181 (6 * q + k) ≤ 2000) (hHm : ∀ q m i : Nat, q < 10 → rd I 180 q = m → i < m → rd I 181 (6 * q + i) ≤ rd I 181 (6 * q + (m - 1))) (hn : (∀ q m : Nat, b = q → q < 10 → rd I 173 q ≠ 0 → rd I 180 q = m → m = 0 ∨ c = 0 ∨ t < 0) → F (some (.int (iI (-1)))) (gM I J)) (hy : ∀ q m : Nat, b = q → q < 10 → rd I 173 q ≠ 0 → rd I 180 q = m → 1 ≤ m → 1 ≤ c → 0 ≤ t → ∀ I', (∀ id k, ¬ (id = 171 ∧ k = 27) → rd I' id k = rd I id k) → F (some (.int (iI (kf (fun h => decide (SB (fun k => rd I 188 k) (fun k => rd I 181 (6 * q + k)) c m h)) (fun h => rd I 188 h - rd I 181 (6 * q)) t (-1) c)))) (gM I' J)) : Cl yX12_standing kX12_standing [.ref 171, .int (iI b), .int (iI t)] (gM I J) F := by
  refine cl_s (by decide) (by decide) (Nat.le_of_ble_eq_true rfl) rt_i ?_
  show Wp _ F 0 [(0, .ref 171), (1, .int (iI b)), (2, .int (iI t))] [] _
  refine w_aload_n dX12_standing_0 rfl ?_
  refine w_iload_n dX12_standing_1 rfl ?_
  refine v_callV1 dX12_standing_2 lX12_222 vX12_mayStand (by decide) rfl rfl ⟨by decide, rfl⟩ (by decide) rfl (by decide) ?_
  refine x12_mayStand (by omega) hc hm (fun q2 => ?_) (fun q m hqe hq hqc hmm h1m h1c => ?_)
  rotate_left
  · refine v_if_eq 21 dX12_standing_5 (by decide) (by decide) (fun q => absurd q (by decide)) (fun _ => ?_)
    refine w_iload_n dX12_standing_8 rfl ?_
    refine v_if_lt 21 dX12_standing_9 (by decide) (by omega) (fun c9 => ?_) (fun c9 => ?_)
    · refine w_iconst (v := iI (-1)) dX12_standing_21 rfl ?_
      refine v_iret dX12_standing_22 rfl ⟨rfl, rfl⟩ ?_
      first | exact hy q m rfl hq hqc hmm h1m h1c (by omega) I' hx | exact hn (fun q m g1 g2 g3 g4 => (q2 q m g1 g2 g3 g4).imp id Or.inl) | exact hn (fun q m g1 g2 g3 g4 => by omega)
    · refine w_aload_n dX12_standing_12 rfl ?_
      refine w_iload_n dX12_standing_13 rfl ?_
      refine w_iload_n dX12_standing_14 rfl ?_
      refine v_callV2 dX12_standing_15 lX12_225 vX12_stoods (by decide) rfl rfl ⟨by decide, rfl⟩ (by decide) rfl (by decide) ?_
      subst hqe
      refine x12_stoods (c := c) (m := m) hq hc hc40 hP hmo hmm h1m (by have := hm q hq; omega) (fun k hk => hH q k hq (by omega)) (fun i hi => hHm q m i hq hmm hi) (by omega) (fun I' hcn hx => ?_)
      refine w_goto 22 dX12_standing_18 (by decide) ?_
      refine v_iret dX12_standing_22 rfl ⟨rfl, rfl⟩ ?_
      first | exact hy q m rfl hq hqc hmm h1m h1c (by omega) I' hx | exact hn (fun q m g1 g2 g3 g4 => (q2 q m g1 g2 g3 g4).imp id Or.inl) | exact hn (fun q m g1 g2 g3 g4 => by omega)
  · refine v_if_eq 21 dX12_standing_5 (by decide) (by decide) (fun _ => ?_) (fun q => absurd q (by decide))
    refine w_iconst (v := iI (-1)) dX12_standing_21 rfl ?_
    refine v_iret dX12_standing_22 rfl ⟨rfl, rfl⟩ ?_
    first | exact hy q m rfl hq hqc hmm h1m h1c (by omega) I' hx | exact hn (fun q m g1 g2 g3 g4 => (q2 q m g1 g2 g3 g4).imp id Or.inl) | exact hn (fun q m g1 g2 g3 g4 => by omega)
