/-! both objects, new: they say the same -/
theorem i0_z {id k : Nat} (h1 : ¬ id = 143) (h2 : ¬ id = 144) (h3 : ¬ (4 ≤ id ∧ id < 134)) : rd I0 id k = 0 := by
  unfold rd I0
  rw [if_neg h1, if_neg h2, if_neg (fun u => h3 u.1)]
  rfl
theorem i0_r {q r k : Nat} (hq : q < 10) (hr : r < 13) (h : 0 < r) : rd I0 (bI q r) k = 0 := by
  unfold rd
  rw [i0_b hq hr h]
  rfl
theorem i0_0 {q k : Nat} (hq : q < 10) : rd I0 (bI q 0) k = if k = 0 then (q : Int) else 0 := by
  unfold rd
  rw [i0_b0 hq]
  by_cases e : k = 0
  · rw [if_pos e, if_pos e, iI_toInt (by omega) (by omega)]
  · rw [if_neg e, if_neg e]
    rfl
theorem i0_ly {q : Nat} : ¬ lyB I0 q := by
  unfold lyB
  rw [i0_z (by decide) (by decide) (by decide)]
  exact fun u => u rfl
theorem i0_sm {f : Nat → Int} (h : ∀ b, b < 10 → f b = 0) : (0 : Int) = smN f 10 := (show (0 : Int) = smN (fun _ => 0) 10 from rfl).trans (smN_cg (fun b hb => (h b hb).symm))
theorem tb_n0 (n : Nat) : ¬ tb 0 n = true := by
  rw [tb_0]
  exact fun u => by cases u
theorem Inv_0 : Inv I0 (fun _ _ => 0) := by
  have z : ∀ id k, ¬ id = 143 → ¬ id = 144 → ¬ (4 ≤ id ∧ id < 134) → rd I0 id k = 0 := fun id k a b c => i0_z a b c
  refine ⟨⟨0, by decide, z _ _ (by decide) (by decide) (by decide), z _ _ (by decide) (by decide) (by decide), fun k hk => absurd hk (Nat.not_lt_zero _)⟩, fun q hq => ⟨?_, ?_, ?_⟩, fun d hd => ?_, ⟨0, by decide, z _ _ (by decide) (by decide) (by decide), z _ _ (by decide) (by decide) (by decide), fun k hk => absurd hk (Nat.not_lt_zero _), fun i j _ hk => absurd hk (Nat.not_lt_zero _)⟩, ⟨0, by decide, z _ _ (by decide) (by decide) (by decide), z _ _ (by decide) (by decide) (by decide), fun k hk => absurd hk (Nat.not_lt_zero _)⟩, ⟨0, ?_⟩, ?_, ?_⟩
  · unfold ceR
    rw [i0_0 hq, i0_0 hq, if_pos rfl, if_neg (by decide), z 173 q (by decide) (by decide) (by decide)]
    refine ⟨rfl, Iff.rfl, fun u => absurd rfl u, fun i hi => ?_, fun i hi => ?_⟩
    · rw [i0_r hq (by decide) (by decide), z 175 _ (by decide) (by decide) (by decide)]
    · rw [i0_r hq (by decide) (by decide), z 176 _ (by decide) (by decide) (by decide)]
  · unfold lyR
    rw [i0_0 hq, i0_0 hq, i0_0 hq, if_neg (by decide), if_neg (by decide), if_neg (by decide), z 177 q (by decide) (by decide) (by decide)]
    exact ⟨rfl, by decide, fun l => absurd l i0_ly⟩
  · unfold hoR
    rw [i0_0 hq, if_neg (by decide), z 180 q (by decide) (by decide) (by decide)]
    exact ⟨rfl, by decide, fun k hk => by omega, fun i j _ hk => by omega⟩
  · rw [z 178 d (by decide) (by decide) (by decide), z 179 d (by decide) (by decide) (by decide)]
    decide
  · refine wRL_mk ⟨z _ _ (by decide) (by decide) (by decide), z _ _ (by decide) (by decide) (by decide), by decide, fun w hw => absurd hw (Nat.not_lt_zero _), fun w p hw => absurd hw (Nat.not_lt_zero _), fun h cc n _ _ => ⟨fun u => absurd u (tb_n0 n), fun u => absurd u.1.2.1 (Nat.not_lt_zero _)⟩, fun h n _ => ⟨fun u => absurd u (tb_n0 n), fun u => absurd u.1.2.1 (Nat.not_lt_zero _)⟩, fun h n _ => ⟨fun u => absurd u (tb_n0 n), fun u => absurd u.1.2.1 (Nat.not_lt_zero _)⟩⟩
  · refine ⟨fun b _ l => absurd l i0_ly, fun a b _ _ l => absurd l i0_ly, fun y x => ?_, fun l hl => ⟨?_, fun b _ l => absurd l i0_ly⟩, fun l hl => ⟨?_, fun b _ l => absurd l i0_ly⟩⟩
    · have e := lsN_none (I := I0) (y := y) (x := x) (n := 10) (fun b _ l => absurd l i0_ly)
      rw [show lS I0 y x = 95 from e.1, show lO I0 y x = -1 from e.2]
      unfold sgAt owAt
      by_cases g : inS y x
      · rw [if_pos g, if_pos g]
        have hk : (y * 32 + x).toNat < 512 := by unfold inS at g; omega
        constructor
        · unfold rd I0
          rw [if_pos rfl, if_pos hk, iI_toInt (by decide) (by decide)]
        · unfold rd I0
          rw [if_neg (by decide), if_pos rfl, if_pos hk, iI_toInt (by decide) (by decide)]
      · rw [if_neg g, if_neg g]
        exact ⟨rfl, rfl⟩
    · rw [z 147 l (by decide) (by decide) (by decide)]
      exact i0_sm (fun b _ => if_neg (fun u => i0_ly u.1))
    · rw [z 150 l (by decide) (by decide) (by decide)]
      exact i0_sm (fun b _ => if_neg (fun u => i0_ly u.1))
  · unfold lyN
    rw [z 142 4 (by decide) (by decide) (by decide)]
    exact i0_sm (fun b _ => if_neg i0_ly)
/-- the law's beginning: both objects are made -/
theorem lw_begin {L : Nat} {xs : Nat → Int32} {Q : Option Value → zM → Prop} (hL : L ≤ 3072) (hQ : ∀ I J, Q (some (.int (iI 1))) (gM I J)) : Wp (lE L xs) Q 0 [(0, .ref 1000)] [] mS := by
  rw [← mk_0 mS I0 R0]
  refine c_new (ci := 11) 0 rfl dL_law_0 (by decide) nL_7 i_X11 ii_X11 rfl (Nat.le_of_ble_eq_true rfl) (by decide) ?_
  refine w_dup dL_law_3 rfl ?_
  refine c_ini (e := 171) (as := []) rfl dL_law_4 lL_9 vX11_init (Nat.le_of_ble_eq_true rfl) rfl rfl (Nat.le_of_ble_eq_true rfl) (Nat.le_of_ble_eq_true rfl) (n_X11 rfl) (fun i _ _ k => ⟨rfl, rfl⟩) ?_
  refine w_astore_n dL_law_7 rfl rfl ?_
  refine c_new (ci := 12) 171 rfl dL_law_8 (by decide) nL_10 i_X12 ii_X12 rfl (Nat.le_of_ble_eq_true rfl) (by decide) ?_
  refine w_dup dL_law_11 rfl ?_
  refine c_ini (e := 19) (as := []) rfl dL_law_12 lL_12 vX12_init (Nat.le_of_ble_eq_true rfl) rfl rfl (Nat.le_of_ble_eq_true rfl) (Nat.le_of_ble_eq_true rfl) (n_X12 rfl) (fun i _ _ k => ⟨rfl, rfl⟩) ?_
  refine w_astore_n dL_law_15 rfl rfl ?_
  refine w_iconst (v := iI 0) dL_law_16 rfl ?_
  refine w_istore_n dL_law_17 rfl rfl ?_
  show Wp (lE L xs) Q 18 (lL 0) [] (mk mS I0 R0 190)
  rw [mk_all]
  exact lw_loop hL hQ 5000 0 I0 _ (by decide) (by decide) (by decide) Inv_0
