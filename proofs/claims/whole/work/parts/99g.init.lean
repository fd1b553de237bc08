/-! the constructors -/
theorem n_X9 {m : zM} (hm : m.2.2.2 = 1) : Cl yX9_init kX9_init [.ref 1] (z_new m) (fun r m' => r = none ∧ m' = mk m I0 R0 2) := by
  refine cl_c (F0 := I0) hm (fun k => rfl) rfl (by decide) (by decide) (Nat.le_of_ble_eq_true rfl) rfl ?_
  refine w_aload_n dX9_init_0 rfl ?_
  refine w_objInit dX9_init_1 lX9_3 o_inst o_code (Nat.le_of_ble_eq_true rfl) (Nat.le_of_ble_eq_true rfl) ?_
  refine w_aload_n dX9_init_4 rfl ?_
  refine w_sipush (v := iI 200) dX9_init_5 (by decide) ?_
  refine c_arr 2 (by omega) dX9_init_8 rfl (Or.inl rfl) a_int rfl (by decide) (N := 200) (by decide) (by decide) (by show 2 + 1 ≤ 1 + 1 + 1; omega) (by omega) (fun k => rfl) (fun k => (gA_ne (by omega)).trans (rfl)) ?_
  refine c_put (kf := 0) dX9_init_10 fX9_9 rfl rfl rfl rfl rfl (by omega) (by omega) (by omega) ?_
  refine c_ret dX9_init_13 rfl (by show m.2.2.2 + _ = 1 + 1 + 1; omega) (fun m' e => ⟨rfl, e⟩) (fun i h1 h2 k => ⟨rfl, gA_all (fun k => ?_) i k⟩)
  exact match k with
    | 0 => rfl
    | 1 => rfl
    | q + 2 => rfl
theorem n_X1 {m : zM} {a N : Nat} {n : Int32} (hm : m.2.2.2 = a) (h190 : a + 3 ≤ 190) (hs0 : zm_sh a = .inl 1) (hs1 : zm_sh (a + 1) = .inr (.int, N)) (hs2 : zm_sh (a + 2) = .inr (.boolean, N)) (hn0 : ¬ n < 0) (hN : n.toNatClampNeg = N) (hby : N ≤ 512) (hI : ∀ k, I0 a k = 0 ∧ I0 (a + 1) k = 0 ∧ I0 (a + 2) k = 0) (hRa : ∀ k, (z_f (z_f (fun _ => none) 0 (a + 1)) 1 (a + 2)) k = R0 a k) (hR : ∀ k, R0 (a + 1) k = none ∧ R0 (a + 2) k = none) : Cl yX1_init kX1_init [.ref a, .int n] (z_new m) (fun r m' => r = none ∧ m' = mk m I0 R0 3) := by
  refine cl_c (F0 := I0) hm (fun k => (hI k).1) rfl (by decide) (by decide) (Nat.le_of_ble_eq_true rfl) rfl ?_
  refine w_aload_n dX1_init_0 rfl ?_
  refine w_objInit dX1_init_1 lX1_3 o_inst o_code (Nat.le_of_ble_eq_true rfl) (Nat.le_of_ble_eq_true rfl) ?_
  refine w_aload_n dX1_init_4 rfl ?_
  refine w_iload_n dX1_init_5 rfl ?_
  refine c_arr (a + 1) (by omega) dX1_init_6 rfl (Or.inl rfl) a_int hs1 hn0 hN hby (by show (a + 1) + 1 ≤ a + 1 + 2; omega) (by omega) (fun k => (hI k).2.1) (fun k => (gA_ne (by omega)).trans ((hR k).1)) ?_
  refine c_put (kf := 0) dX1_init_8 fX1_9 hs0 rfl rfl rfl rfl (by omega) (by omega) (by omega) ?_
  refine w_aload_n dX1_init_11 rfl ?_
  refine w_iload_n dX1_init_12 rfl ?_
  refine c_arr (a + 2) (by omega) dX1_init_13 rfl (Or.inr (Or.inl rfl)) a_boolean hs2 hn0 hN hby (by show (a + 2) + 1 ≤ a + 1 + 2; omega) (by omega) (fun k => (hI k).2.2) (fun k => (gA_ne (by omega)).trans ((hR k).2)) ?_
  refine c_put (kf := 1) dX1_init_15 fX1_15 hs0 rfl rfl rfl rfl (by omega) (by omega) (by omega) ?_
  exact c_ret dX1_init_18 rfl (by show m.2.2.2 + _ = a + 1 + 2; omega) (fun m' e => ⟨rfl, e⟩) (fun i h1 h2 k => ⟨rfl, gA_all hRa i k⟩)
theorem i0_b {b r k : Nat} (hb : b < 10) (hr : r < 13) (h0 : 0 < r) : I0 (bI b r) k = 0 := by
  have := bI_mod hb hr
  unfold I0
  rw [if_neg (by omega), if_neg (by omega), if_neg (by omega)]
theorem i0_b0 {b k : Nat} (hb : b < 10) : I0 (bI b 0) k = if k = 0 then iI (b : Int) else 0 := by
  have := bI_mod hb (show 0 < 13 by decide)
  unfold I0
  rw [if_neg (by omega), if_neg (by omega)]
  by_cases e : k = 0
  · rw [if_pos (by omega), if_pos e, show (bI b 0 - 4) / 13 = b by unfold bI; omega]
  · rw [if_neg (by omega), if_neg e]
theorem r0_b6 {b : Nat} (hb : b < 10) (k : Nat) : (z_f (z_f (fun _ => none) 0 (bI b 6 + 1)) 1 (bI b 6 + 2)) k = R0 (bI b 6) k := by
  rw [r0_b hb (by decide)]
  exact match k with
    | 0 => rfl
    | 1 => rfl
    | q + 2 => rfl
theorem r0_b9 {b : Nat} (hb : b < 10) (k : Nat) : (z_f (z_f (fun _ => none) 0 (bI b 9 + 1)) 1 (bI b 9 + 2)) k = R0 (bI b 9) k := by
  rw [r0_b hb (by decide)]
  exact match k with
    | 0 => rfl
    | 1 => rfl
    | q + 2 => rfl
set_option maxHeartbeats 2000000 in
theorem n_X0 {m : zM} {b : Nat} (hb : b < 10) (hm : m.2.2.2 = bI b 0) : Cl yX0_init kX0_init [.ref (bI b 0), .int (iI (b : Int))] (z_new m) (fun r m' => r = none ∧ m' = mk m I0 R0 13) := by
  have e1 : bI b 1 = bI b 0 + 1 := rfl
  have e2 : bI b 2 = bI b 0 + 2 := rfl
  have e3 : bI b 3 = bI b 0 + 3 := rfl
  have e4 : bI b 4 = bI b 0 + 4 := rfl
  have e5 : bI b 5 = bI b 0 + 5 := rfl
  have e6 : bI b 6 = bI b 0 + 6 := rfl
  have e7 : bI b 7 = bI b 0 + 7 := rfl
  have e8 : bI b 8 = bI b 0 + 8 := rfl
  have e9 : bI b 9 = bI b 0 + 9 := rfl
  have e10 : bI b 10 = bI b 0 + 10 := rfl
  have e11 : bI b 11 = bI b 0 + 11 := rfl
  have e12 : bI b 12 = bI b 0 + 12 := rfl
  have eb : bI b 0 + 13 ≤ 134 := by have := bI_mod hb (show 12 < 13 by decide); omega
  refine cl_c (F0 := fA (bI b 0) (fun _ => 0)) hm (fun k => if_pos rfl) rfl (by decide) (by decide) (Nat.le_of_ble_eq_true rfl) rfl ?_
  refine w_aload_n dX0_init_0 rfl ?_
  refine w_objInit dX0_init_1 lX0_3 o_inst o_code (Nat.le_of_ble_eq_true rfl) (Nat.le_of_ble_eq_true rfl) ?_
  refine w_aload_n dX0_init_4 rfl ?_
  refine w_bipush (v := iI 50) dX0_init_5 (by decide) ?_
  refine c_arr (bI b 1) (by omega) dX0_init_7 rfl (Or.inl rfl) a_int (sh_b hb (by decide)) (by decide) (N := 50) (by decide) (by decide) (by show (bI b 1) + 1 ≤ (bI b 0) + 1 + 12; omega) (by omega) (fun k => (fA_ne (by omega)).trans (i0_b hb (by decide) (by decide))) (fun k => (gA_ne (by omega)).trans ((r0_b hb (by decide)).trans rfl)) ?_
  refine c_put (kf := 1) dX0_init_9 fX0_9 (sh_b hb (by decide)) rfl rfl rfl rfl (by omega) (by omega) (by omega) ?_
  refine w_aload_n dX0_init_12 rfl ?_
  refine w_bipush (v := iI 50) dX0_init_13 (by decide) ?_
  refine c_arr (bI b 2) (by omega) dX0_init_15 rfl (Or.inl rfl) a_int (sh_b hb (by decide)) (by decide) (N := 50) (by decide) (by decide) (by show (bI b 2) + 1 ≤ (bI b 0) + 1 + 12; omega) (by omega) (fun k => (fA_ne (by omega)).trans (i0_b hb (by decide) (by decide))) (fun k => (gA_ne (by omega)).trans ((r0_b hb (by decide)).trans rfl)) ?_
  refine c_put (kf := 2) dX0_init_17 fX0_15 (sh_b hb (by decide)) rfl rfl rfl rfl (by omega) (by omega) (by omega) ?_
  refine w_aload_n dX0_init_20 rfl ?_
  refine w_bipush (v := iI 50) dX0_init_21 (by decide) ?_
  refine c_arr (bI b 3) (by omega) dX0_init_23 rfl (Or.inl rfl) a_int (sh_b hb (by decide)) (by decide) (N := 50) (by decide) (by decide) (by show (bI b 3) + 1 ≤ (bI b 0) + 1 + 12; omega) (by omega) (fun k => (fA_ne (by omega)).trans (i0_b hb (by decide) (by decide))) (fun k => (gA_ne (by omega)).trans ((r0_b hb (by decide)).trans rfl)) ?_
  refine c_put (kf := 3) dX0_init_25 fX0_18 (sh_b hb (by decide)) rfl rfl rfl rfl (by omega) (by omega) (by omega) ?_
  refine w_aload_n dX0_init_28 rfl ?_
  refine w_iconst (v := iI 5) dX0_init_29 rfl ?_
  refine c_arr (bI b 4) (by omega) dX0_init_30 rfl (Or.inl rfl) a_int (sh_b hb (by decide)) (by decide) (N := 5) (by decide) (by decide) (by show (bI b 4) + 1 ≤ (bI b 0) + 1 + 12; omega) (by omega) (fun k => (fA_ne (by omega)).trans (i0_b hb (by decide) (by decide))) (fun k => (gA_ne (by omega)).trans ((r0_b hb (by decide)).trans rfl)) ?_
  refine c_put (kf := 5) dX0_init_32 fX0_21 (sh_b hb (by decide)) rfl rfl rfl rfl (by omega) (by omega) (by omega) ?_
  refine w_aload_n dX0_init_35 rfl ?_
  refine w_iconst (v := iI 5) dX0_init_36 rfl ?_
  refine c_arr (bI b 5) (by omega) dX0_init_37 rfl (Or.inl rfl) a_int (sh_b hb (by decide)) (by decide) (N := 5) (by decide) (by decide) (by show (bI b 5) + 1 ≤ (bI b 0) + 1 + 12; omega) (by omega) (fun k => (fA_ne (by omega)).trans (i0_b hb (by decide) (by decide))) (fun k => (gA_ne (by omega)).trans ((r0_b hb (by decide)).trans rfl)) ?_
  refine c_put (kf := 6) dX0_init_39 fX0_24 (sh_b hb (by decide)) rfl rfl rfl rfl (by omega) (by omega) (by omega) ?_
  refine w_aload_n dX0_init_42 rfl ?_
  refine c_new (ci := 1) (bI b 6) (by omega) dX0_init_43 (by decide) nX0_27 i_X1 ii_X1 (sh_b hb (by decide)) (by show (bI b 6) + 1 ≤ (bI b 0) + 1 + 12; omega) (by omega) ?_
  refine w_dup dX0_init_46 rfl ?_
  refine w_iconst (v := iI 5) dX0_init_47 rfl ?_
  refine c_ini (e := 3) (as := [.int (iI 5)]) (by omega) dX0_init_48 lX0_29 vX1_init (Nat.le_of_ble_eq_true rfl) rfl rfl (Nat.le_of_ble_eq_true rfl) (by show (bI b 6) + 1 + 2 ≤ (bI b 0) + 1 + 12; omega) (n_X1 (N := 5) (show m.2.2.2 + _ = bI b 6 by omega) (by omega) (sh_b hb (by decide)) (sh_b (r := 7) hb (by decide)) (sh_b (r := 8) hb (by decide)) (by decide) (by decide) (by decide) (fun k => ⟨i0_b hb (by decide) (by decide), i0_b (r := 7) hb (by decide) (by decide), i0_b (r := 8) hb (by decide) (by decide)⟩) (r0_b6 hb) (fun k => ⟨(r0_b (r := 7) hb (by decide)).trans rfl, (r0_b (r := 8) hb (by decide)).trans rfl⟩)) (fun i h1 h2 k => ⟨fA_ne (by omega), gA_ne (by omega)⟩) ?_
  refine c_put (kf := 9) dX0_init_51 fX0_32 (sh_b hb (by decide)) rfl rfl rfl rfl (by omega) (by omega) (by omega) ?_
  refine w_aload_n dX0_init_54 rfl ?_
  refine c_new (ci := 1) (bI b 9) (by omega) dX0_init_55 (by decide) nX0_27 i_X1 ii_X1 (sh_b hb (by decide)) (by show (bI b 9) + 1 ≤ (bI b 0) + 1 + 12; omega) (by omega) ?_
  refine w_dup dX0_init_58 rfl ?_
  refine w_bipush (v := iI 10) dX0_init_59 (by decide) ?_
  refine c_ini (e := 3) (as := [.int (iI 10)]) (by omega) dX0_init_61 lX0_29 vX1_init (Nat.le_of_ble_eq_true rfl) rfl rfl (Nat.le_of_ble_eq_true rfl) (by show (bI b 9) + 1 + 2 ≤ (bI b 0) + 1 + 12; omega) (n_X1 (N := 10) (show m.2.2.2 + _ = bI b 9 by omega) (by omega) (sh_b hb (by decide)) (sh_b (r := 10) hb (by decide)) (sh_b (r := 11) hb (by decide)) (by decide) (by decide) (by decide) (fun k => ⟨i0_b hb (by decide) (by decide), i0_b (r := 10) hb (by decide) (by decide), i0_b (r := 11) hb (by decide) (by decide)⟩) (r0_b9 hb) (fun k => ⟨(r0_b (r := 10) hb (by decide)).trans rfl, (r0_b (r := 11) hb (by decide)).trans rfl⟩)) (fun i h1 h2 k => ⟨fA_ne (by omega), gA_ne (by omega)⟩) ?_
  refine c_put (kf := 10) dX0_init_64 fX0_36 (sh_b hb (by decide)) rfl rfl rfl rfl (by omega) (by omega) (by omega) ?_
  refine w_aload_n dX0_init_67 rfl ?_
  refine w_bipush (v := iI 6) dX0_init_68 (by decide) ?_
  refine c_arr (bI b 12) (by omega) dX0_init_70 rfl (Or.inl rfl) a_int (sh_b hb (by decide)) (by decide) (N := 6) (by decide) (by decide) (by show (bI b 12) + 1 ≤ (bI b 0) + 1 + 12; omega) (by omega) (fun k => (fA_ne (by omega)).trans (i0_b hb (by decide) (by decide))) (fun k => (gA_ne (by omega)).trans ((r0_b hb (by decide)).trans rfl)) ?_
  refine c_put (kf := 11) dX0_init_72 fX0_39 (sh_b hb (by decide)) rfl rfl rfl rfl (by omega) (by omega) (by omega) ?_
  refine w_aload_n dX0_init_75 rfl ?_
  refine w_iload_n dX0_init_76 rfl ?_
  refine w_putFI (kf := 0) dX0_init_77 fX0_42 (show (bI b 0) < m.2.2.2 + _ by omega) (sh_b hb (by decide)) rfl rfl rfl rfl ?_
  rw [mk_uI (by omega) (by omega)]
  refine c_ret dX0_init_80 rfl (by show m.2.2.2 + _ = bI b 0 + 1 + 12; omega) (fun m' e => ⟨rfl, e⟩) (fun i h1 h2 k => ⟨?_, gA_all (fun k => ?_) i k⟩)
  · unfold z_u fA
    by_cases e : i = bI b 0
    · subst e
      rw [i0_b0 hb, if_pos rfl]
      by_cases e2 : k = 0
      · rw [if_pos ⟨rfl, e2⟩, if_pos e2]
      · rw [if_neg (fun u => e2 u.2), if_neg e2]
    · rw [if_neg (fun u => e u.1), if_neg e]
  · rw [r0_b hb (by decide)]
    exact match k with
      | 0 => rfl
      | 1 => rfl
      | 2 => rfl
      | 3 => rfl
      | 4 => rfl
      | 5 => rfl
      | 6 => rfl
      | 7 => rfl
      | 8 => rfl
      | 9 => rfl
      | 10 => rfl
      | 11 => rfl
      | q + 12 => rfl
theorem n_X10 {m : zM} (hm : m.2.2.2 = 134) : Cl yX10_init kX10_init [.ref 134] (z_new m) (fun r m' => r = none ∧ m' = mk m I0 R0 8) := by
  refine cl_c (F0 := I0) hm (fun k => rfl) rfl (by decide) (by decide) (Nat.le_of_ble_eq_true rfl) rfl ?_
  refine w_aload_n dX10_init_0 rfl ?_
  refine w_objInit dX10_init_1 lX10_3 o_inst o_code (Nat.le_of_ble_eq_true rfl) (Nat.le_of_ble_eq_true rfl) ?_
  refine w_aload_n dX10_init_4 rfl ?_
  refine w_iconst (v := iI 2) dX10_init_5 rfl ?_
  refine w_bipush (v := iI 27) dX10_init_6 (by decide) ?_
  refine c_mna 135 (by omega) dX10_init_8 n10_mna a_long rfl rfl rfl (by show 135 + 1 + 2 ≤ 134 + 1 + 7; omega) (by omega) (fun k => ⟨rfl, rfl, rfl⟩) (fun k => (gA_ne (by omega)).trans rmna) (fun k => ⟨(gA_ne (by omega)).trans (rfl), (gA_ne (by omega)).trans (rfl)⟩) ?_
  refine c_put (kf := 1) dX10_init_12 fX10_13 rfl rfl rfl rfl rfl (by omega) (by omega) (by omega) ?_
  refine w_aload_n dX10_init_15 rfl ?_
  refine w_iconst (v := iI 2) dX10_init_16 rfl ?_
  refine c_arr 138 (by omega) dX10_init_17 rfl (Or.inr (Or.inr rfl)) a_long rfl (by decide) (N := 2) (by decide) (by decide) (by show 138 + 1 ≤ 134 + 1 + 7; omega) (by omega) (fun k => rfl) (fun k => (gA_ne (by omega)).trans (rfl)) ?_
  refine c_put (kf := 2) dX10_init_19 fX10_16 rfl rfl rfl rfl rfl (by omega) (by omega) (by omega) ?_
  refine w_aload_n dX10_init_22 rfl ?_
  refine w_iconst (v := iI 2) dX10_init_23 rfl ?_
  refine c_arr 139 (by omega) dX10_init_24 rfl (Or.inr (Or.inr rfl)) a_long rfl (by decide) (N := 2) (by decide) (by decide) (by show 139 + 1 ≤ 134 + 1 + 7; omega) (by omega) (fun k => rfl) (fun k => (gA_ne (by omega)).trans (rfl)) ?_
  refine c_put (kf := 3) dX10_init_26 fX10_20 rfl rfl rfl rfl rfl (by omega) (by omega) (by omega) ?_
  refine w_aload_n dX10_init_29 rfl ?_
  refine w_iconst (v := iI 2) dX10_init_30 rfl ?_
  refine c_arr 140 (by omega) dX10_init_31 rfl (Or.inr (Or.inr rfl)) a_long rfl (by decide) (N := 2) (by decide) (by decide) (by show 140 + 1 ≤ 134 + 1 + 7; omega) (by omega) (fun k => rfl) (fun k => (gA_ne (by omega)).trans (rfl)) ?_
  refine c_put (kf := 4) dX10_init_33 fX10_23 rfl rfl rfl rfl rfl (by omega) (by omega) (by omega) ?_
  refine w_aload_n dX10_init_36 rfl ?_
  refine w_iconst (v := iI 2) dX10_init_37 rfl ?_
  refine c_arr 141 (by omega) dX10_init_38 rfl (Or.inr (Or.inr rfl)) a_long rfl (by decide) (N := 2) (by decide) (by decide) (by show 141 + 1 ≤ 134 + 1 + 7; omega) (by omega) (fun k => rfl) (fun k => (gA_ne (by omega)).trans (rfl)) ?_
  refine c_put (kf := 5) dX10_init_40 fX10_26 rfl rfl rfl rfl rfl (by omega) (by omega) (by omega) ?_
  refine c_ret dX10_init_43 rfl (by show m.2.2.2 + _ = 134 + 1 + 7; omega) (fun m' e => ⟨rfl, e⟩) (fun i h1 h2 k => ⟨rfl, gA_all (fun k => ?_) i k⟩)
  exact match k with
    | 0 => rfl
    | 1 => rfl
    | 2 => rfl
    | 3 => rfl
    | 4 => rfl
    | 5 => rfl
    | q + 6 => rfl
theorem n_X3 {m : zM} {a N : Nat} {n : Int32} (hm : m.2.2.2 = a) (h190 : a + 3 ≤ 190) (hs0 : zm_sh a = .inl 3) (hs1 : zm_sh (a + 1) = .inr (.int, N)) (hs2 : zm_sh (a + 2) = .inr (.int, N)) (hn0 : ¬ n < 0) (hN : n.toNatClampNeg = N) (hby : N ≤ 512) (hI : ∀ k, I0 a k = 0 ∧ I0 (a + 1) k = 0 ∧ I0 (a + 2) k = 0) (hRa : ∀ k, (z_f (z_f (fun _ => none) 0 (a + 1)) 1 (a + 2)) k = R0 a k) (hR : ∀ k, R0 (a + 1) k = none ∧ R0 (a + 2) k = none) : Cl yX3_init kX3_init [.ref a, .int n] (z_new m) (fun r m' => r = none ∧ m' = mk m I0 R0 3) := by
  refine cl_c (F0 := I0) hm (fun k => (hI k).1) rfl (by decide) (by decide) (Nat.le_of_ble_eq_true rfl) rfl ?_
  refine w_aload_n dX3_init_0 rfl ?_
  refine w_objInit dX3_init_1 lX3_3 o_inst o_code (Nat.le_of_ble_eq_true rfl) (Nat.le_of_ble_eq_true rfl) ?_
  refine w_aload_n dX3_init_4 rfl ?_
  refine w_iload_n dX3_init_5 rfl ?_
  refine c_arr (a + 1) (by omega) dX3_init_6 rfl (Or.inl rfl) a_int hs1 hn0 hN hby (by show (a + 1) + 1 ≤ a + 1 + 2; omega) (by omega) (fun k => (hI k).2.1) (fun k => (gA_ne (by omega)).trans ((hR k).1)) ?_
  refine c_put (kf := 0) dX3_init_8 fX3_9 hs0 rfl rfl rfl rfl (by omega) (by omega) (by omega) ?_
  refine w_aload_n dX3_init_11 rfl ?_
  refine w_iload_n dX3_init_12 rfl ?_
  refine c_arr (a + 2) (by omega) dX3_init_13 rfl (Or.inl rfl) a_int hs2 hn0 hN hby (by show (a + 2) + 1 ≤ a + 1 + 2; omega) (by omega) (fun k => (hI k).2.2) (fun k => (gA_ne (by omega)).trans ((hR k).2)) ?_
  refine c_put (kf := 1) dX3_init_15 fX3_15 hs0 rfl rfl rfl rfl (by omega) (by omega) (by omega) ?_
  exact c_ret dX3_init_18 rfl (by show m.2.2.2 + _ = a + 1 + 2; omega) (fun m' e => ⟨rfl, e⟩) (fun i h1 h2 k => ⟨rfl, gA_all hRa i k⟩)
theorem n_X5 {m : zM} {a : Nat} (hm : m.2.2.2 = a) (h190 : a + 5 ≤ 190) (hs0 : zm_sh a = .inl 5) (hs1 : zm_sh (a + 1) = .inr (.int, 512)) (hs2 : zm_sh (a + 2) = .inr (.int, 512)) (hs3 : zm_sh (a + 3) = .inr (.int, 512)) (hs4 : zm_sh (a + 4) = .inr (.boolean, 512)) (hI : ∀ k, I0 a k = 0 ∧ I0 (a + 1) k = 0 ∧ I0 (a + 2) k = 0 ∧ I0 (a + 3) k = 0 ∧ I0 (a + 4) k = 0) (hRa : ∀ k, (z_f (z_f (z_f (z_f (fun _ => none) 0 (a + 1)) 1 (a + 2)) 2 (a + 3)) 3 (a + 4)) k = R0 a k) (hR : ∀ k, R0 (a + 1) k = none ∧ R0 (a + 2) k = none ∧ R0 (a + 3) k = none ∧ R0 (a + 4) k = none) : Cl yX5_init kX5_init [.ref a] (z_new m) (fun r m' => r = none ∧ m' = mk m I0 R0 5) := by
  refine cl_c (F0 := I0) hm (fun k => (hI k).1) rfl (by decide) (by decide) (Nat.le_of_ble_eq_true rfl) rfl ?_
  refine w_aload_n dX5_init_0 rfl ?_
  refine w_objInit dX5_init_1 lX5_3 o_inst o_code (Nat.le_of_ble_eq_true rfl) (Nat.le_of_ble_eq_true rfl) ?_
  refine w_aload_n dX5_init_4 rfl ?_
  refine w_sipush (v := iI 512) dX5_init_5 (by decide) ?_
  refine c_arr (a + 1) (by omega) dX5_init_8 rfl (Or.inl rfl) a_int hs1 (by decide) (N := 512) (by decide) (by decide) (by show (a + 1) + 1 ≤ a + 1 + 4; omega) (by omega) (fun k => (hI k).2.1) (fun k => (gA_ne (by omega)).trans ((hR k).1)) ?_
  refine c_put (kf := 0) dX5_init_10 fX5_9 hs0 rfl rfl rfl rfl (by omega) (by omega) (by omega) ?_
  refine w_aload_n dX5_init_13 rfl ?_
  refine w_sipush (v := iI 512) dX5_init_14 (by decide) ?_
  refine c_arr (a + 2) (by omega) dX5_init_17 rfl (Or.inl rfl) a_int hs2 (by decide) (N := 512) (by decide) (by decide) (by show (a + 2) + 1 ≤ a + 1 + 4; omega) (by omega) (fun k => (hI k).2.2.1) (fun k => (gA_ne (by omega)).trans ((hR k).2.1)) ?_
  refine c_put (kf := 1) dX5_init_19 fX5_15 hs0 rfl rfl rfl rfl (by omega) (by omega) (by omega) ?_
  refine w_aload_n dX5_init_22 rfl ?_
  refine w_sipush (v := iI 512) dX5_init_23 (by decide) ?_
  refine c_arr (a + 3) (by omega) dX5_init_26 rfl (Or.inl rfl) a_int hs3 (by decide) (N := 512) (by decide) (by decide) (by show (a + 3) + 1 ≤ a + 1 + 4; omega) (by omega) (fun k => (hI k).2.2.2.1) (fun k => (gA_ne (by omega)).trans ((hR k).2.2.1)) ?_
  refine c_put (kf := 2) dX5_init_28 fX5_18 hs0 rfl rfl rfl rfl (by omega) (by omega) (by omega) ?_
  refine w_aload_n dX5_init_31 rfl ?_
  refine w_sipush (v := iI 512) dX5_init_32 (by decide) ?_
  refine c_arr (a + 4) (by omega) dX5_init_35 rfl (Or.inr (Or.inl rfl)) a_boolean hs4 (by decide) (N := 512) (by decide) (by decide) (by show (a + 4) + 1 ≤ a + 1 + 4; omega) (by omega) (fun k => (hI k).2.2.2.2) (fun k => (gA_ne (by omega)).trans ((hR k).2.2.2)) ?_
  refine c_put (kf := 3) dX5_init_37 fX5_21 hs0 rfl rfl rfl rfl (by omega) (by omega) (by omega) ?_
  exact c_ret dX5_init_40 rfl (by show m.2.2.2 + _ = a + 1 + 4; omega) (fun m' e => ⟨rfl, e⟩) (fun i h1 h2 k => ⟨rfl, gA_all hRa i k⟩)
theorem r0_152 (k : Nat) : (z_f (z_f (z_f (z_f (fun _ => none) 0 (152 + 1)) 1 (152 + 2)) 2 (152 + 3)) 3 (152 + 4)) k = R0 152 k := match k with
    | 0 => rfl
    | 1 => rfl
    | 2 => rfl
    | 3 => rfl
    | q + 4 => rfl
theorem r0_157 (k : Nat) : (z_f (z_f (z_f (z_f (fun _ => none) 0 (157 + 1)) 1 (157 + 2)) 2 (157 + 3)) 3 (157 + 4)) k = R0 157 k := match k with
    | 0 => rfl
    | 1 => rfl
    | 2 => rfl
    | 3 => rfl
    | q + 4 => rfl
theorem r0_145 (k : Nat) : (z_f (z_f (fun _ => none) 0 (145 + 1)) 1 (145 + 2)) k = R0 145 k := match k with
    | 0 => rfl
    | 1 => rfl
    | q + 2 => rfl
theorem r0_148 (k : Nat) : (z_f (z_f (fun _ => none) 0 (148 + 1)) 1 (148 + 2)) k = R0 148 k := match k with
    | 0 => rfl
    | 1 => rfl
    | q + 2 => rfl
theorem n_X4 {m : zM} (hm : m.2.2.2 = 163) : Cl yX4_init kX4_init [.ref 163] (z_new m) (fun r m' => r = none ∧ m' = mk m I0 R0 4) := by
  refine cl_c (F0 := I0) hm (fun k => rfl) rfl (by decide) (by decide) (Nat.le_of_ble_eq_true rfl) rfl ?_
  refine w_aload_n dX4_init_0 rfl ?_
  refine w_objInit dX4_init_1 lX4_3 o_inst o_code (Nat.le_of_ble_eq_true rfl) (Nat.le_of_ble_eq_true rfl) ?_
  refine w_aload_n dX4_init_4 rfl ?_
  refine w_sipush (v := iI 231) dX4_init_5 (by decide) ?_
  refine c_arr 164 (by omega) dX4_init_8 rfl (Or.inl rfl) a_int rfl (by decide) (N := 231) (by decide) (by decide) (by show 164 + 1 ≤ 163 + 1 + 3; omega) (by omega) (fun k => rfl) (fun k => (gA_ne (by omega)).trans (rfl)) ?_
  refine c_put (kf := 0) dX4_init_10 fX4_11 rfl rfl rfl rfl rfl (by omega) (by omega) (by omega) ?_
  refine w_aload_n dX4_init_13 rfl ?_
  refine w_bipush (v := iI 11) dX4_init_14 (by decide) ?_
  refine c_arr 165 (by omega) dX4_init_16 rfl (Or.inl rfl) a_int rfl (by decide) (N := 11) (by decide) (by decide) (by show 165 + 1 ≤ 163 + 1 + 3; omega) (by omega) (fun k => rfl) (fun k => (gA_ne (by omega)).trans (rfl)) ?_
  refine c_put (kf := 1) dX4_init_18 fX4_15 rfl rfl rfl rfl rfl (by omega) (by omega) (by omega) ?_
  refine w_aload_n dX4_init_21 rfl ?_
  refine w_bipush (v := iI 21) dX4_init_22 (by decide) ?_
  refine c_arr 166 (by omega) dX4_init_24 rfl (Or.inl rfl) a_int rfl (by decide) (N := 21) (by decide) (by decide) (by show 166 + 1 ≤ 163 + 1 + 3; omega) (by omega) (fun k => rfl) (fun k => (gA_ne (by omega)).trans (rfl)) ?_
  refine c_put (kf := 2) dX4_init_26 fX4_18 rfl rfl rfl rfl rfl (by omega) (by omega) (by omega) ?_
  refine c_ret dX4_init_29 rfl (by show m.2.2.2 + _ = 163 + 1 + 3; omega) (fun m' e => ⟨rfl, e⟩) (fun i h1 h2 k => ⟨rfl, gA_all (fun k => ?_) i k⟩)
  exact match k with
    | 0 => rfl
    | 1 => rfl
    | 2 => rfl
    | q + 3 => rfl
theorem n_X7 {m : zM} (hm : m.2.2.2 = 151) : Cl yX7_init kX7_init [.ref 151] (z_new m) (fun r m' => r = none ∧ m' = mk m I0 R0 16) := by
  refine cl_c (F0 := I0) hm (fun k => rfl) rfl (by decide) (by decide) (Nat.le_of_ble_eq_true rfl) rfl ?_
  refine w_aload_n dX7_init_0 rfl ?_
  refine w_objInit dX7_init_1 lX7_3 o_inst o_code (Nat.le_of_ble_eq_true rfl) (Nat.le_of_ble_eq_true rfl) ?_
  refine w_aload_n dX7_init_4 rfl ?_
  refine c_new (ci := 5) 152 (by omega) dX7_init_5 (by decide) nX7_9 i_X5 ii_X5 rfl (by show 152 + 1 ≤ 151 + 1 + 15; omega) (by omega) ?_
  refine w_dup dX7_init_8 rfl ?_
  refine c_inN (e := 5) (as := []) (by omega) dX7_init_9 lX7_11 vX5_init (Nat.le_of_ble_eq_true rfl) rfl rfl (Nat.le_of_ble_eq_true rfl) (by show 152 + 1 + 4 ≤ 151 + 1 + 15; omega) (n_X5 (show m.2.2.2 + _ = 152 by omega) (by decide) rfl rfl rfl rfl rfl (fun k => ⟨rfl, rfl, rfl, rfl, rfl⟩) r0_152 (fun k => ⟨rfl, rfl, rfl, rfl⟩)) (fun i h1 h2 k => ⟨rfl, gA_ne (by omega)⟩) ?_
  refine c_put (kf := 0) dX7_init_12 fX7_12 rfl rfl rfl rfl rfl (by omega) (by omega) (by omega) ?_
  refine w_aload_n dX7_init_15 rfl ?_
  refine c_new (ci := 5) 157 (by omega) dX7_init_16 (by decide) nX7_9 i_X5 ii_X5 rfl (by show 157 + 1 ≤ 151 + 1 + 15; omega) (by omega) ?_
  refine w_dup dX7_init_19 rfl ?_
  refine c_inN (e := 5) (as := []) (by omega) dX7_init_20 lX7_11 vX5_init (Nat.le_of_ble_eq_true rfl) rfl rfl (Nat.le_of_ble_eq_true rfl) (by show 157 + 1 + 4 ≤ 151 + 1 + 15; omega) (n_X5 (show m.2.2.2 + _ = 157 by omega) (by decide) rfl rfl rfl rfl rfl (fun k => ⟨rfl, rfl, rfl, rfl, rfl⟩) r0_157 (fun k => ⟨rfl, rfl, rfl, rfl⟩)) (fun i h1 h2 k => ⟨rfl, gA_ne (by omega)⟩) ?_
  refine c_put (kf := 1) dX7_init_23 fX7_18 rfl rfl rfl rfl rfl (by omega) (by omega) (by omega) ?_
  refine w_aload_n dX7_init_26 rfl ?_
  refine w_sipush (v := iI 512) dX7_init_27 (by decide) ?_
  refine c_arr 162 (by omega) dX7_init_30 rfl (Or.inl rfl) a_int rfl (by decide) (N := 512) (by decide) (by decide) (by show 162 + 1 ≤ 151 + 1 + 15; omega) (by omega) (fun k => rfl) (fun k => (gA_ne (by omega)).trans (rfl)) ?_
  refine c_put (kf := 2) dX7_init_32 fX7_21 rfl rfl rfl rfl rfl (by omega) (by omega) (by omega) ?_
  refine w_aload_n dX7_init_35 rfl ?_
  refine c_new (ci := 4) 163 (by omega) dX7_init_36 (by decide) nX7_25 i_X4 ii_X4 rfl (by show 163 + 1 ≤ 151 + 1 + 15; omega) (by omega) ?_
  refine w_dup dX7_init_39 rfl ?_
  refine c_inN (e := 4) (as := []) (by omega) dX7_init_40 lX7_27 vX4_init (Nat.le_of_ble_eq_true rfl) rfl rfl (Nat.le_of_ble_eq_true rfl) (by show 163 + 1 + 3 ≤ 151 + 1 + 15; omega) (n_X4 (show m.2.2.2 + _ = 163 by omega)) (fun i h1 h2 k => ⟨rfl, gA_ne (by omega)⟩) ?_
  refine c_put (kf := 3) dX7_init_43 fX7_28 rfl rfl rfl rfl rfl (by omega) (by omega) (by omega) ?_
  refine c_ret dX7_init_46 rfl (by show m.2.2.2 + _ = 151 + 1 + 15; omega) (fun m' e => ⟨rfl, e⟩) (fun i h1 h2 k => ⟨rfl, gA_all (fun k => ?_) i k⟩)
  exact match k with
    | 0 => rfl
    | 1 => rfl
    | 2 => rfl
    | 3 => rfl
    | q + 4 => rfl
theorem n_X6 {m : zM} (hm : m.2.2.2 = 167) : Cl yX6_init kX6_init [.ref 167] (z_new m) (fun r m' => r = none ∧ m' = mk m I0 R0 2) := by
  refine cl_c (F0 := I0) hm (fun k => rfl) rfl (by decide) (by decide) (Nat.le_of_ble_eq_true rfl) rfl ?_
  refine w_aload_n dX6_init_0 rfl ?_
  refine w_objInit dX6_init_1 lX6_3 o_inst o_code (Nat.le_of_ble_eq_true rfl) (Nat.le_of_ble_eq_true rfl) ?_
  refine w_aload_n dX6_init_4 rfl ?_
  refine w_bipush (v := iI 40) dX6_init_5 (by decide) ?_
  refine c_arr 168 (by omega) dX6_init_7 rfl (Or.inl rfl) a_int rfl (by decide) (N := 40) (by decide) (by decide) (by show 168 + 1 ≤ 167 + 1 + 1; omega) (by omega) (fun k => rfl) (fun k => (gA_ne (by omega)).trans (rfl)) ?_
  refine c_put (kf := 0) dX6_init_9 fX6_9 rfl rfl rfl rfl rfl (by omega) (by omega) (by omega) ?_
  refine c_ret dX6_init_12 rfl (by show m.2.2.2 + _ = 167 + 1 + 1; omega) (fun m' e => ⟨rfl, e⟩) (fun i h1 h2 k => ⟨rfl, gA_all (fun k => ?_) i k⟩)
  exact match k with
    | 0 => rfl
    | 1 => rfl
    | q + 2 => rfl
theorem n_X2 {m : zM} (hm : m.2.2.2 = 169) : Cl yX2_init kX2_init [.ref 169] (z_new m) (fun r m' => r = none ∧ m' = mk m I0 R0 2) := by
  refine cl_c (F0 := I0) hm (fun k => rfl) rfl (by decide) (by decide) (Nat.le_of_ble_eq_true rfl) rfl ?_
  refine w_aload_n dX2_init_0 rfl ?_
  refine w_objInit dX2_init_1 lX2_3 o_inst o_code (Nat.le_of_ble_eq_true rfl) (Nat.le_of_ble_eq_true rfl) ?_
  refine w_aload_n dX2_init_4 rfl ?_
  refine w_sipush (v := iI 200) dX2_init_5 (by decide) ?_
  refine c_arr 170 (by omega) dX2_init_8 rfl (Or.inl rfl) a_int rfl (by decide) (N := 200) (by decide) (by decide) (by show 170 + 1 ≤ 169 + 1 + 1; omega) (by omega) (fun k => rfl) (fun k => (gA_ne (by omega)).trans (rfl)) ?_
  refine c_put (kf := 0) dX2_init_10 fX2_9 rfl rfl rfl rfl rfl (by omega) (by omega) (by omega) ?_
  refine c_ret dX2_init_13 rfl (by show m.2.2.2 + _ = 169 + 1 + 1; omega) (fun m' e => ⟨rfl, e⟩) (fun i h1 h2 k => ⟨rfl, gA_all (fun k => ?_) i k⟩)
  exact match k with
    | 0 => rfl
    | 1 => rfl
    | q + 2 => rfl
theorem n_X12 {m : zM} (hm : m.2.2.2 = 171) : Cl yX12_init kX12_init [.ref 171] (z_new m) (fun r m' => r = none ∧ m' = mk m I0 R0 19) := by
  refine cl_c (F0 := I0) hm (fun k => rfl) rfl (by decide) (by decide) (Nat.le_of_ble_eq_true rfl) rfl ?_
  refine w_aload_n dX12_init_0 rfl ?_
  refine w_objInit dX12_init_1 lX12_1 o_inst o_code (Nat.le_of_ble_eq_true rfl) (Nat.le_of_ble_eq_true rfl) ?_
  refine w_aload_n dX12_init_4 rfl ?_
  refine w_sipush (v := iI 200) dX12_init_5 (by decide) ?_
  refine c_arr 172 (by omega) dX12_init_8 rfl (Or.inl rfl) a_int rfl (by decide) (N := 200) (by decide) (by decide) (by show 172 + 1 ≤ 171 + 1 + 18; omega) (by omega) (fun k => rfl) (fun k => (gA_ne (by omega)).trans (rfl)) ?_
  refine c_put (kf := 0) dX12_init_10 fX12_7 rfl rfl rfl rfl rfl (by omega) (by omega) (by omega) ?_
  refine w_aload_n dX12_init_13 rfl ?_
  refine w_bipush (v := iI 10) dX12_init_14 (by decide) ?_
  refine c_arr 173 (by omega) dX12_init_16 rfl (Or.inr (Or.inl rfl)) a_boolean rfl (by decide) (N := 10) (by decide) (by decide) (by show 173 + 1 ≤ 171 + 1 + 18; omega) (by omega) (fun k => rfl) (fun k => (gA_ne (by omega)).trans (rfl)) ?_
  refine c_put (kf := 2) dX12_init_18 fX12_13 rfl rfl rfl rfl rfl (by omega) (by omega) (by omega) ?_
  refine w_aload_n dX12_init_21 rfl ?_
  refine w_sipush (v := iI 500) dX12_init_22 (by decide) ?_
  refine c_arr 174 (by omega) dX12_init_25 rfl (Or.inl rfl) a_int rfl (by decide) (N := 500) (by decide) (by decide) (by show 174 + 1 ≤ 171 + 1 + 18; omega) (by omega) (fun k => rfl) (fun k => (gA_ne (by omega)).trans (rfl)) ?_
  refine c_put (kf := 3) dX12_init_27 fX12_17 rfl rfl rfl rfl rfl (by omega) (by omega) (by omega) ?_
  refine w_aload_n dX12_init_30 rfl ?_
  refine w_bipush (v := iI 50) dX12_init_31 (by decide) ?_
  refine c_arr 175 (by omega) dX12_init_33 rfl (Or.inl rfl) a_int rfl (by decide) (N := 50) (by decide) (by decide) (by show 175 + 1 ≤ 171 + 1 + 18; omega) (by omega) (fun k => rfl) (fun k => (gA_ne (by omega)).trans (rfl)) ?_
  refine c_put (kf := 4) dX12_init_35 fX12_20 rfl rfl rfl rfl rfl (by omega) (by omega) (by omega) ?_
  refine w_aload_n dX12_init_38 rfl ?_
  refine w_bipush (v := iI 100) dX12_init_39 (by decide) ?_
  refine c_arr 176 (by omega) dX12_init_41 rfl (Or.inl rfl) a_int rfl (by decide) (N := 100) (by decide) (by decide) (by show 176 + 1 ≤ 171 + 1 + 18; omega) (by omega) (fun k => rfl) (fun k => (gA_ne (by omega)).trans (rfl)) ?_
  refine c_put (kf := 5) dX12_init_43 fX12_23 rfl rfl rfl rfl rfl (by omega) (by omega) (by omega) ?_
  refine w_aload_n dX12_init_46 rfl ?_
  refine w_bipush (v := iI 10) dX12_init_47 (by decide) ?_
  refine c_arr 177 (by omega) dX12_init_49 rfl (Or.inr (Or.inl rfl)) a_boolean rfl (by decide) (N := 10) (by decide) (by decide) (by show 177 + 1 ≤ 171 + 1 + 18; omega) (by omega) (fun k => rfl) (fun k => (gA_ne (by omega)).trans (rfl)) ?_
  refine c_put (kf := 6) dX12_init_51 fX12_26 rfl rfl rfl rfl rfl (by omega) (by omega) (by omega) ?_
  refine w_aload_n dX12_init_54 rfl ?_
  refine w_bipush (v := iI 10) dX12_init_55 (by decide) ?_
  refine c_arr 178 (by omega) dX12_init_57 rfl (Or.inl rfl) a_int rfl (by decide) (N := 10) (by decide) (by decide) (by show 178 + 1 ≤ 171 + 1 + 18; omega) (by omega) (fun k => rfl) (fun k => (gA_ne (by omega)).trans (rfl)) ?_
  refine c_put (kf := 7) dX12_init_59 fX12_29 rfl rfl rfl rfl rfl (by omega) (by omega) (by omega) ?_
  refine w_aload_n dX12_init_62 rfl ?_
  refine w_bipush (v := iI 10) dX12_init_63 (by decide) ?_
  refine c_arr 179 (by omega) dX12_init_65 rfl (Or.inl rfl) a_int rfl (by decide) (N := 10) (by decide) (by decide) (by show 179 + 1 ≤ 171 + 1 + 18; omega) (by omega) (fun k => rfl) (fun k => (gA_ne (by omega)).trans (rfl)) ?_
  refine c_put (kf := 8) dX12_init_67 fX12_32 rfl rfl rfl rfl rfl (by omega) (by omega) (by omega) ?_
  refine w_aload_n dX12_init_70 rfl ?_
  refine w_bipush (v := iI 10) dX12_init_71 (by decide) ?_
  refine c_arr 180 (by omega) dX12_init_73 rfl (Or.inl rfl) a_int rfl (by decide) (N := 10) (by decide) (by decide) (by show 180 + 1 ≤ 171 + 1 + 18; omega) (by omega) (fun k => rfl) (fun k => (gA_ne (by omega)).trans (rfl)) ?_
  refine c_put (kf := 9) dX12_init_75 fX12_35 rfl rfl rfl rfl rfl (by omega) (by omega) (by omega) ?_
  refine w_aload_n dX12_init_78 rfl ?_
  refine w_bipush (v := iI 60) dX12_init_79 (by decide) ?_
  refine c_arr 181 (by omega) dX12_init_81 rfl (Or.inl rfl) a_int rfl (by decide) (N := 60) (by decide) (by decide) (by show 181 + 1 ≤ 171 + 1 + 18; omega) (by omega) (fun k => rfl) (fun k => (gA_ne (by omega)).trans (rfl)) ?_
  refine c_put (kf := 10) dX12_init_83 fX12_38 rfl rfl rfl rfl rfl (by omega) (by omega) (by omega) ?_
  refine w_aload_n dX12_init_86 rfl ?_
  refine w_bipush (v := iI 50) dX12_init_87 (by decide) ?_
  refine c_arr 182 (by omega) dX12_init_89 rfl (Or.inl rfl) a_int rfl (by decide) (N := 50) (by decide) (by decide) (by show 182 + 1 ≤ 171 + 1 + 18; omega) (by omega) (fun k => rfl) (fun k => (gA_ne (by omega)).trans (rfl)) ?_
  refine c_put (kf := 11) dX12_init_91 fX12_41 rfl rfl rfl rfl rfl (by omega) (by omega) (by omega) ?_
  refine w_aload_n dX12_init_94 rfl ?_
  refine w_bipush (v := iI 12) dX12_init_95 (by decide) ?_
  refine c_arr 183 (by omega) dX12_init_97 rfl (Or.inl rfl) a_int rfl (by decide) (N := 12) (by decide) (by decide) (by show 183 + 1 ≤ 171 + 1 + 18; omega) (by omega) (fun k => rfl) (fun k => (gA_ne (by omega)).trans (rfl)) ?_
  refine c_put (kf := 13) dX12_init_99 fX12_44 rfl rfl rfl rfl rfl (by omega) (by omega) (by omega) ?_
  refine w_aload_n dX12_init_102 rfl ?_
  refine w_bipush (v := iI 120) dX12_init_103 (by decide) ?_
  refine c_arr 184 (by omega) dX12_init_105 rfl (Or.inl rfl) a_int rfl (by decide) (N := 120) (by decide) (by decide) (by show 184 + 1 ≤ 171 + 1 + 18; omega) (by omega) (fun k => rfl) (fun k => (gA_ne (by omega)).trans (rfl)) ?_
  refine c_put (kf := 14) dX12_init_107 fX12_47 rfl rfl rfl rfl rfl (by omega) (by omega) (by omega) ?_
  refine w_aload_n dX12_init_110 rfl ?_
  refine w_sipush (v := iI 512) dX12_init_111 (by decide) ?_
  refine c_arr 185 (by omega) dX12_init_114 rfl (Or.inl rfl) a_int rfl (by decide) (N := 512) (by decide) (by decide) (by show 185 + 1 ≤ 171 + 1 + 18; omega) (by omega) (fun k => rfl) (fun k => (gA_ne (by omega)).trans (rfl)) ?_
  refine c_put (kf := 15) dX12_init_116 fX12_50 rfl rfl rfl rfl rfl (by omega) (by omega) (by omega) ?_
  refine w_aload_n dX12_init_119 rfl ?_
  refine w_sipush (v := iI 512) dX12_init_120 (by decide) ?_
  refine c_arr 186 (by omega) dX12_init_123 rfl (Or.inl rfl) a_int rfl (by decide) (N := 512) (by decide) (by decide) (by show 186 + 1 ≤ 171 + 1 + 18; omega) (by omega) (fun k => rfl) (fun k => (gA_ne (by omega)).trans (rfl)) ?_
  refine c_put (kf := 16) dX12_init_125 fX12_53 rfl rfl rfl rfl rfl (by omega) (by omega) (by omega) ?_
  refine w_aload_n dX12_init_128 rfl ?_
  refine w_sipush (v := iI 512) dX12_init_129 (by decide) ?_
  refine c_arr 187 (by omega) dX12_init_132 rfl (Or.inl rfl) a_int rfl (by decide) (N := 512) (by decide) (by decide) (by show 187 + 1 ≤ 171 + 1 + 18; omega) (by omega) (fun k => rfl) (fun k => (gA_ne (by omega)).trans (rfl)) ?_
  refine c_put (kf := 24) dX12_init_134 fX12_56 rfl rfl rfl rfl rfl (by omega) (by omega) (by omega) ?_
  refine w_aload_n dX12_init_137 rfl ?_
  refine w_bipush (v := iI 40) dX12_init_138 (by decide) ?_
  refine c_arr 188 (by omega) dX12_init_140 rfl (Or.inl rfl) a_int rfl (by decide) (N := 40) (by decide) (by decide) (by show 188 + 1 ≤ 171 + 1 + 18; omega) (by omega) (fun k => rfl) (fun k => (gA_ne (by omega)).trans (rfl)) ?_
  refine c_put (kf := 26) dX12_init_142 fX12_59 rfl rfl rfl rfl rfl (by omega) (by omega) (by omega) ?_
  refine w_aload_n dX12_init_145 rfl ?_
  refine w_sipush (v := iI 200) dX12_init_146 (by decide) ?_
  refine c_arr 189 (by omega) dX12_init_149 rfl (Or.inl rfl) a_int rfl (by decide) (N := 200) (by decide) (by decide) (by show 189 + 1 ≤ 171 + 1 + 18; omega) (by omega) (fun k => rfl) (fun k => (gA_ne (by omega)).trans (rfl)) ?_
  refine c_put (kf := 29) dX12_init_151 fX12_62 rfl rfl rfl rfl rfl (by omega) (by omega) (by omega) ?_
  refine c_ret dX12_init_154 rfl (by show m.2.2.2 + _ = 171 + 1 + 18; omega) (fun m' e => ⟨rfl, e⟩) (fun i h1 h2 k => ⟨rfl, gA_all (fun k => ?_) i k⟩)
  exact match k with
    | 0 => rfl
    | 1 => rfl
    | 2 => rfl
    | 3 => rfl
    | 4 => rfl
    | 5 => rfl
    | 6 => rfl
    | 7 => rfl
    | 8 => rfl
    | 9 => rfl
    | 10 => rfl
    | 11 => rfl
    | 12 => rfl
    | 13 => rfl
    | 14 => rfl
    | 15 => rfl
    | 16 => rfl
    | 17 => rfl
    | 18 => rfl
    | 19 => rfl
    | 20 => rfl
    | 21 => rfl
    | 22 => rfl
    | 23 => rfl
    | 24 => rfl
    | 25 => rfl
    | 26 => rfl
    | 27 => rfl
    | 28 => rfl
    | 29 => rfl
    | q + 30 => rfl
