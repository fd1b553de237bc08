/-! the sheet: all blank -/
def S8 (p q : Nat) : Nat → Nat → Int32 := fun i k => if i = 143 then (if k < p then iI 95 else 0) else if i = 144 then (if k < q then iI (-1) else 0) else I0 i k
theorem s8_0 {p q i k : Nat} (h : ¬ i = 143 ∧ ¬ i = 144) : S8 p q i k = I0 i k := by
  unfold S8
  rw [if_neg h.1, if_neg h.2]
theorem s8_1 {p q : Nat} : z_u (S8 p q) 143 p (iI 95) = S8 (p + 1) q := by
  funext i k
  unfold z_u S8
  by_cases e : i = 143
  · subst e
    rw [if_pos rfl, if_pos rfl]
    by_cases g : k = p
    · rw [if_pos ⟨rfl, g⟩, if_pos (by omega)]
    · rw [if_neg (fun u => g u.2)]
      by_cases g2 : k < p
      · rw [if_pos g2, if_pos (by omega)]
      · rw [if_neg g2, if_neg (by omega)]
  · rw [if_neg (fun u => e u.1), if_neg e, if_neg e]
theorem s8_2 {p q : Nat} : z_u (S8 p q) 144 q (iI (-1)) = S8 p (q + 1) := by
  funext i k
  unfold z_u S8
  by_cases e : i = 144
  · subst e
    rw [if_neg (show ¬ 144 = 143 by decide), if_neg (show ¬ 144 = 143 by decide), if_pos rfl, if_pos rfl]
    by_cases g : k = q
    · rw [if_pos ⟨rfl, g⟩, if_pos (by omega)]
    · rw [if_neg (fun u => g u.2)]
      by_cases g2 : k < q
      · rw [if_pos g2, if_pos (by omega)]
      · rw [if_neg g2, if_neg (by omega)]
  · rw [if_neg (fun u => e u.1), if_neg e, if_neg e]
theorem s8_9 {i k : Nat} : S8 512 512 i k = I0 i k := by
  unfold S8 I0
  by_cases e : i = 143
  · rw [if_pos e, if_pos e]
  · rw [if_neg e, if_neg e]
    by_cases e2 : i = 144
    · rw [if_pos e2, if_pos e2]
    · rw [if_neg e2, if_neg e2]
abbrev f8 : Nat → Option Nat := z_f (z_f (z_f (z_f (fun _ => none) 0 143) 1 144) 2 145) 3 148
theorem n_X8_loop {m : zM} (hm : m.2.2.2 = 142) {Q : Option Value → zM → Prop} (hQ : ∀ m', m' = mk m I0 R0 9 → Q none m') : ∀ (n : Nat) (j : Nat), 512 - j < n → j ≤ 512 → Wp (zk_E kX8_init yX8_init.cls (142 + 1) true) Q 50 [(0, .ref 142), (1, .int (iI (j : Int)))] [] (mk m (S8 j j) (gA 142 f8) 9) := by
  intro n
  induction n with
  | zero => intro j h; exact absurd h (Nat.not_lt_zero _)
  | succ n ih =>
    intro j hn hj
    refine w_iload_n dX8_init_50 rfl ?_
    refine w_sipush (v := iI 512) dX8_init_51 (by decide) ?_
    refine w_icmp_ge 78 dX8_init_54 (by decide) (fun g => ?_) (fun g => ?_)
    · have g2 : (512 : Int) ≤ j := (iI_le (by omega) (by omega)).mp g
      have e : j = 512 := by omega
      subst e
      refine c_ret dX8_init_78 rfl (by show m.2.2.2 + 9 = 142 + 1 + 8; omega) hQ (fun i h1 h2 k => ⟨s8_9, gA_all (fun k => ?_) i k⟩)
      exact match k with
        | 0 => rfl
        | 1 => rfl
        | 2 => rfl
        | 3 => rfl
        | 4 => rfl
        | q + 5 => rfl
    · have g2 : ¬ (512 : Int) ≤ j := fun u => g ((iI_le (by omega) (by omega)).mpr u)
      have hj2 : j < 512 := by omega
      have hin : vp_in (iI (j : Int)) 512 := iI_in (by omega) (by omega) (by omega)
      have hcl : (iI (j : Int)).toNatClampNeg = j := by rw [iI_clamp (by omega) (by omega)]; exact Int.toNat_natCast j
      refine w_aload_n dX8_init_57 rfl ?_
      refine w_getR (j := 143) dX8_init_58 fX8_9 (show 142 < m.2.2.2 + 9 by omega) rfl rfl (by show (if m.2.2.2 ≤ 142 ∧ 142 < m.2.2.2 + 9 then gA 142 f8 142 0 else _) = _; rw [if_pos (by omega), gA_eq]; rfl) ?_
      refine w_iload_n dX8_init_61 rfl ?_
      refine w_bipush (v := iI 95) dX8_init_62 (by decide) ?_
      refine w_iast (n := 512) dX8_init_64 (show 143 < m.2.2.2 + 9 by omega) rfl hin ?_
      rw [hcl, mk_uI (by omega) (by omega), s8_1]
      refine w_aload_n dX8_init_65 rfl ?_
      refine w_getR (j := 144) dX8_init_66 fX8_15 (show 142 < m.2.2.2 + 9 by omega) rfl rfl (by show (if m.2.2.2 ≤ 142 ∧ 142 < m.2.2.2 + 9 then gA 142 f8 142 1 else _) = _; rw [if_pos (by omega), gA_eq]; rfl) ?_
      refine w_iload_n dX8_init_69 rfl ?_
      refine w_iconst (v := iI (-1)) dX8_init_70 rfl ?_
      refine w_iast (n := 512) dX8_init_71 (show 144 < m.2.2.2 + 9 by omega) rfl hin ?_
      rw [hcl, mk_uI (by omega) (by omega), s8_2]
      refine w_iinc (v := iI ((j + 1 : Nat) : Int)) dX8_init_72 rfl (iI_add (j : Int) 1) rfl rfl ?_
      refine w_goto 50 dX8_init_75 (by decide) ?_
      exact ih (j + 1) (by omega) (by omega)
theorem n_X8 {m : zM} (hm : m.2.2.2 = 142) : Cl yX8_init kX8_init [.ref 142] (z_new m) (fun r m' => r = none ∧ m' = mk m I0 R0 9) := by
  refine cl_c (F0 := S8 0 0) hm (fun k => rfl) rfl (by decide) (by decide) (Nat.le_of_ble_eq_true rfl) rfl ?_
  refine w_aload_n dX8_init_0 rfl ?_
  refine w_objInit dX8_init_1 lX8_3 o_inst o_code (Nat.le_of_ble_eq_true rfl) (Nat.le_of_ble_eq_true rfl) ?_
  refine w_aload_n dX8_init_4 rfl ?_
  refine w_sipush (v := iI 512) dX8_init_5 (by decide) ?_
  refine c_arr 143 (by omega) dX8_init_8 rfl (Or.inl rfl) a_int rfl (by decide) (N := 512) (by decide) (by decide) (by show 143 + 1 ≤ 142 + 1 + 8; omega) (by omega) (fun k => rfl) (fun k => (gA_ne (by omega)).trans (rfl)) ?_
  refine c_put (kf := 0) dX8_init_10 fX8_9 rfl rfl rfl rfl rfl (by omega) (by omega) (by omega) ?_
  refine w_aload_n dX8_init_13 rfl ?_
  refine w_sipush (v := iI 512) dX8_init_14 (by decide) ?_
  refine c_arr 144 (by omega) dX8_init_17 rfl (Or.inl rfl) a_int rfl (by decide) (N := 512) (by decide) (by decide) (by show 144 + 1 ≤ 142 + 1 + 8; omega) (by omega) (fun k => rfl) (fun k => (gA_ne (by omega)).trans (rfl)) ?_
  refine c_put (kf := 1) dX8_init_19 fX8_15 rfl rfl rfl rfl rfl (by omega) (by omega) (by omega) ?_
  refine w_aload_n dX8_init_22 rfl ?_
  refine c_new (ci := 3) 145 (by omega) dX8_init_23 (by decide) nX8_18 i_X3 ii_X3 rfl (by show 145 + 1 ≤ 142 + 1 + 8; omega) (by omega) ?_
  refine w_dup dX8_init_26 rfl ?_
  refine w_bipush (v := iI 16) dX8_init_27 (by decide) ?_
  refine c_ini (e := 3) (as := [.int (iI 16)]) (by omega) dX8_init_29 lX8_20 vX3_init (Nat.le_of_ble_eq_true rfl) rfl rfl (Nat.le_of_ble_eq_true rfl) (by show 145 + 1 + 2 ≤ 142 + 1 + 8; omega) (n_X3 (N := 16) (show m.2.2.2 + _ = 145 by omega) (by decide) rfl rfl rfl (by decide) (by decide) (by decide) (fun k => ⟨rfl, rfl, rfl⟩) r0_145 (fun k => ⟨rfl, rfl⟩)) (fun i h1 h2 k => ⟨s8_0 (by omega), gA_ne (by omega)⟩) ?_
  refine c_put (kf := 2) dX8_init_32 fX8_23 rfl rfl rfl rfl rfl (by omega) (by omega) (by omega) ?_
  refine w_aload_n dX8_init_35 rfl ?_
  refine c_new (ci := 3) 148 (by omega) dX8_init_36 (by decide) nX8_18 i_X3 ii_X3 rfl (by show 148 + 1 ≤ 142 + 1 + 8; omega) (by omega) ?_
  refine w_dup dX8_init_39 rfl ?_
  refine w_bipush (v := iI 32) dX8_init_40 (by decide) ?_
  refine c_ini (e := 3) (as := [.int (iI 32)]) (by omega) dX8_init_42 lX8_20 vX3_init (Nat.le_of_ble_eq_true rfl) rfl rfl (Nat.le_of_ble_eq_true rfl) (by show 148 + 1 + 2 ≤ 142 + 1 + 8; omega) (n_X3 (N := 32) (show m.2.2.2 + _ = 148 by omega) (by decide) rfl rfl rfl (by decide) (by decide) (by decide) (fun k => ⟨rfl, rfl, rfl⟩) r0_148 (fun k => ⟨rfl, rfl⟩)) (fun i h1 h2 k => ⟨s8_0 (by omega), gA_ne (by omega)⟩) ?_
  refine c_put (kf := 3) dX8_init_45 fX8_27 rfl rfl rfl rfl rfl (by omega) (by omega) (by omega) ?_
  refine w_iconst (v := iI 0) dX8_init_48 rfl ?_
  refine w_istore_n dX8_init_49 rfl rfl ?_
  exact n_X8_loop hm (fun m' e => ⟨rfl, e⟩) 513 0 (by decide) (by decide)
/-! the whole object -/
def G1 (f : Nat → Option Nat) (j : Nat) : Nat → Nat → Option Nat := fun i k => if i = 0 then f k else if i = 3 then (if k < j then some (bI k 0) else none) else R0 i k
theorem g1_ne {f : Nat → Option Nat} {j i k : Nat} (h : ¬ i = 0 ∧ ¬ i = 3) : G1 f j i k = R0 i k := by
  unfold G1
  rw [if_neg h.1, if_neg h.2]
theorem g1_u {f : Nat → Option Nat} {j : Nat} : z_u (G1 f j) 3 j (some (bI j 0)) = G1 f (j + 1) := by
  funext i k
  unfold z_u G1
  by_cases e : i = 3
  · subst e
    rw [if_neg (show ¬ 3 = 0 by decide), if_neg (show ¬ 3 = 0 by decide), if_pos rfl, if_pos rfl]
    by_cases g : k = j
    · rw [if_pos ⟨rfl, g⟩, if_pos (by omega), g]
    · rw [if_neg (fun u => g u.2)]
      by_cases g2 : k < j
      · rw [if_pos g2, if_pos (by omega)]
      · rw [if_neg g2, if_neg (by omega)]
  · rw [if_neg (fun u => e u.1), if_neg e, if_neg e]
theorem g1_f {f : Nat → Option Nat} {j k q : Nat} : z_u (G1 f j) 0 k (some q) = G1 (z_f f k q) j := by
  funext i p
  unfold z_u G1 z_f
  by_cases e : i = 0
  · by_cases e2 : p = k
    · rw [if_pos ⟨e, e2⟩, if_pos e, if_pos e2]
    · rw [if_neg (fun u => e2 u.2), if_pos e, if_pos e, if_neg e2]
  · rw [if_neg (fun u => e u.1), if_neg e, if_neg e]
theorem g1_9 {f : Nat → Option Nat} : G1 f 10 = gA 0 f := by
  funext i k
  unfold G1 gA
  by_cases e : i = 0
  · rw [if_pos e, if_pos e]
  · rw [if_neg e, if_neg e]
    by_cases e3 : i = 3
    · subst e3
      rw [if_pos rfl]
      show _ = if k < 10 then some (4 + 13 * k) else none
      rfl
    · rw [if_neg e3]
abbrev f1 : Nat → Option Nat := z_f (z_f (fun _ => none) 0 1) 1 3
abbrev E11 : zE := zk_E kX11_init yX11_init.cls (0 + 1) true
theorem n_X11_loop {m : zM} (hm : m.2.2.2 = 0) {Q : Option Value → zM → Prop} (hQ : Wp E11 Q 52 [(0, .ref 0), (1, .int (iI 10))] [] (mk m I0 (gA 0 f1) 134)) : ∀ (n : Nat) (j : Nat), 10 - j < n → j ≤ 10 → Wp E11 Q 26 [(0, .ref 0), (1, .int (iI (j : Int)))] [] (mk m I0 (G1 f1 j) (4 + 13 * j)) := by
  intro n
  induction n with
  | zero => intro j h; exact absurd h (Nat.not_lt_zero _)
  | succ n ih =>
    intro j hn hj
    refine w_iload_n dX11_init_26 rfl ?_
    refine w_bipush (v := iI 10) dX11_init_27 (by decide) ?_
    refine w_icmp_ge 52 dX11_init_29 (by decide) (fun g => ?_) (fun g => ?_)
    · have g2 : (10 : Int) ≤ j := (iI_le (by omega) (by omega)).mp g
      have e : j = 10 := by omega
      subst e
      rw [g1_9]
      exact hQ
    · have g2 : ¬ (10 : Int) ≤ j := fun u => g ((iI_le (by omega) (by omega)).mpr u)
      have hj2 : j < 10 := by omega
      have hin : vp_in (iI (j : Int)) 10 := iI_in (by omega) (by omega) (by omega)
      have hcl : (iI (j : Int)).toNatClampNeg = j := by rw [iI_clamp (by omega) (by omega)]; exact Int.toNat_natCast j
      have hb : bI j 0 = 4 + 13 * j := rfl
      refine w_aload_n dX11_init_32 rfl ?_
      refine w_getR (j := 3) dX11_init_33 fX11_18 (show 0 < m.2.2.2 + (4 + 13 * j) by omega) rfl rfl (by show (if m.2.2.2 ≤ 0 ∧ 0 < m.2.2.2 + (4 + 13 * j) then G1 f1 j 0 1 else _) = _; rw [if_pos (by omega)]; rfl) ?_
      refine w_iload_n dX11_init_36 rfl ?_
      refine c_new (ci := 0) (bI j 0) (by omega) dX11_init_37 (by decide) nX11_16 i_X0 ii_X0 (sh_b hj2 (by decide)) (by show bI j 0 + 1 ≤ 0 + 1 + 170; omega) (by omega) ?_
      refine w_dup dX11_init_40 rfl ?_
      refine w_iload_n dX11_init_41 rfl ?_
      refine c_ini (e := 13) (as := [.int (iI (j : Int))]) (by omega) dX11_init_42 lX11_22 vX0_init (Nat.le_of_ble_eq_true rfl) rfl rfl (Nat.le_of_ble_eq_true rfl) (by show bI j 0 + 1 + 12 ≤ 0 + 1 + 170; omega) (n_X0 hj2 (show m.2.2.2 + (4 + 13 * j) = bI j 0 by omega)) (fun i h1 h2 k => ⟨rfl, g1_ne (by omega)⟩) ?_
      refine w_aast (n := 10) dX11_init_45 (show 3 < m.2.2.2 + (4 + 13 * j + 13) by omega) rfl hin (show bI j 0 < m.2.2.2 + (4 + 13 * j + 13) by omega) (sh_b hj2 (by decide)) ?_
      rw [hcl, mk_uR (by omega) (by omega), g1_u]
      refine w_iinc (v := iI ((j + 1 : Nat) : Int)) dX11_init_46 rfl (iI_add (j : Int) 1) rfl rfl ?_
      refine w_goto 26 dX11_init_49 (by decide) ?_
      exact ih (j + 1) (by omega) (by omega)
theorem n_X11 {m : zM} (hm : m.2.2.2 = 0) : Cl yX11_init kX11_init [.ref 0] (z_new m) (fun r m' => r = none ∧ m' = mk m I0 R0 171) := by
  refine cl_c (F0 := I0) hm (fun k => rfl) rfl (by decide) (by decide) (Nat.le_of_ble_eq_true rfl) rfl ?_
  refine w_aload_n dX11_init_0 rfl ?_
  refine w_objInit dX11_init_1 lX11_3 o_inst o_code (Nat.le_of_ble_eq_true rfl) (Nat.le_of_ble_eq_true rfl) ?_
  refine w_aload_n dX11_init_4 rfl ?_
  refine c_new (ci := 9) 1 (by omega) dX11_init_5 (by decide) nX11_9 i_X9 ii_X9 rfl (by show 1 + 1 ≤ 0 + 1 + 170; omega) (by omega) ?_
  refine w_dup dX11_init_8 rfl ?_
  refine c_inN (e := 2) (as := []) (by omega) dX11_init_9 lX11_11 vX9_init (Nat.le_of_ble_eq_true rfl) rfl rfl (Nat.le_of_ble_eq_true rfl) (by show 1 + 1 + 1 ≤ 0 + 1 + 170; omega) (n_X9 (show m.2.2.2 + _ = 1 by omega)) (fun i h1 h2 k => ⟨rfl, gA_ne (by omega)⟩) ?_
  refine c_put (kf := 0) dX11_init_12 fX11_12 rfl rfl rfl rfl rfl (by omega) (by omega) (by omega) ?_
  have eG : mk m I0 (gA 0 (z_f (fun _ => none) 0 1)) (1 + 2) = mk m I0 (G1 (z_f (fun _ => none) 0 1) 0) (1 + 2) := mk_cg (fun i h1 h2 k => ⟨rfl, by
    unfold gA G1
    by_cases e : i = 0
    · rw [if_pos e, if_pos e]
    · rw [if_neg e, if_neg e, if_neg (by omega)]⟩)
  rw [eG]
  refine w_aload_n dX11_init_15 rfl ?_
  refine w_bipush (v := iI 10) dX11_init_16 (by decide) ?_
  refine w_anew (N := 10) dX11_init_18 nX11_16 (show zm_sh (m.2.2.2 + _) = _ by rw [hm]; rfl) (by decide) (by decide) (by decide) (show m.2.2.2 + _ + 1 ≤ 0 + 1 + 170 by omega) (show m.2.2.2 + _ < 190 by omega) ?_
  rw [mk_new (id := 3) (by omega) (fun k => rfl) (fun k => rfl)]
  show Wp E11 _ 21 [(0, .ref 0)] [.ref (m.2.2.2 + (1 + 2)), .ref 0] _
  rw [show m.2.2.2 + (1 + 2) = 3 by omega]
  refine w_putFR (kf := 1) dX11_init_21 fX11_18 (show 0 < m.2.2.2 + _ by omega) rfl rfl rfl rfl rfl (show 3 < m.2.2.2 + _ by omega) ?_
  rw [mk_uR (by omega) (by omega), g1_f]
  refine w_iconst (v := iI 0) dX11_init_24 rfl ?_
  refine w_istore_n dX11_init_25 rfl rfl ?_
  refine n_X11_loop hm ?_ 11 0 (by decide) (by decide)
  refine w_aload_n dX11_init_52 rfl ?_
  refine c_new (ci := 10) 134 (by omega) dX11_init_53 (by decide) nX11_25 i_X10 ii_X10 rfl (by show 134 + 1 ≤ 0 + 1 + 170; omega) (by omega) ?_
  refine w_dup dX11_init_56 rfl ?_
  refine c_inN (e := 8) (as := []) (by omega) dX11_init_57 lX11_27 vX10_init (Nat.le_of_ble_eq_true rfl) rfl rfl (Nat.le_of_ble_eq_true rfl) (by show 134 + 1 + 7 ≤ 0 + 1 + 170; omega) (n_X10 (show m.2.2.2 + _ = 134 by omega)) (fun i h1 h2 k => ⟨rfl, gA_ne (by omega)⟩) ?_
  refine c_put (kf := 2) dX11_init_60 fX11_28 rfl rfl rfl rfl rfl (by omega) (by omega) (by omega) ?_
  refine w_aload_n dX11_init_63 rfl ?_
  refine c_new (ci := 8) 142 (by omega) dX11_init_64 (by decide) nX11_32 i_X8 ii_X8 rfl (by show 142 + 1 ≤ 0 + 1 + 170; omega) (by omega) ?_
  refine w_dup dX11_init_67 rfl ?_
  refine c_ini (e := 9) (as := []) (by omega) dX11_init_68 lX11_34 vX8_init (Nat.le_of_ble_eq_true rfl) rfl rfl (Nat.le_of_ble_eq_true rfl) (by show 142 + 1 + 8 ≤ 0 + 1 + 170; omega) (n_X8 (show m.2.2.2 + _ = 142 by omega)) (fun i h1 h2 k => ⟨rfl, gA_ne (by omega)⟩) ?_
  refine c_put (kf := 3) dX11_init_71 fX11_35 rfl rfl rfl rfl rfl (by omega) (by omega) (by omega) ?_
  refine w_aload_n dX11_init_74 rfl ?_
  refine c_new (ci := 7) 151 (by omega) dX11_init_75 (by decide) nX11_39 i_X7 ii_X7 rfl (by show 151 + 1 ≤ 0 + 1 + 170; omega) (by omega) ?_
  refine w_dup dX11_init_78 rfl ?_
  refine c_inN (e := 16) (as := []) (by omega) dX11_init_79 lX11_41 vX7_init (Nat.le_of_ble_eq_true rfl) rfl rfl (Nat.le_of_ble_eq_true rfl) (by show 151 + 1 + 15 ≤ 0 + 1 + 170; omega) (n_X7 (show m.2.2.2 + _ = 151 by omega)) (fun i h1 h2 k => ⟨rfl, gA_ne (by omega)⟩) ?_
  refine c_put (kf := 4) dX11_init_82 fX11_42 rfl rfl rfl rfl rfl (by omega) (by omega) (by omega) ?_
  refine w_aload_n dX11_init_85 rfl ?_
  refine c_new (ci := 6) 167 (by omega) dX11_init_86 (by decide) nX11_46 i_X6 ii_X6 rfl (by show 167 + 1 ≤ 0 + 1 + 170; omega) (by omega) ?_
  refine w_dup dX11_init_89 rfl ?_
  refine c_inN (e := 2) (as := []) (by omega) dX11_init_90 lX11_48 vX6_init (Nat.le_of_ble_eq_true rfl) rfl rfl (Nat.le_of_ble_eq_true rfl) (by show 167 + 1 + 1 ≤ 0 + 1 + 170; omega) (n_X6 (show m.2.2.2 + _ = 167 by omega)) (fun i h1 h2 k => ⟨rfl, gA_ne (by omega)⟩) ?_
  refine c_put (kf := 5) dX11_init_93 fX11_49 rfl rfl rfl rfl rfl (by omega) (by omega) (by omega) ?_
  refine w_aload_n dX11_init_96 rfl ?_
  refine c_new (ci := 2) 169 (by omega) dX11_init_97 (by decide) nX11_53 i_X2 ii_X2 rfl (by show 169 + 1 ≤ 0 + 1 + 170; omega) (by omega) ?_
  refine w_dup dX11_init_100 rfl ?_
  refine c_inN (e := 2) (as := []) (by omega) dX11_init_101 lX11_55 vX2_init (Nat.le_of_ble_eq_true rfl) rfl rfl (Nat.le_of_ble_eq_true rfl) (by show 169 + 1 + 1 ≤ 0 + 1 + 170; omega) (n_X2 (show m.2.2.2 + _ = 169 by omega)) (fun i h1 h2 k => ⟨rfl, gA_ne (by omega)⟩) ?_
  refine c_put (kf := 6) dX11_init_104 fX11_56 rfl rfl rfl rfl rfl (by omega) (by omega) (by omega) ?_
  refine c_ret dX11_init_107 rfl (by show m.2.2.2 + _ = 0 + 1 + 170; omega) (fun m' e => ⟨rfl, e⟩) (fun i h1 h2 k => ⟨rfl, gA_all (fun k => ?_) i k⟩)
  exact match k with
    | 0 => rfl
    | 1 => rfl
    | 2 => rfl
    | 3 => rfl
    | 4 => rfl
    | 5 => rfl
    | 6 => rfl
    | q + 7 => rfl
