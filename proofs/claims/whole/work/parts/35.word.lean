/-! THE LIST: marks as booleans -/
theorem tn0 : Int.toNat 0 = 0 := rfl
theorem tn1 : Int.toNat 1 = 1 := rfl
theorem tn26 : Int.toNat 26 = 26 := rfl
def tb (x : Int64) (n : Nat) : Bool := x.toBitVec.getLsbD n
theorem tb_and (x y : Int64) (n : Nat) : tb (x &&& y) n = (tb x n && tb y n) := by
  unfold tb; rw [Int64.toBitVec_and, BitVec.getLsbD_and]
theorem tb_or (x y : Int64) (n : Nat) : tb (x ||| y) n = (tb x n || tb y n) := by
  unfold tb; rw [Int64.toBitVec_or, BitVec.getLsbD_or]
theorem tb_xor (x y : Int64) (n : Nat) : tb (x ^^^ y) n = (tb x n ^^ tb y n) := by
  unfold tb; rw [Int64.toBitVec_xor, BitVec.getLsbD_xor]
theorem tb_m1 {n : Nat} (h : n < 64) : tb (-1) n = true := by
  unfold tb
  have : ∀ k : Fin 64, (-1 : Int64).toBitVec.getLsbD k.val = true := by decide
  exact this ⟨n, h⟩
theorem tb_hi {x : Int64} {n : Nat} (h : 64 ≤ n) : tb x n = false := BitVec.getLsbD_of_ge _ _ h
theorem tb_sh63 {k : Nat} (h : k < 64) : ((iI (k : Int)).toInt64 &&& 63).toBitVec.smod 64 = BitVec.ofNat 64 k := by
  have : ∀ k : Fin 64, ((iI ((k.val : Nat) : Int)).toInt64 &&& 63).toBitVec.smod 64 = BitVec.ofNat 64 k.val := by decide +kernel
  exact this ⟨k, h⟩
theorem tb_shl (x : Int64) {k : Nat} (h : k < 64) (n : Nat) : tb (x <<< ((iI (k : Int)).toInt64 &&& 63)) n = (decide (k ≤ n ∧ n < 64) && tb x (n - k)) := by
  unfold tb
  rw [Int64.toBitVec_shiftLeft, tb_sh63 h, BitVec.shiftLeft_eq', BitVec.getLsbD_shiftLeft, BitVec.toNat_ofNat, Nat.mod_eq_of_lt (by omega)]
  by_cases h1 : n < 64
  · by_cases h2 : n < k
    · have : ¬ (k ≤ n) := by omega
      simp [h1, h2, this]
    · have : (k ≤ n ∧ n < 64) := by omega
      simp [h1, h2, this]
  · simp [h1]
theorem tb_one {k : Nat} (h : k < 64) (n : Nat) : tb ((1 : Int64) <<< ((iI (k : Int)).toInt64 &&& 63)) n = decide (n = k) := by
  rw [tb_shl _ h]
  have e : ∀ j, tb 1 j = decide (j = 0) := fun j => by
    by_cases g : j < 64
    · have : ∀ j : Fin 64, (1 : Int64).toBitVec.getLsbD j.val = decide (j.val = 0) := by decide
      exact this ⟨j, g⟩
    · rw [tb_hi (by omega), decide_eq_false (by omega)]
  rw [e]
  by_cases g : n = k
  · subst g; simp [h]
  · by_cases g2 : k ≤ n ∧ n < 64
    · have : ¬ (n - k = 0) := by omega
      simp [g, this]
    · simp [g, g2]
theorem tb_0 (n : Nat) : tb 0 n = false := by unfold tb; simp
theorem tb_ne {x : Int64} : x ≠ 0 ↔ ∃ n, n < 64 ∧ tb x n = true := by
  constructor
  · intro h
    apply Classical.byContradiction
    intro g
    apply h
    apply Int64.toBitVec_inj.mp
    apply BitVec.eq_of_getLsbD_eq
    intro i hi
    have : tb x i = false := by
      cases e : tb x i
      · rfl
      · exact absurd ⟨i, hi, e⟩ g
    show tb x i = tb 0 i
    rw [this, tb_0]
  · rintro ⟨n, _, h⟩ e
    rw [e, tb_0] at h
    exact absurd h (by decide)
theorem tb_1023 (n : Nat) : tb 1023 n = decide (n < 10) := by
  by_cases g : n < 64
  · have : ∀ j : Fin 64, (1023 : Int64).toBitVec.getLsbD j.val = decide (j.val < 10) := by decide
    exact this ⟨n, g⟩
  · rw [tb_hi (by omega), decide_eq_false (by omega)]
theorem tb_ushr (x : Int64) {k : Nat} (h : k < 64) (n : Nat) : tb ((x.toUInt64 >>> ((iI (k : Int)).toInt64.toUInt64 &&& Int64.toUInt64 63)).toInt64) n = tb x (k + n) := by
  have e : ∀ k : Fin 64, ((iI ((k.val : Nat) : Int)).toInt64.toUInt64 &&& Int64.toUInt64 63) = UInt64.ofNat k.val := by decide +kernel
  rw [e ⟨k, h⟩]
  show ((x.toUInt64 >>> UInt64.ofNat k).toBitVec).getLsbD n = x.toBitVec.getLsbD (k + n)
  rw [UInt64.toBitVec_shiftRight]
  have e2 : (UInt64.ofNat k).toBitVec % 64 = BitVec.ofNat 64 k := by
    have : ∀ k : Fin 64, (UInt64.ofNat k.val).toBitVec % 64 = BitVec.ofNat 64 k.val := by decide +kernel
    exact this ⟨k, h⟩
  rw [e2, BitVec.ushiftRight_eq', BitVec.getLsbD_ushiftRight, BitVec.toNat_ofNat, Nat.mod_eq_of_lt (by omega)]
  rfl
theorem tb_canBe (x : Int64) {k : Nat} (hk : k < 6) : ((x.toUInt64 >>> ((iI ((k : Int) * 10)).toInt64.toUInt64 &&& Int64.toUInt64 63)).toInt64 &&& 1023 ≠ 0) ↔ ∃ p, p < 10 ∧ tb x (10 * k + p) = true := by
  have e : ((k : Int) * 10) = ((10 * k : Nat) : Int) := by omega
  rw [e, tb_ne]
  constructor
  · rintro ⟨n, h1, h2⟩
    rw [tb_and, tb_ushr _ (by omega), tb_1023] at h2
    simp only [Bool.and_eq_true, decide_eq_true_eq] at h2
    exact ⟨n, h2.2, h2.1⟩
  · rintro ⟨p, h1, h2⟩
    refine ⟨p, by omega, ?_⟩
    rw [tb_and, tb_ushr _ (by omega), tb_1023, h2, decide_eq_true h1]
    rfl
theorem x10_append_l0 {I : Nat → Nat → Int32} {J : Nat → Nat → Int64} {F : Option Value → zM → Prop} {t bs wn : Nat} (ht : rd I 1 1 = t) (ht1 : 1 ≤ t) (ht2 : t ≤ 10) (hlt : ∀ k, k < t → isLt (rd I 2 k)) (hw : rd I 134 0 = wn) (hw2 : wn < 12) (hbs : bs = 10 * (wn % 6)) (hh : wn / 6 = 0) (hy : ∀ J' : Nat → Nat → Int64, (∀ c n, c ≤ 26 → tb (J' 136 c) n = (tb (J 136 c) n || decide (bs ≤ n ∧ n < bs + t ∧ (c = 26 ∨ rd I 2 (n - bs) = 97 + (c : Int))))) → (∀ n, tb (J' 138 0) n = (tb (J 138 0) n || decide (n = bs))) → (∀ n, tb (J' 139 0) n = (tb (J 139 0) n || decide (n + 1 = bs + t))) → (∀ id k, id ≠ 136 → ¬ (id = 138 ∧ k = 0) → ¬ (id = 139 ∧ k = 0) → J' id k = J id k) → F none (gM (wr I 134 0 ((wn : Int) + 1)) J')) : ∀ (nz : Nat) (i : Nat) (J' : Nat → Nat → Int64), t - i < nz → i ≤ t → (∀ c n, c ≤ 26 → tb (J' 136 c) n = (tb (J 136 c) n || decide (bs ≤ n ∧ n < bs + i ∧ (c = 26 ∨ rd I 2 (n - bs) = 97 + (c : Int))))) → (∀ id k, id ≠ 136 → J' id k = J id k) → Wp (sE kX10_append RX10) F 45 [(0, .ref 134), (1, .ref 1), (2, .int (iI 0)), (3, .int (iI (bs : Int))), (4, .int (iI (i : Int)))] [] (gM I J') := by
  intro nz
  induction nz with
  | zero =>
    intro i J' hmz hi hq hfr
    exact absurd hmz (Nat.not_lt_zero _)
  | succ nz ih =>
    intro i J' hmz hi hq hfr
    refine w_iload dX10_append_45 rfl ?_
    refine w_aload_n dX10_append_47 rfl ?_
    refine v_getI dX10_append_48 fX10_33 ⟨by decide, rfl⟩ (Or.inl rfl) (fun z48 e48 b48 => ?_)
    have f48 : z48 = t := by rw [e48]; exact ht
    refine v_icmp_ge 104 dX10_append_51 (by decide) (by omega) (by omega) (fun c51 => ?_) (fun c51 => ?_)
    · refine w_aload_n dX10_append_104 rfl ?_
      refine v_getR (j := 138) dX10_append_105 fX10_16 ⟨by decide, rfl⟩ rfl rfl ?_
      refine w_iload_n dX10_append_108 rfl ?_
      refine w_dup2 dX10_append_109 rfl rfl ?_
      refine v_lald dX10_append_110 ⟨by decide, rfl⟩ (by omega) (by omega) (by decide) ?_
      refine w_lconst (v := 1) dX10_append_111 (by decide) ?_
      refine w_iload_n dX10_append_112 rfl ?_
      refine w_lshl dX10_append_113 ?_
      refine w_lor dX10_append_114 ?_
      refine v_last dX10_append_115 ⟨by decide, rfl⟩ (by omega) (by omega) (by decide) ?_
      refine w_aload_n dX10_append_116 rfl ?_
      refine v_getR (j := 139) dX10_append_117 fX10_20 ⟨by decide, rfl⟩ rfl rfl ?_
      refine w_iload_n dX10_append_120 rfl ?_
      refine w_dup2 dX10_append_121 rfl rfl ?_
      refine v_lald dX10_append_122 ⟨by decide, rfl⟩ (by omega) (by omega) (by decide) ?_
      refine w_lconst (v := 1) dX10_append_123 (by decide) ?_
      refine w_iload_n dX10_append_124 rfl ?_
      refine w_aload_n dX10_append_125 rfl ?_
      refine v_getI dX10_append_126 fX10_33 ⟨by decide, rfl⟩ (Or.inl rfl) (fun z126 e126 b126 => ?_)
      have f126 : z126 = t := by rw [e126]; exact ht
      refine v_iadd dX10_append_129 ?_
      refine w_iconst (v := iI 1) dX10_append_130 rfl ?_
      refine v_isub dX10_append_131 ?_
      refine w_lshl dX10_append_132 ?_
      refine w_lor dX10_append_133 ?_
      refine v_last dX10_append_134 ⟨by decide, rfl⟩ (by omega) (by omega) (by decide) ?_
      refine w_aload_n dX10_append_135 rfl ?_
      refine w_dup dX10_append_136 rfl ?_
      refine v_getI dX10_append_137 fX10_29 ⟨by decide, rfl⟩ (Or.inl rfl) (fun z137 e137 b137 => ?_)
      have f137 : z137 = wn := by rw [e137]; exact hw
      refine w_iconst (v := iI 1) dX10_append_140 rfl ?_
      refine v_iadd dX10_append_141 ?_
      refine v_putI dX10_append_142 fX10_29 ⟨by decide, rfl⟩ rfl (Or.inl rfl) ?_
      refine v_vret dX10_append_145 rfl ⟨rfl, rfl⟩ ?_
      rw [f137]
      have g : i = t := by omega
      subst g
      obtain ⟨pp, hpp⟩ : ∃ pp, pp = bs + (i - 1) := ⟨_, rfl⟩
      rw [show (bs : Int) + z126 - 1 = ((pp : Nat) : Int) by omega]
      (try simp only [tn0, tn1, tn26, Nat.reduceAdd])
      refine hy _ (fun c n hc => ?_) (fun n => ?_) (fun n => ?_) (fun id k g1 g2 g3 => ?_)
      · simp only [z_u, show ¬ (136 = 138) by decide, show ¬ (136 = 139) by decide, false_and, if_false]
        exact hq c n hc
      · have e : J' 138 0 = J 138 0 := hfr _ _ (by decide)
        have o1 := tb_one (k := bs) (by omega) n
        simp [z_u, tb_or, e, o1]
      · have e : J' 139 0 = J 139 0 := hfr _ _ (by decide)
        have o1 := tb_one (k := pp) (by omega) n
        simp only [z_u]
        simp [tb_or, e, o1]
        rw [Bool.eq_iff_iff]
        simp only [Bool.or_eq_true, decide_eq_true_eq, beq_iff_eq]
        exact or_congr Iff.rfl (by omega)
      · simp only [z_u, g2, g3, if_false]
        exact hfr id k g1
    · refine w_lconst (v := 1) dX10_append_54 (by decide) ?_
      refine w_iload_n dX10_append_55 rfl ?_
      refine w_iload dX10_append_56 rfl ?_
      refine v_iadd dX10_append_58 ?_
      refine w_lshl dX10_append_59 ?_
      refine w_lstore dX10_append_60 rfl rfl rfl ?_
      refine w_aload_n dX10_append_62 rfl ?_
      refine v_getR (j := 135) dX10_append_63 fX10_13 ⟨by decide, rfl⟩ rfl rfl ?_
      refine w_iload_n dX10_append_66 rfl ?_
      refine v_gald dX10_append_67 (by decide) ?_
      refine w_aload_n dX10_append_68 rfl ?_
      refine v_getR (j := 2) dX10_append_69 fX10_38 ⟨by decide, rfl⟩ rfl rfl ?_
      refine w_iload dX10_append_72 rfl ?_
      refine v_iald dX10_append_74 ⟨by decide, rfl⟩ (by omega) (by omega) (by decide) (fun z74 e74 b74 => ?_)
      have f74 : z74 = rd I 2 i := by rw [e74]; congr 1
      have l74 := hlt i (by omega)
      rw [← f74] at l74
      refine v_callS1 dX10_append_75 lX10_42 vX10_indexOf (by decide) rfl rfl (Nat.le_of_ble_eq_true rfl) ?_
      refine x10_indexOf (by omega) (fun q75 => ?_) (fun q75 => absurd l74 q75)
      refine w_dup2 dX10_append_78 rfl rfl ?_
      refine v_lald dX10_append_79 ⟨by decide, rfl⟩ (by omega) (by omega) (by decide) ?_
      refine w_lload dX10_append_80 rfl ?_
      refine w_lor dX10_append_82 ?_
      refine v_last dX10_append_83 ⟨by decide, rfl⟩ (by omega) (by omega) (by decide) ?_
      refine w_aload_n dX10_append_84 rfl ?_
      refine v_getR (j := 135) dX10_append_85 fX10_13 ⟨by decide, rfl⟩ rfl rfl ?_
      refine w_iload_n dX10_append_88 rfl ?_
      refine v_gald dX10_append_89 (by decide) ?_
      refine w_bipush (v := iI 26) dX10_append_90 (by decide) ?_
      refine w_dup2 dX10_append_92 rfl rfl ?_
      refine v_lald dX10_append_93 ⟨by decide, rfl⟩ (by omega) (by omega) (by decide) ?_
      refine w_lload dX10_append_94 rfl ?_
      refine w_lor dX10_append_96 ?_
      refine v_last dX10_append_97 ⟨by decide, rfl⟩ (by omega) (by omega) (by decide) ?_
      refine v_iinc dX10_append_98 rfl rfl rfl ?_
      refine w_goto 45 dX10_append_101 (by decide) ?_
      clear ht hw hy
      have sx : (97 ≤ z74 ∧ z74 ≤ 122) := l74
      refine w_keep 5 ?_
      rw [show ((bs : Int) + (i : Int)) = ((bs + i : Nat) : Int) by omega]
      (try simp only [tn0, tn1, tn26, Nat.reduceAdd])
      refine ih (i + 1) _ (by omega) (by omega) (fun c n hc => ?_) (fun id k hid => ?_)
      · have q0 := hq c n hc
        have q9 := hq 26 n (by omega)
        have o1 := tb_one (k := bs + i) (by omega) n
        by_cases c1 : c = 26
        · subst c1
          have g2 : ¬ (26 = (z74 - 97).toNat) := by omega
          have d1 : decide (n = bs + i) = true ↔ n = bs + i := decide_eq_true_iff
          simp only [z_u, true_and, g2, if_true, if_false, ite_true, and_self, tb_or, q9, o1]
          rw [Bool.eq_iff_iff]
          simp only [Bool.or_eq_true, decide_eq_true_eq, true_or, and_true, or_assoc]
          exact or_congr Iff.rfl (by omega)
        · by_cases c2 : c = (z74 - 97).toNat
          · have c3 : rd I 2 i = 97 + (c : Int) := by rw [← f74]; omega
            have c4 : ¬ ((z74 - 97).toNat = 26) := by omega
            subst c2
            simp only [z_u, true_and, c1, c4, if_true, if_false, and_self, tb_or, q0, o1]
            rw [Bool.eq_iff_iff]
            simp only [Bool.or_eq_true, decide_eq_true_eq, false_or, c1]
            constructor
            · rintro ((g | g) | g)
              · exact Or.inl g
              · exact Or.inr ⟨g.1, by omega, g.2.2⟩
              · refine Or.inr ⟨by omega, by omega, ?_⟩
                rw [show n - bs = i by omega]; exact c3
            · rintro (g | g)
              · exact Or.inl (Or.inl g)
              · by_cases g2 : n = bs + i
                · exact Or.inr g2
                · exact Or.inl (Or.inr ⟨g.1, by omega, g.2.2⟩)
          · have c3 : ¬ rd I 2 i = 97 + (c : Int) := by rw [← f74]; omega
            simp only [z_u, true_and, c1, c2, if_false, q0, and_false]
            rw [Bool.eq_iff_iff]
            simp only [Bool.or_eq_true, decide_eq_true_eq, false_or, c1]
            constructor
            · rintro (g | g)
              · exact Or.inl g
              · exact Or.inr ⟨g.1, by omega, g.2.2⟩
            · rintro (g | g)
              · exact Or.inl g
              · refine Or.inr ⟨g.1, ?_, g.2.2⟩
                apply Classical.byContradiction
                intro g3
                have g4 : n - bs = i := by omega
                rw [g4] at g
                exact c3 g.2.2
      · simp only [z_u, hid, false_and, if_false]
        exact hfr id k hid
theorem x10_append_l1 {I : Nat → Nat → Int32} {J : Nat → Nat → Int64} {F : Option Value → zM → Prop} {t bs wn : Nat} (ht : rd I 1 1 = t) (ht1 : 1 ≤ t) (ht2 : t ≤ 10) (hlt : ∀ k, k < t → isLt (rd I 2 k)) (hw : rd I 134 0 = wn) (hw2 : wn < 12) (hbs : bs = 10 * (wn % 6)) (hh : wn / 6 = 1) (hy : ∀ J' : Nat → Nat → Int64, (∀ c n, c ≤ 26 → tb (J' 137 c) n = (tb (J 137 c) n || decide (bs ≤ n ∧ n < bs + t ∧ (c = 26 ∨ rd I 2 (n - bs) = 97 + (c : Int))))) → (∀ n, tb (J' 138 1) n = (tb (J 138 1) n || decide (n = bs))) → (∀ n, tb (J' 139 1) n = (tb (J 139 1) n || decide (n + 1 = bs + t))) → (∀ id k, id ≠ 137 → ¬ (id = 138 ∧ k = 1) → ¬ (id = 139 ∧ k = 1) → J' id k = J id k) → F none (gM (wr I 134 0 ((wn : Int) + 1)) J')) : ∀ (nz : Nat) (i : Nat) (J' : Nat → Nat → Int64), t - i < nz → i ≤ t → (∀ c n, c ≤ 26 → tb (J' 137 c) n = (tb (J 137 c) n || decide (bs ≤ n ∧ n < bs + i ∧ (c = 26 ∨ rd I 2 (n - bs) = 97 + (c : Int))))) → (∀ id k, id ≠ 137 → J' id k = J id k) → Wp (sE kX10_append RX10) F 45 [(0, .ref 134), (1, .ref 1), (2, .int (iI 1)), (3, .int (iI (bs : Int))), (4, .int (iI (i : Int)))] [] (gM I J') := by
  intro nz
  induction nz with
  | zero =>
    intro i J' hmz hi hq hfr
    exact absurd hmz (Nat.not_lt_zero _)
  | succ nz ih =>
    intro i J' hmz hi hq hfr
    refine w_iload dX10_append_45 rfl ?_
    refine w_aload_n dX10_append_47 rfl ?_
    refine v_getI dX10_append_48 fX10_33 ⟨by decide, rfl⟩ (Or.inl rfl) (fun z48 e48 b48 => ?_)
    have f48 : z48 = t := by rw [e48]; exact ht
    refine v_icmp_ge 104 dX10_append_51 (by decide) (by omega) (by omega) (fun c51 => ?_) (fun c51 => ?_)
    · refine w_aload_n dX10_append_104 rfl ?_
      refine v_getR (j := 138) dX10_append_105 fX10_16 ⟨by decide, rfl⟩ rfl rfl ?_
      refine w_iload_n dX10_append_108 rfl ?_
      refine w_dup2 dX10_append_109 rfl rfl ?_
      refine v_lald dX10_append_110 ⟨by decide, rfl⟩ (by omega) (by omega) (by decide) ?_
      refine w_lconst (v := 1) dX10_append_111 (by decide) ?_
      refine w_iload_n dX10_append_112 rfl ?_
      refine w_lshl dX10_append_113 ?_
      refine w_lor dX10_append_114 ?_
      refine v_last dX10_append_115 ⟨by decide, rfl⟩ (by omega) (by omega) (by decide) ?_
      refine w_aload_n dX10_append_116 rfl ?_
      refine v_getR (j := 139) dX10_append_117 fX10_20 ⟨by decide, rfl⟩ rfl rfl ?_
      refine w_iload_n dX10_append_120 rfl ?_
      refine w_dup2 dX10_append_121 rfl rfl ?_
      refine v_lald dX10_append_122 ⟨by decide, rfl⟩ (by omega) (by omega) (by decide) ?_
      refine w_lconst (v := 1) dX10_append_123 (by decide) ?_
      refine w_iload_n dX10_append_124 rfl ?_
      refine w_aload_n dX10_append_125 rfl ?_
      refine v_getI dX10_append_126 fX10_33 ⟨by decide, rfl⟩ (Or.inl rfl) (fun z126 e126 b126 => ?_)
      have f126 : z126 = t := by rw [e126]; exact ht
      refine v_iadd dX10_append_129 ?_
      refine w_iconst (v := iI 1) dX10_append_130 rfl ?_
      refine v_isub dX10_append_131 ?_
      refine w_lshl dX10_append_132 ?_
      refine w_lor dX10_append_133 ?_
      refine v_last dX10_append_134 ⟨by decide, rfl⟩ (by omega) (by omega) (by decide) ?_
      refine w_aload_n dX10_append_135 rfl ?_
      refine w_dup dX10_append_136 rfl ?_
      refine v_getI dX10_append_137 fX10_29 ⟨by decide, rfl⟩ (Or.inl rfl) (fun z137 e137 b137 => ?_)
      have f137 : z137 = wn := by rw [e137]; exact hw
      refine w_iconst (v := iI 1) dX10_append_140 rfl ?_
      refine v_iadd dX10_append_141 ?_
      refine v_putI dX10_append_142 fX10_29 ⟨by decide, rfl⟩ rfl (Or.inl rfl) ?_
      refine v_vret dX10_append_145 rfl ⟨rfl, rfl⟩ ?_
      rw [f137]
      have g : i = t := by omega
      subst g
      obtain ⟨pp, hpp⟩ : ∃ pp, pp = bs + (i - 1) := ⟨_, rfl⟩
      rw [show (bs : Int) + z126 - 1 = ((pp : Nat) : Int) by omega]
      (try simp only [tn0, tn1, tn26, Nat.reduceAdd])
      refine hy _ (fun c n hc => ?_) (fun n => ?_) (fun n => ?_) (fun id k g1 g2 g3 => ?_)
      · simp only [z_u, show ¬ (137 = 138) by decide, show ¬ (137 = 139) by decide, false_and, if_false]
        exact hq c n hc
      · have e : J' 138 1 = J 138 1 := hfr _ _ (by decide)
        have o1 := tb_one (k := bs) (by omega) n
        simp [z_u, tb_or, e, o1]
      · have e : J' 139 1 = J 139 1 := hfr _ _ (by decide)
        have o1 := tb_one (k := pp) (by omega) n
        simp only [z_u]
        simp [tb_or, e, o1]
        rw [Bool.eq_iff_iff]
        simp only [Bool.or_eq_true, decide_eq_true_eq, beq_iff_eq]
        exact or_congr Iff.rfl (by omega)
      · simp only [z_u, g2, g3, if_false]
        exact hfr id k g1
    · refine w_lconst (v := 1) dX10_append_54 (by decide) ?_
      refine w_iload_n dX10_append_55 rfl ?_
      refine w_iload dX10_append_56 rfl ?_
      refine v_iadd dX10_append_58 ?_
      refine w_lshl dX10_append_59 ?_
      refine w_lstore dX10_append_60 rfl rfl rfl ?_
      refine w_aload_n dX10_append_62 rfl ?_
      refine v_getR (j := 135) dX10_append_63 fX10_13 ⟨by decide, rfl⟩ rfl rfl ?_
      refine w_iload_n dX10_append_66 rfl ?_
      refine v_gald dX10_append_67 (by decide) ?_
      refine w_aload_n dX10_append_68 rfl ?_
      refine v_getR (j := 2) dX10_append_69 fX10_38 ⟨by decide, rfl⟩ rfl rfl ?_
      refine w_iload dX10_append_72 rfl ?_
      refine v_iald dX10_append_74 ⟨by decide, rfl⟩ (by omega) (by omega) (by decide) (fun z74 e74 b74 => ?_)
      have f74 : z74 = rd I 2 i := by rw [e74]; congr 1
      have l74 := hlt i (by omega)
      rw [← f74] at l74
      refine v_callS1 dX10_append_75 lX10_42 vX10_indexOf (by decide) rfl rfl (Nat.le_of_ble_eq_true rfl) ?_
      refine x10_indexOf (by omega) (fun q75 => ?_) (fun q75 => absurd l74 q75)
      refine w_dup2 dX10_append_78 rfl rfl ?_
      refine v_lald dX10_append_79 ⟨by decide, rfl⟩ (by omega) (by omega) (by decide) ?_
      refine w_lload dX10_append_80 rfl ?_
      refine w_lor dX10_append_82 ?_
      refine v_last dX10_append_83 ⟨by decide, rfl⟩ (by omega) (by omega) (by decide) ?_
      refine w_aload_n dX10_append_84 rfl ?_
      refine v_getR (j := 135) dX10_append_85 fX10_13 ⟨by decide, rfl⟩ rfl rfl ?_
      refine w_iload_n dX10_append_88 rfl ?_
      refine v_gald dX10_append_89 (by decide) ?_
      refine w_bipush (v := iI 26) dX10_append_90 (by decide) ?_
      refine w_dup2 dX10_append_92 rfl rfl ?_
      refine v_lald dX10_append_93 ⟨by decide, rfl⟩ (by omega) (by omega) (by decide) ?_
      refine w_lload dX10_append_94 rfl ?_
      refine w_lor dX10_append_96 ?_
      refine v_last dX10_append_97 ⟨by decide, rfl⟩ (by omega) (by omega) (by decide) ?_
      refine v_iinc dX10_append_98 rfl rfl rfl ?_
      refine w_goto 45 dX10_append_101 (by decide) ?_
      clear ht hw hy
      have sx : (97 ≤ z74 ∧ z74 ≤ 122) := l74
      refine w_keep 5 ?_
      rw [show ((bs : Int) + (i : Int)) = ((bs + i : Nat) : Int) by omega]
      (try simp only [tn0, tn1, tn26, Nat.reduceAdd])
      refine ih (i + 1) _ (by omega) (by omega) (fun c n hc => ?_) (fun id k hid => ?_)
      · have q0 := hq c n hc
        have q9 := hq 26 n (by omega)
        have o1 := tb_one (k := bs + i) (by omega) n
        by_cases c1 : c = 26
        · subst c1
          have g2 : ¬ (26 = (z74 - 97).toNat) := by omega
          have d1 : decide (n = bs + i) = true ↔ n = bs + i := decide_eq_true_iff
          simp only [z_u, true_and, g2, if_true, if_false, ite_true, and_self, tb_or, q9, o1]
          rw [Bool.eq_iff_iff]
          simp only [Bool.or_eq_true, decide_eq_true_eq, true_or, and_true, or_assoc]
          exact or_congr Iff.rfl (by omega)
        · by_cases c2 : c = (z74 - 97).toNat
          · have c3 : rd I 2 i = 97 + (c : Int) := by rw [← f74]; omega
            have c4 : ¬ ((z74 - 97).toNat = 26) := by omega
            subst c2
            simp only [z_u, true_and, c1, c4, if_true, if_false, and_self, tb_or, q0, o1]
            rw [Bool.eq_iff_iff]
            simp only [Bool.or_eq_true, decide_eq_true_eq, false_or, c1]
            constructor
            · rintro ((g | g) | g)
              · exact Or.inl g
              · exact Or.inr ⟨g.1, by omega, g.2.2⟩
              · refine Or.inr ⟨by omega, by omega, ?_⟩
                rw [show n - bs = i by omega]; exact c3
            · rintro (g | g)
              · exact Or.inl (Or.inl g)
              · by_cases g2 : n = bs + i
                · exact Or.inr g2
                · exact Or.inl (Or.inr ⟨g.1, by omega, g.2.2⟩)
          · have c3 : ¬ rd I 2 i = 97 + (c : Int) := by rw [← f74]; omega
            simp only [z_u, true_and, c1, c2, if_false, q0, and_false]
            rw [Bool.eq_iff_iff]
            simp only [Bool.or_eq_true, decide_eq_true_eq, false_or, c1]
            constructor
            · rintro (g | g)
              · exact Or.inl g
              · exact Or.inr ⟨g.1, by omega, g.2.2⟩
            · rintro (g | g)
              · exact Or.inl g
              · refine Or.inr ⟨g.1, ?_, g.2.2⟩
                apply Classical.byContradiction
                intro g3
                have g4 : n - bs = i := by omega
                rw [g4] at g
                exact c3 g.2.2
      · simp only [z_u, hid, false_and, if_false]
        exact hfr id k hid
theorem x10_append {I : Nat → Nat → Int32} {J : Nat → Nat → Int64} {F : Option Value → zM → Prop} {t wn : Nat} (ht : rd I 1 1 = t) (ht1 : 1 ≤ t) (ht2 : t ≤ 10) (hlt : ∀ k, k < t → isLt (rd I 2 k)) (hw : rd I 134 0 = wn) (hw2 : wn < 12) (hy : ∀ J' : Nat → Nat → Int64, (∀ c n, c ≤ 26 → tb (J' (136 + (wn / 6)) c) n = (tb (J (136 + (wn / 6)) c) n || decide (10 * (wn % 6) ≤ n ∧ n < 10 * (wn % 6) + t ∧ (c = 26 ∨ rd I 2 (n - 10 * (wn % 6)) = 97 + (c : Int))))) → (∀ n, tb (J' 138 (wn / 6)) n = (tb (J 138 (wn / 6)) n || decide (n = 10 * (wn % 6)))) → (∀ n, tb (J' 139 (wn / 6)) n = (tb (J 139 (wn / 6)) n || decide (n + 1 = 10 * (wn % 6) + t))) → (∀ id k, id ≠ 136 + (wn / 6) → ¬ (id = 138 ∧ k = (wn / 6)) → ¬ (id = 139 ∧ k = (wn / 6)) → J' id k = J id k) → F none (gM (wr I 134 0 ((wn : Int) + 1)) J')) : Cl yX10_append kX10_append [.ref 134, .ref 1] (gM I J) F := by
  refine cl_s (by decide) (by decide) (Nat.le_of_ble_eq_true rfl) rt_v ?_
  show Wp _ F 0 [(0, .ref 134), (1, .ref 1)] [] _
  refine w_aload_n dX10_append_0 rfl ?_
  refine v_getI dX10_append_1 fX10_29 ⟨by decide, rfl⟩ (Or.inl rfl) (fun z1 e1 b1 => ?_)
  have f1 : z1 = wn := by rw [e1]; exact hw
  rw [f1]
  refine w_bipush (v := iI 6) dX10_append_4 (by decide) ?_
  refine v_idiv dX10_append_6 (by omega) (by omega) ?_
  rcases (show wn / 6 = 0 ∨ wn / 6 = 1 by omega) with hh' | hh'
  · rw [show (wn : Int) / 6 = 0 by omega]
    rw [hh'] at hy
    refine w_istore_n dX10_append_7 rfl rfl ?_
    refine w_aload_n dX10_append_8 rfl ?_
    refine v_getI dX10_append_9 fX10_29 ⟨by decide, rfl⟩ (Or.inl rfl) (fun z9 e9 b9 => ?_)
    have f9 : z9 = wn := by rw [e9]; exact hw
    rw [f9]
    refine w_bipush (v := iI 6) dX10_append_12 (by decide) ?_
    refine v_irem dX10_append_14 (by omega) (by omega) ?_
    refine w_bipush (v := iI 10) dX10_append_15 (by decide) ?_
    refine v_imul dX10_append_17 ?_
    refine w_istore_n dX10_append_18 rfl rfl ?_
    refine w_iload_n dX10_append_19 rfl ?_
    refine w_iconst (v := iI 2) dX10_append_20 rfl ?_
    refine v_icmp_ge 41 dX10_append_21 (by decide) (by decide) (by decide) (fun q => absurd q (by decide)) (fun _ => ?_)
    refine w_aload_n dX10_append_24 rfl ?_
    refine v_getI dX10_append_25 fX10_33 ⟨by decide, rfl⟩ (Or.inl rfl) (fun z25 e25 b25 => ?_)
    have f25 : z25 = t := by rw [e25]; exact ht
    refine w_iconst (v := iI 1) dX10_append_28 rfl ?_
    refine v_icmp_lt 41 dX10_append_29 (by decide) (by omega) (by omega) (fun c29 => absurd c29 (by omega)) (fun c29 => ?_)
    refine w_aload_n dX10_append_32 rfl ?_
    refine v_getI dX10_append_33 fX10_33 ⟨by decide, rfl⟩ (Or.inl rfl) (fun z33 e33 b33 => ?_)
    have f33 : z33 = t := by rw [e33]; exact ht
    refine w_bipush (v := iI 10) dX10_append_36 (by decide) ?_
    refine v_icmp_le 42 dX10_append_38 (by decide) (by omega) (by omega) (fun c38 => ?_) (fun c38 => absurd c38 (by omega))
    refine w_iconst (v := iI 0) dX10_append_42 rfl ?_
    refine w_istore dX10_append_43 rfl rfl ?_
    rw [show (wn : Int) % 6 * 10 = ((10 * (wn % 6) : Nat) : Int) by omega]
    exact x10_append_l0 ht ht1 ht2 hlt hw hw2 rfl hh' hy (t + 1) 0 J (by omega) (by omega) (fun c n _ => by rw [decide_eq_false (by omega), Bool.or_false]) (fun _ _ _ => rfl)
  · rw [show (wn : Int) / 6 = 1 by omega]
    rw [hh'] at hy
    refine w_istore_n dX10_append_7 rfl rfl ?_
    refine w_aload_n dX10_append_8 rfl ?_
    refine v_getI dX10_append_9 fX10_29 ⟨by decide, rfl⟩ (Or.inl rfl) (fun z9 e9 b9 => ?_)
    have f9 : z9 = wn := by rw [e9]; exact hw
    rw [f9]
    refine w_bipush (v := iI 6) dX10_append_12 (by decide) ?_
    refine v_irem dX10_append_14 (by omega) (by omega) ?_
    refine w_bipush (v := iI 10) dX10_append_15 (by decide) ?_
    refine v_imul dX10_append_17 ?_
    refine w_istore_n dX10_append_18 rfl rfl ?_
    refine w_iload_n dX10_append_19 rfl ?_
    refine w_iconst (v := iI 2) dX10_append_20 rfl ?_
    refine v_icmp_ge 41 dX10_append_21 (by decide) (by decide) (by decide) (fun q => absurd q (by decide)) (fun _ => ?_)
    refine w_aload_n dX10_append_24 rfl ?_
    refine v_getI dX10_append_25 fX10_33 ⟨by decide, rfl⟩ (Or.inl rfl) (fun z25 e25 b25 => ?_)
    have f25 : z25 = t := by rw [e25]; exact ht
    refine w_iconst (v := iI 1) dX10_append_28 rfl ?_
    refine v_icmp_lt 41 dX10_append_29 (by decide) (by omega) (by omega) (fun c29 => absurd c29 (by omega)) (fun c29 => ?_)
    refine w_aload_n dX10_append_32 rfl ?_
    refine v_getI dX10_append_33 fX10_33 ⟨by decide, rfl⟩ (Or.inl rfl) (fun z33 e33 b33 => ?_)
    have f33 : z33 = t := by rw [e33]; exact ht
    refine w_bipush (v := iI 10) dX10_append_36 (by decide) ?_
    refine v_icmp_le 42 dX10_append_38 (by decide) (by omega) (by omega) (fun c38 => ?_) (fun c38 => absurd c38 (by omega))
    refine w_iconst (v := iI 0) dX10_append_42 rfl ?_
    refine w_istore dX10_append_43 rfl rfl ?_
    rw [show (wn : Int) % 6 * 10 = ((10 * (wn % 6) : Nat) : Int) by omega]
    exact x10_append_l1 ht ht1 ht2 hlt hw hw2 rfl hh' hy (t + 1) 0 J (by omega) (by omega) (fun c n _ => by rw [decide_eq_false (by omega), Bool.or_false]) (fun _ _ _ => rfl)
theorem x11_word {I : Nat → Nat → Int32} {J : Nat → Nat → Int64} {F : Option Value → zM → Prop} {t wn : Nat} (ht : rd I 1 1 = t) (ht2 : t ≤ 200) (hw : rd I 134 0 = wn) (hw2 : wn ≤ 12) (hn : ¬ (1 ≤ t ∧ t ≤ 10 ∧ wn < 12 ∧ ∀ k, k < t → isLt (rd I 2 k)) → F (some (.int (iI (-1)))) (gM (wr I 1 1 0) J)) (hy : (1 ≤ t ∧ t ≤ 10 ∧ wn < 12 ∧ ∀ k, k < t → isLt (rd I 2 k)) → ∀ J' : Nat → Nat → Int64, (∀ c n, c ≤ 26 → tb (J' (136 + (wn / 6)) c) n = (tb (J (136 + (wn / 6)) c) n || decide (10 * (wn % 6) ≤ n ∧ n < 10 * (wn % 6) + t ∧ (c = 26 ∨ rd I 2 (n - 10 * (wn % 6)) = 97 + (c : Int))))) → (∀ n, tb (J' 138 (wn / 6)) n = (tb (J 138 (wn / 6)) n || decide (n = 10 * (wn % 6)))) → (∀ n, tb (J' 139 (wn / 6)) n = (tb (J 139 (wn / 6)) n || decide (n + 1 = 10 * (wn % 6) + t))) → (∀ id k, id ≠ 136 + (wn / 6) → ¬ (id = 138 ∧ k = (wn / 6)) → ¬ (id = 139 ∧ k = (wn / 6)) → J' id k = J id k) → F (some (.int (iI ((wn : Int) + 1)))) (gM (wr (wr I 134 0 ((wn : Int) + 1)) 1 1 0) J')) : Cl yX11_word kX11_word [.ref 0] (gM I J) F := by
  refine cl_s (by decide) (by decide) (Nat.le_of_ble_eq_true rfl) rt_i ?_
  show Wp _ F 0 [(0, .ref 0)] [] _
  refine w_aload_n dX11_word_0 rfl ?_
  refine v_getR (j := 1) dX11_word_1 fX11_12 ⟨by decide, rfl⟩ rfl rfl ?_
  refine w_bipush (v := iI 10) dX11_word_4 (by decide) ?_
  refine v_callV1 dX11_word_6 lX11_103 vX9_isLetters (by decide) rfl rfl ⟨by decide, rfl⟩ (by decide) rfl (Nat.le_of_ble_eq_true rfl) ?_
  refine x9_isLetters ht ht2 (by omega) (fun q6 => ?_) (fun q6 => ?_)
  · refine v_if_eq 28 dX11_word_9 (by decide) (by decide) (fun q => absurd q (by decide)) (fun _ => ?_)
    refine w_aload_n dX11_word_12 rfl ?_
    refine v_getR (j := 134) dX11_word_13 fX11_28 ⟨by decide, rfl⟩ rfl rfl ?_
    refine v_getI dX11_word_16 fX11_107 ⟨by decide, rfl⟩ (Or.inl rfl) (fun z16 e16 b16 => ?_)
    have f16 : z16 = wn := by rw [e16]; exact hw
    refine w_bipush (v := iI 12) dX11_word_19 (by decide) ?_
    refine v_icmp_ge 28 dX11_word_21 (by decide) (by omega) (by omega) (fun c21 => ?_) (fun c21 => ?_)
    · refine w_iconst (v := iI 0) dX11_word_28 rfl ?_
      refine w_istore_n dX11_word_29 rfl rfl ?_
      refine w_iload_n dX11_word_30 rfl ?_
      refine v_if_eq 45 dX11_word_31 (by decide) (by decide) (fun _ => ?_) (fun q => absurd q (by decide))
      refine w_aload_n dX11_word_45 rfl ?_
      refine v_getR (j := 1) dX11_word_46 fX11_12 ⟨by decide, rfl⟩ rfl rfl ?_
      refine w_iconst (v := iI 0) dX11_word_49 rfl ?_
      refine v_putI dX11_word_50 fX11_60 ⟨by decide, rfl⟩ rfl (Or.inl rfl) ?_
      refine w_iload_n dX11_word_53 rfl ?_
      refine v_if_eq 67 dX11_word_54 (by decide) (by decide) (fun _ => ?_) (fun q => absurd q (by decide))
      refine w_iconst (v := iI (-1)) dX11_word_67 rfl ?_
      refine v_iret dX11_word_68 rfl ⟨rfl, rfl⟩ ?_
      first
        | (rw [f61]
           exact hy ⟨q6.1, by omega, by omega, q6.2.2⟩ J' p1 p2 p3 p4)
        | exact hn (fun g => q6 ⟨g.1, by omega, g.2.2.2⟩)
        | exact hn (fun g => by omega)
    · refine w_iconst (v := iI 1) dX11_word_24 rfl ?_
      refine w_goto 29 dX11_word_25 (by decide) ?_
      refine w_istore_n dX11_word_29 rfl rfl ?_
      refine w_iload_n dX11_word_30 rfl ?_
      refine v_if_eq 45 dX11_word_31 (by decide) (by decide) (fun q => absurd q (by decide)) (fun _ => ?_)
      refine w_aload_n dX11_word_34 rfl ?_
      refine v_getR (j := 134) dX11_word_35 fX11_28 ⟨by decide, rfl⟩ rfl rfl ?_
      refine w_aload_n dX11_word_38 rfl ?_
      refine v_getR (j := 1) dX11_word_39 fX11_12 ⟨by decide, rfl⟩ rfl rfl ?_
      refine v_callV1 dX11_word_42 lX11_110 vX10_append (by decide) rfl rfl ⟨by decide, rfl⟩ (by decide) rfl (Nat.le_of_ble_eq_true rfl) ?_
      refine x10_append ht (by omega) (by omega) q6.2.2 hw (by omega) (fun J' p1 p2 p3 p4 => ?_)
      refine w_aload_n dX11_word_45 rfl ?_
      refine v_getR (j := 1) dX11_word_46 fX11_12 ⟨by decide, rfl⟩ rfl rfl ?_
      refine w_iconst (v := iI 0) dX11_word_49 rfl ?_
      refine v_putI dX11_word_50 fX11_60 ⟨by decide, rfl⟩ rfl (Or.inl rfl) ?_
      refine w_iload_n dX11_word_53 rfl ?_
      refine v_if_eq 67 dX11_word_54 (by decide) (by decide) (fun q => absurd q (by decide)) (fun _ => ?_)
      refine w_aload_n dX11_word_57 rfl ?_
      refine v_getR (j := 134) dX11_word_58 fX11_28 ⟨by decide, rfl⟩ rfl rfl ?_
      refine v_getI dX11_word_61 fX11_107 ⟨by decide, rfl⟩ (Or.inl rfl) (fun z61 e61 b61 => ?_)
      have f61 : z61 = (wn : Int) + 1 := by rw [e61, rd_wr_row (by decide), rd_wr_eq (by omega) (by omega)]
      refine w_goto 68 dX11_word_64 (by decide) ?_
      refine v_iret dX11_word_68 rfl ⟨rfl, rfl⟩ ?_
      first
        | (rw [f61]
           exact hy ⟨q6.1, by omega, by omega, q6.2.2⟩ J' p1 p2 p3 p4)
        | exact hn (fun g => q6 ⟨g.1, by omega, g.2.2.2⟩)
        | exact hn (fun g => by omega)
  · refine v_if_eq 28 dX11_word_9 (by decide) (by decide) (fun _ => ?_) (fun q => absurd q (by decide))
    refine w_iconst (v := iI 0) dX11_word_28 rfl ?_
    refine w_istore_n dX11_word_29 rfl rfl ?_
    refine w_iload_n dX11_word_30 rfl ?_
    refine v_if_eq 45 dX11_word_31 (by decide) (by decide) (fun _ => ?_) (fun q => absurd q (by decide))
    refine w_aload_n dX11_word_45 rfl ?_
    refine v_getR (j := 1) dX11_word_46 fX11_12 ⟨by decide, rfl⟩ rfl rfl ?_
    refine w_iconst (v := iI 0) dX11_word_49 rfl ?_
    refine v_putI dX11_word_50 fX11_60 ⟨by decide, rfl⟩ rfl (Or.inl rfl) ?_
    refine w_iload_n dX11_word_53 rfl ?_
    refine v_if_eq 67 dX11_word_54 (by decide) (by decide) (fun _ => ?_) (fun q => absurd q (by decide))
    refine w_iconst (v := iI (-1)) dX11_word_67 rfl ?_
    refine v_iret dX11_word_68 rfl ⟨rfl, rfl⟩ ?_
    first
      | (rw [f61]
         exact hy ⟨q6.1, by omega, by omega, q6.2.2⟩ J' p1 p2 p3 p4)
      | exact hn (fun g => q6 ⟨g.1, by omega, g.2.2.2⟩)
      | exact hn (fun g => by omega)
