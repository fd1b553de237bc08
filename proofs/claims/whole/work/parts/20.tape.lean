/-! the tape: class and reference -/
/-- byte of a number from bit k on -/
def byt (v : Int32) (k : Nat) : Int := v.toInt / 2 ^ k % 256
theorem byt_bd (v : Int32) (k : Nat) : 0 ≤ byt v k ∧ byt v k < 256 := by unfold byt; omega
theorem byt_and (x : Int32) : x &&& iI 255 = iI (x.toInt % 256) := by
  have h := pk_and x (m := iI 255) 8 (by decide +kernel)
  rw [h]
  show Int32.ofNat _ = Int32.ofInt _
  rw [← Int32.ofInt_eq_ofNat]
  congr 1
  have e : x.toInt = x.toBitVec.toInt := rfl
  rw [e, BitVec.toInt_eq_toNat_bmod, Int.bmod_def]
  have := x.toBitVec.isLt
  split <;> omega
theorem byt_ushr (v : Int32) : ∀ j : Nat, j < 4 → (v.toUInt32 >>> ((iI (24 - 8 * (j : Int))).toUInt32 &&& Int32.toUInt32 31)).toInt32 &&& iI 255 = iI (byt v (24 - 8 * j)) := by
  have key : ∀ (s : Int32) (k : Nat), k ≤ 24 → ((s.toUInt32 &&& Int32.toUInt32 31).toBitVec % 32).toNat = k → (k = 24 ∨ k = 16 ∨ k = 8 ∨ k = 0) → (v.toUInt32 >>> (s.toUInt32 &&& Int32.toUInt32 31)).toInt32 &&& iI 255 = iI (byt v k) := by
    intro s k hk hs hc
    have h := pk_ushr v s k hs
    generalize (v.toUInt32 >>> (s.toUInt32 &&& Int32.toUInt32 31)).toInt32 = y at h ⊢
    rw [byt_and]
    congr 1
    unfold byt
    have e1 : v.toInt = v.toBitVec.toInt := rfl
    have e2 : y.toInt = y.toBitVec.toInt := rfl
    rw [e1, e2, BitVec.toInt_eq_toNat_bmod, BitVec.toInt_eq_toNat_bmod, Int.bmod_def, Int.bmod_def, h]
    have := v.toBitVec.isLt
    rcases hc with rfl | rfl | rfl | rfl <;> split <;> split <;> omega
  intro j hj
  match j, hj with
  | 0, _ => exact key _ 24 (by decide) (by decide +kernel) (by decide)
  | 1, _ => exact key _ 16 (by decide) (by decide +kernel) (by decide)
  | 2, _ => exact key _ 8 (by decide) (by decide +kernel) (by decide)
  | 3, _ => exact key _ 0 (by decide) (by decide +kernel) (by decide)
theorem byt_shr (v : Int32) : ∀ j : Nat, j < 4 → (v >>> (iI (8 * (3 - (j : Int))) &&& 31)) &&& iI 255 = iI (byt v (24 - 8 * j)) := by
  have key : ∀ (s : Int32) (k : Nat), (s.toBitVec.smod 32).toNat = k → (v >>> s) &&& iI 255 = iI (byt v k) := by
    intro s k hs
    rw [byt_and, pk_shr v s k hs]
    congr 2
    exact Int.shiftRight_eq_div_pow ..
  intro j hj
  match j, hj with
  | 0, _ => exact key _ 24 (by decide +kernel)
  | 1, _ => exact key _ 16 (by decide +kernel)
  | 2, _ => exact key _ 8 (by decide +kernel)
  | 3, _ => exact key _ 0 (by decide +kernel)
theorem x9_append_l {I : Nat → Nat → Int32} {J : Nat → Nat → Int64} {F : Option Value → zM → Prop} {v : Int32} {t : Nat} (ht : rd I 1 1 = t) (ht2 : t + 4 ≤ 200) (h : ∀ I', (∀ id k : Nat, rd I' id k = if id = 1 ∧ k = 1 then (t : Int) + 4 else if id = 2 ∧ t ≤ k ∧ k < t + 4 then byt v (24 - 8 * (k - t)) else rd I id k) → F none (gM I' J)) : ∀ (n : Nat) (j : Nat) (I' : Nat → Nat → Int32), 4 - j < n → j ≤ 4 → (∀ id k : Nat, rd I' id k = if id = 1 ∧ k = 1 then (t : Int) + j else if id = 2 ∧ t ≤ k ∧ k < t + j then byt v (24 - 8 * (k - t)) else rd I id k) → Wp (sE kX9_append RX9) F 3 [(0, .ref 1), (1, .int v), (2, .int (iI (24 - 8 * (j : Int))))] [] (gM I' J) := by
  intro n
  induction n with
  | zero =>
    intro j I' hmz hj hI
    exact absurd hmz (Nat.not_lt_zero _)
  | succ n ih =>
    intro j I' hmz hj hI
    refine w_iload_n dX9_append_3 rfl ?_
    refine v_if_lt 49 dX9_append_4 (by decide) (by omega) (fun c4 => ?_) (fun c4 => ?_)
    · refine v_vret dX9_append_49 rfl ⟨rfl, rfl⟩ ?_
      exact h I' (by have g : j = 4 := (by omega); subst g; exact hI)
    · refine w_aload_n dX9_append_7 rfl ?_
      refine v_getI dX9_append_8 fX9_15 ⟨by decide, rfl⟩ (Or.inl rfl) (fun z8 e8 b8 => ?_)
      have f8 : z8 = t + j := by rw [e8, hI 1 1, if_pos ⟨rfl, rfl⟩]
      refine w_sipush (v := iI 200) dX9_append_11 (by decide) ?_
      refine v_icmp_ge 49 dX9_append_14 (by decide) (by omega) (by omega) (fun c14 => absurd c14 (by omega)) (fun c14 => ?_)
      refine w_aload_n dX9_append_17 rfl ?_
      refine v_getR (j := 2) dX9_append_18 fX9_9 ⟨by decide, rfl⟩ rfl rfl ?_
      refine w_aload_n dX9_append_21 rfl ?_
      refine v_getI dX9_append_22 fX9_15 ⟨by decide, rfl⟩ (Or.inl rfl) (fun z22 e22 b22 => ?_)
      have f22 : z22 = t + j := by rw [e22, hI 1 1, if_pos ⟨rfl, rfl⟩]
      refine w_iload_n dX9_append_25 rfl ?_
      refine w_iload_n dX9_append_26 rfl ?_
      refine w_iushr dX9_append_27 ?_
      refine w_sipush (v := iI 255) dX9_append_28 (by decide) ?_
      refine w_iand dX9_append_31 ?_
      rw [byt_ushr v j (by omega)]
      refine v_iast dX9_append_32 ⟨by decide, rfl⟩ (by omega) (by omega) (by decide) ?_
      refine w_aload_n dX9_append_33 rfl ?_
      refine w_dup dX9_append_34 rfl ?_
      refine v_getI dX9_append_35 fX9_15 ⟨by decide, rfl⟩ (Or.inl rfl) (fun z35 e35 b35 => ?_)
      refine w_iconst (v := iI 1) dX9_append_38 rfl ?_
      refine v_iadd dX9_append_39 ?_
      refine v_putI dX9_append_40 fX9_15 ⟨by decide, rfl⟩ rfl (Or.inl rfl) ?_
      refine v_iinc dX9_append_43 rfl rfl rfl ?_
      refine w_goto 3 dX9_append_46 (by decide) ?_
      have e1 : z35 = t + j := by rw [e35, rd_wr_row (by decide), hI 1 1, if_pos ⟨rfl, rfl⟩]
      have e2 : z22 = t + j := by rw [e22, hI 1 1, if_pos ⟨rfl, rfl⟩]
      have e3 : (24 : Int) - 8 * (j : Int) + (-8) = 24 - 8 * ((j + 1 : Nat) : Int) := by omega
      rw [e3]
      refine ih (j + 1) _ (by omega) (by omega) (fun id k => ?_)
      have b1 := byt_bd v (24 - 8 * j)
      rw [rd_wr (by omega) (by omega), rd_wr (by omega) (by omega), hI id k]
      by_cases g1 : id = 1 ∧ k = 1
      · rw [if_pos g1, if_pos g1]; omega
      · rw [if_neg g1, if_neg g1, if_neg g1]
        by_cases g2 : id = 2 ∧ k = z22.toNat
        · rw [if_pos g2, if_pos (by omega)]
          congr 2; omega
        · rw [if_neg g2]
          by_cases g3 : id = 2 ∧ t ≤ k ∧ k < t + j
          · rw [if_pos g3, if_pos (by omega)]
          · rw [if_neg g3, if_neg (by omega)]
theorem x9_append {I : Nat → Nat → Int32} {J : Nat → Nat → Int64} {F : Option Value → zM → Prop} {v : Int32} {t : Nat} (ht : rd I 1 1 = t) (ht2 : t + 4 ≤ 200) (h : ∀ I', (∀ id k : Nat, rd I' id k = if id = 1 ∧ k = 1 then (t : Int) + 4 else if id = 2 ∧ t ≤ k ∧ k < t + 4 then byt v (24 - 8 * (k - t)) else rd I id k) → F none (gM I' J)) : Cl yX9_append kX9_append [.ref 1, .int v] (gM I J) F := by
  refine cl_s (by decide) (by decide) (Nat.le_of_ble_eq_true rfl) rt_v ?_
  show Wp _ F 0 [(0, .ref 1), (1, .int v)] [] _
  refine w_bipush (v := iI 24) dX9_append_0 (by decide) ?_
  refine w_istore_n dX9_append_2 rfl rfl ?_
  exact x9_append_l ht ht2 h 5 0 I (by omega) (by omega) (fun id k => by
    by_cases g : id = 1 ∧ k = 1
    · rw [if_pos g, g.1, g.2, ht]; omega
    · rw [if_neg g, if_neg (by omega)])
theorem x9_isLetters_l {I : Nat → Nat → Int32} {J : Nat → Nat → Int64} {F : Option Value → zM → Prop} {t : Nat} {mo : Int} (ht : rd I 1 1 = t) (ht2 : t ≤ 200) (bmo : -2147483648 ≤ mo ∧ mo < 2147483648) (hy : (1 ≤ t ∧ t ≤ mo ∧ ∀ k, k < t → isLt (rd I 2 k)) → F (some (.int (iI 1))) (gM I J)) (hn : ¬ (1 ≤ t ∧ t ≤ mo ∧ ∀ k, k < t → isLt (rd I 2 k)) → F (some (.int (iI 0))) (gM I J)) (h1 : 1 ≤ t) (h2 : t ≤ mo) : ∀ (n : Nat) (k : Nat), t - k < n → k ≤ t → (∀ j, j < k → isLt (rd I 2 j)) → Wp (sE kX9_isLetters RX9) F 20 [(0, .ref 1), (1, .int (iI mo)), (2, .int (iI (k : Int)))] [] (gM I J) := by
  intro n
  induction n with
  | zero =>
    intro k hmz hk ha
    exact absurd hmz (Nat.not_lt_zero _)
  | succ n ih =>
    intro k hmz hk ha
    refine w_iload_n dX9_isLetters_20 rfl ?_
    refine w_aload_n dX9_isLetters_21 rfl ?_
    refine v_getI dX9_isLetters_22 fX9_15 ⟨by decide, rfl⟩ (Or.inl rfl) (fun z22 e22 b22 => ?_)
    refine v_icmp_ge 48 dX9_isLetters_25 (by decide) (by omega) (by omega) (fun c25 => ?_) (fun c25 => ?_)
    · refine w_iconst (v := iI 1) dX9_isLetters_48 rfl ?_
      refine v_zret dX9_isLetters_49 rfl ⟨rfl, rfl⟩ (by decide) ?_
      refine hy ⟨h1, h2, fun j hj => ha j (by omega)⟩
    · refine w_aload_n dX9_isLetters_28 rfl ?_
      refine v_getR (j := 2) dX9_isLetters_29 fX9_9 ⟨by decide, rfl⟩ rfl rfl ?_
      refine w_iload_n dX9_isLetters_32 rfl ?_
      refine v_iald dX9_isLetters_33 ⟨by decide, rfl⟩ (by omega) (by omega) (by decide) (fun z33 e33 b33 => ?_)
      refine v_callSN1 dX9_isLetters_34 lX9_19 vX11_isLetter (by decide) rfl rfl (by decide) ?_
      refine x11_isLetter (by omega) (fun q34 => ?_) (fun q34 => ?_)
      · refine v_if_ne 42 dX9_isLetters_37 (by decide) (by decide) (fun _ => ?_) (fun q => absurd q (by decide))
        refine v_iinc dX9_isLetters_42 rfl rfl rfl ?_
        refine w_goto 20 dX9_isLetters_45 (by decide) ?_
        refine ih (k + 1) (by omega) (by omega) (fun j hj => ?_)
        rcases Nat.lt_succ_iff_lt_or_eq.mp hj with g | g
        · exact ha j g
        · subst g
          have e33' := e33
          simp only [Int.toNat_natCast] at e33'
          rw [← e33']; exact q34
      · refine v_if_ne 42 dX9_isLetters_37 (by decide) (by decide) (fun q => absurd q (by decide)) (fun _ => ?_)
        refine w_iconst (v := iI 0) dX9_isLetters_40 rfl ?_
        refine v_zret dX9_isLetters_41 rfl ⟨rfl, rfl⟩ (by decide) ?_
        refine hn (fun g => q34 ?_)
        rw [e33]
        exact g.2.2 k (by omega)
theorem x9_isLetters {I : Nat → Nat → Int32} {J : Nat → Nat → Int64} {F : Option Value → zM → Prop} {t : Nat} {mo : Int} (ht : rd I 1 1 = t) (ht2 : t ≤ 200) (bmo : -2147483648 ≤ mo ∧ mo < 2147483648) (hy : (1 ≤ t ∧ t ≤ mo ∧ ∀ k, k < t → isLt (rd I 2 k)) → F (some (.int (iI 1))) (gM I J)) (hn : ¬ (1 ≤ t ∧ t ≤ mo ∧ ∀ k, k < t → isLt (rd I 2 k)) → F (some (.int (iI 0))) (gM I J)) : Cl yX9_isLetters kX9_isLetters [.ref 1, .int (iI mo)] (gM I J) F := by
  refine cl_s (by decide) (by decide) (Nat.le_of_ble_eq_true rfl) rt_z ?_
  show Wp _ F 0 [(0, .ref 1), (1, .int (iI mo))] [] _
  refine w_aload_n dX9_isLetters_0 rfl ?_
  refine v_getI dX9_isLetters_1 fX9_15 ⟨by decide, rfl⟩ (Or.inl rfl) (fun z1 e1 b1 => ?_)
  refine w_iconst (v := iI 1) dX9_isLetters_4 rfl ?_
  refine v_icmp_lt 16 dX9_isLetters_5 (by decide) (by omega) (by omega) (fun c5 => ?_) (fun c5 => ?_)
  · refine w_iconst (v := iI 0) dX9_isLetters_16 rfl ?_
    refine v_zret dX9_isLetters_17 rfl ⟨rfl, rfl⟩ (by decide) ?_
    exact hn (fun g => by omega)
  · refine w_aload_n dX9_isLetters_8 rfl ?_
    refine v_getI dX9_isLetters_9 fX9_15 ⟨by decide, rfl⟩ (Or.inl rfl) (fun z9 e9 b9 => ?_)
    refine w_iload_n dX9_isLetters_12 rfl ?_
    refine v_icmp_le 18 dX9_isLetters_13 (by decide) (by omega) (by omega) (fun c13 => ?_) (fun c13 => ?_)
    · refine w_iconst (v := iI 0) dX9_isLetters_18 rfl ?_
      refine w_istore_n dX9_isLetters_19 rfl rfl ?_
      exact x9_isLetters_l ht ht2 bmo hy hn (by omega) (by omega) (t + 1) 0 (by omega) (by omega) (fun j hj => by omega)
    · refine w_iconst (v := iI 0) dX9_isLetters_16 rfl ?_
      refine v_zret dX9_isLetters_17 rfl ⟨rfl, rfl⟩ (by decide) ?_
      exact hn (fun g => by omega)
/-- byte j of the five numbers -/
def fby (a b c d e : Int32) (j : Nat) : Int := byt (if j < 4 then a else if j < 8 then b else if j < 12 then c else if j < 16 then d else e) (24 - 8 * (j % 4))
theorem fby_bd (a b c d e : Int32) (j : Nat) : 0 ≤ fby a b c d e j ∧ fby a b c d e j < 256 := byt_bd _ _
theorem x11_feed {I : Nat → Nat → Int32} {J : Nat → Nat → Int64} {F : Option Value → zM → Prop} {a b c d e : Int32} {t : Nat} (ht : rd I 1 1 = t) (ht2 : t ≤ 200) (hn : 180 < t → F (some (.int (iI (-1)))) (gM I J)) (h : t ≤ 180 → ∀ I', (∀ id k : Nat, rd I' id k = if id = 1 ∧ k = 1 then (t : Int) + 20 else if id = 2 ∧ t ≤ k ∧ k < t + 20 then fby a b c d e (k - t) else rd I id k) → F (some (.int (iI ((t : Int) + 20)))) (gM I' J)) : Cl yX11_feed kX11_feed [.ref 0, .int a, .int b, .int c, .int d, .int e] (gM I J) F := by
  refine cl_s (by decide) (by decide) (Nat.le_of_ble_eq_true rfl) rt_i ?_
  show Wp _ F 0 [(0, .ref 0), (1, .int a), (2, .int b), (3, .int c), (4, .int d), (5, .int e)] [] _
  refine w_aload_n dX11_feed_0 rfl ?_
  refine v_getR (j := 1) dX11_feed_1 fX11_12 ⟨by decide, rfl⟩ rfl rfl ?_
  refine v_getI dX11_feed_4 fX11_60 ⟨by decide, rfl⟩ (Or.inl rfl) (fun z4 e4 b4 => ?_)
  refine w_bipush (v := iI 20) dX11_feed_7 (by decide) ?_
  refine v_iadd dX11_feed_9 ?_
  refine w_sipush (v := iI 200) dX11_feed_10 (by decide) ?_
  refine v_icmp_le 18 dX11_feed_13 (by decide) (by omega) (by omega) (fun c13 => ?_) (fun c13 => ?_)
  · refine w_aload_n dX11_feed_18 rfl ?_
    refine v_getR (j := 1) dX11_feed_19 fX11_12 ⟨by decide, rfl⟩ rfl rfl ?_
    refine w_iload_n dX11_feed_22 rfl ?_
    refine v_callV1 dX11_feed_23 lX11_64 vX9_append (by decide) rfl rfl ⟨by decide, rfl⟩ (by decide) rfl (by decide) ?_
    refine x9_append ht (by omega) (fun I1 g1 => ?_)
    refine w_aload_n dX11_feed_26 rfl ?_
    refine v_getR (j := 1) dX11_feed_27 fX11_12 ⟨by decide, rfl⟩ rfl rfl ?_
    refine w_iload_n dX11_feed_30 rfl ?_
    refine v_callV1 dX11_feed_31 lX11_64 vX9_append (by decide) rfl rfl ⟨by decide, rfl⟩ (by decide) rfl (by decide) ?_
    refine x9_append (show rd I1 1 1 = ((t + 4 : Nat) : Int) by rw [g1 1 1, if_pos ⟨rfl, rfl⟩]; omega) (by omega) (fun I2 g2 => ?_)
    refine w_aload_n dX11_feed_34 rfl ?_
    refine v_getR (j := 1) dX11_feed_35 fX11_12 ⟨by decide, rfl⟩ rfl rfl ?_
    refine w_iload_n dX11_feed_38 rfl ?_
    refine v_callV1 dX11_feed_39 lX11_64 vX9_append (by decide) rfl rfl ⟨by decide, rfl⟩ (by decide) rfl (by decide) ?_
    refine x9_append (show rd I2 1 1 = ((t + 8 : Nat) : Int) by rw [g2 1 1, if_pos ⟨rfl, rfl⟩]; omega) (by omega) (fun I3 g3 => ?_)
    refine w_aload_n dX11_feed_42 rfl ?_
    refine v_getR (j := 1) dX11_feed_43 fX11_12 ⟨by decide, rfl⟩ rfl rfl ?_
    refine w_iload dX11_feed_46 rfl ?_
    refine v_callV1 dX11_feed_48 lX11_64 vX9_append (by decide) rfl rfl ⟨by decide, rfl⟩ (by decide) rfl (by decide) ?_
    refine x9_append (show rd I3 1 1 = ((t + 12 : Nat) : Int) by rw [g3 1 1, if_pos ⟨rfl, rfl⟩]; omega) (by omega) (fun I4 g4 => ?_)
    refine w_aload_n dX11_feed_51 rfl ?_
    refine v_getR (j := 1) dX11_feed_52 fX11_12 ⟨by decide, rfl⟩ rfl rfl ?_
    refine w_iload dX11_feed_55 rfl ?_
    refine v_callV1 dX11_feed_57 lX11_64 vX9_append (by decide) rfl rfl ⟨by decide, rfl⟩ (by decide) rfl (by decide) ?_
    refine x9_append (show rd I4 1 1 = ((t + 16 : Nat) : Int) by rw [g4 1 1, if_pos ⟨rfl, rfl⟩]; omega) (by omega) (fun I5 g5 => ?_)
    refine w_aload_n dX11_feed_60 rfl ?_
    refine v_getR (j := 1) dX11_feed_61 fX11_12 ⟨by decide, rfl⟩ rfl rfl ?_
    refine v_getI dX11_feed_64 fX11_60 ⟨by decide, rfl⟩ (Or.inl rfl) (fun z64 e64 b64 => ?_)
    refine v_iret dX11_feed_67 rfl ⟨rfl, rfl⟩ ?_
    rw [show z64 = (t : Int) + 20 by rw [e64, g5 1 1, if_pos ⟨rfl, rfl⟩]; omega]
    refine h (by omega) I5 (fun id k => ?_)
    rw [g5 id k, g4 id k, g3 id k, g2 id k, g1 id k]
    by_cases q1 : id = 1 ∧ k = 1
    · simp only [if_pos q1]; omega
    · simp only [if_neg q1]
      by_cases q2 : id = 2
      · subst q2
        unfold fby
        by_cases r0 : t ≤ k
        · by_cases r1 : k < t + 4
          · rw [if_neg (by omega), if_neg (by omega), if_neg (by omega), if_neg (by omega), if_pos (by omega), if_pos (by omega), if_pos (by omega)]
            congr 2; omega
          · by_cases r2 : k < t + 8
            · rw [if_neg (by omega), if_neg (by omega), if_neg (by omega), if_pos (by omega), if_pos (by omega), if_neg (by omega), if_pos (by omega)]
              congr 2; omega
            · by_cases r3 : k < t + 12
              · rw [if_neg (by omega), if_neg (by omega), if_pos (by omega), if_pos (by omega), if_neg (by omega), if_neg (by omega), if_pos (by omega)]
                congr 2; omega
              · by_cases r4 : k < t + 16
                · rw [if_neg (by omega), if_pos (by omega), if_pos (by omega), if_neg (by omega), if_neg (by omega), if_neg (by omega), if_pos (by omega)]
                  congr 2; omega
                · by_cases r5 : k < t + 20
                  · rw [if_pos (by omega), if_pos (by omega), if_neg (by omega), if_neg (by omega), if_neg (by omega), if_neg (by omega)]
                    congr 2; omega
                  · rw [if_neg (by omega), if_neg (by omega), if_neg (by omega), if_neg (by omega), if_neg (by omega), if_neg (by omega)]
        · rw [if_neg (by omega), if_neg (by omega), if_neg (by omega), if_neg (by omega), if_neg (by omega), if_neg (by omega)]
      · simp [q2]
  · refine w_iconst (v := iI (-1)) dX11_feed_16 rfl ?_
    refine v_iret dX11_feed_17 rfl ⟨rfl, rfl⟩ ?_
    exact hn (by omega)
theorem x11_end {I : Nat → Nat → Int32} {J : Nat → Nat → Int64} {F : Option Value → zM → Prop} {t : Nat} {n : Int} (bn : -2147483648 ≤ n ∧ n < 2147483648) (ht : rd I 1 1 = t) (hn : ¬ (0 ≤ n ∧ n ≤ t) → F (some (.int (iI 0))) (gM I J)) (h : 0 ≤ n ∧ n ≤ t → F (some (.int (iI 1))) (gM (wr I 1 1 n) J)) : Cl yX11_end kX11_end [.ref 0, .int (iI n)] (gM I J) F := by
  refine cl_s (by decide) (by decide) (Nat.le_of_ble_eq_true rfl) rt_z ?_
  show Wp _ F 0 [(0, .ref 0), (1, .int (iI n))] [] _
  refine w_iload_n dX11_end_0 rfl ?_
  refine v_if_lt 15 dX11_end_1 (by decide) (by omega) (fun c1 => ?_) (fun c1 => ?_)
  · refine w_iconst (v := iI 0) dX11_end_15 rfl ?_
    refine v_zret dX11_end_16 rfl ⟨rfl, rfl⟩ (by decide) ?_
    exact hn (by omega)
  · refine w_iload_n dX11_end_4 rfl ?_
    refine w_aload_n dX11_end_5 rfl ?_
    refine v_getR (j := 1) dX11_end_6 fX11_12 ⟨by decide, rfl⟩ rfl rfl ?_
    refine v_getI dX11_end_9 fX11_60 ⟨by decide, rfl⟩ (Or.inl rfl) (fun z9 e9 b9 => ?_)
    refine v_icmp_le 17 dX11_end_12 (by decide) (by omega) (by omega) (fun c12 => ?_) (fun c12 => ?_)
    · refine w_aload_n dX11_end_17 rfl ?_
      refine v_getR (j := 1) dX11_end_18 fX11_12 ⟨by decide, rfl⟩ rfl rfl ?_
      refine w_iload_n dX11_end_21 rfl ?_
      refine v_putI dX11_end_22 fX11_60 ⟨by decide, rfl⟩ rfl (Or.inl rfl) ?_
      refine w_iconst (v := iI 1) dX11_end_25 rfl ?_
      refine v_zret dX11_end_26 rfl ⟨rfl, rfl⟩ (by decide) ?_
      exact h (by omega)
    · refine w_iconst (v := iI 0) dX11_end_15 rfl ?_
      refine v_zret dX11_end_16 rfl ⟨rfl, rfl⟩ (by decide) ?_
      exact hn (by omega)
theorem x12_end {I : Nat → Nat → Int32} {J : Nat → Nat → Int64} {F : Option Value → zM → Prop} {t : Nat} {n : Int} (bn : -2147483648 ≤ n ∧ n < 2147483648) (ht : rd I 171 1 = t) (hn : ¬ (0 ≤ n ∧ n ≤ t) → F (some (.int (iI 0))) (gM I J)) (h : 0 ≤ n ∧ n ≤ t → F (some (.int (iI 1))) (gM (wr I 171 1 n) J)) : Cl yX12_end kX12_end [.ref 171, .int (iI n)] (gM I J) F := by
  refine cl_s (by decide) (by decide) (Nat.le_of_ble_eq_true rfl) rt_z ?_
  show Wp _ F 0 [(0, .ref 171), (1, .int (iI n))] [] _
  refine w_iload_n dX12_end_0 rfl ?_
  refine v_if_lt 12 dX12_end_1 (by decide) (by omega) (fun c1 => ?_) (fun c1 => ?_)
  · refine w_iconst (v := iI 0) dX12_end_12 rfl ?_
    refine v_zret dX12_end_13 rfl ⟨rfl, rfl⟩ (by decide) ?_
    exact hn (by omega)
  · refine w_iload_n dX12_end_4 rfl ?_
    refine w_aload_n dX12_end_5 rfl ?_
    refine v_getI dX12_end_6 fX12_65 ⟨by decide, rfl⟩ (Or.inl rfl) (fun z6 e6 b6 => ?_)
    refine v_icmp_le 14 dX12_end_9 (by decide) (by omega) (by omega) (fun c9 => ?_) (fun c9 => ?_)
    · refine w_aload_n dX12_end_14 rfl ?_
      refine w_iload_n dX12_end_15 rfl ?_
      refine v_putI dX12_end_16 fX12_65 ⟨by decide, rfl⟩ rfl (Or.inl rfl) ?_
      refine w_iconst (v := iI 1) dX12_end_19 rfl ?_
      refine v_zret dX12_end_20 rfl ⟨rfl, rfl⟩ (by decide) ?_
      exact h (by omega)
    · refine w_iconst (v := iI 0) dX12_end_12 rfl ?_
      refine v_zret dX12_end_13 rfl ⟨rfl, rfl⟩ (by decide) ?_
      exact hn (by omega)
theorem fby_shr (a b c d e : Int32) (j : Nat) (hj : j < 20) : ((if j < 4 then a else if j < 8 then b else if j < 12 then c else if j < 16 then d else e) >>> (iI (8 * (3 - (j : Int) % 4)) &&& 31)) &&& iI 255 = iI (fby a b c d e j) := by
  have h := byt_shr (if j < 4 then a else if j < 8 then b else if j < 12 then c else if j < 16 then d else e) (j % 4) (by omega)
  rw [Int.natCast_emod] at h
  exact h
theorem x12_feed_l {I : Nat → Nat → Int32} {J : Nat → Nat → Int64} {F : Option Value → zM → Prop} {a b c d e : Int32} {t : Nat} (ht : rd I 171 1 = t) (ht2 : t ≤ 200) (hn : 180 < t → F (some (.int (iI (-1)))) (gM I J)) (h : t ≤ 180 → ∀ I', (∀ id k : Nat, rd I' id k = if id = 171 ∧ k = 1 then (t : Int) + 20 else if id = 172 ∧ t ≤ k ∧ k < t + 20 then fby a b c d e (k - t) else rd I id k) → F (some (.int (iI ((t : Int) + 20)))) (gM I' J)) (h180 : t ≤ 180) : ∀ (n : Nat) (j : Nat) (I' : Nat → Nat → Int32), 20 - j < n → j ≤ 20 → (∀ id k : Nat, rd I' id k = if id = 171 ∧ k = 1 then (t : Int) + j else if id = 172 ∧ t ≤ k ∧ k < t + j then fby a b c d e (k - t) else rd I id k) → Wp (sE kX12_feed RX12) F 18 [(0, .ref 171), (1, .int a), (2, .int b), (3, .int c), (4, .int d), (5, .int e), (6, .int (iI (j : Int)))] [] (gM I' J) := by
  intro n
  induction n with
  | zero =>
    intro j I' hmz hj hI
    exact absurd hmz (Nat.not_lt_zero _)
  | succ n ih =>
    intro j I' hmz hj hI
    have W71 : j < 20 → ∀ w : Int32, w = (if j < 4 then a else if j < 8 then b else if j < 12 then c else if j < 16 then d else e) → Wp (sE kX12_feed RX12) F 71 [(0, .ref 171), (1, .int a), (2, .int b), (3, .int c), (4, .int d), (5, .int e), (6, .int (iI (j : Int)))] [.int w] (gM I' J) := by
      intro hj20 w hw
      refine w_istore dX12_feed_71 rfl rfl ?_
      refine w_aload_n dX12_feed_73 rfl ?_
      refine v_getR (j := 172) dX12_feed_74 fX12_7 ⟨by decide, rfl⟩ rfl rfl ?_
      refine w_aload_n dX12_feed_77 rfl ?_
      refine v_getI dX12_feed_78 fX12_65 ⟨by decide, rfl⟩ (Or.inl rfl) (fun z78 e78 b78 => ?_)
      have f78 : z78 = t + j := by rw [e78, hI 171 1, if_pos ⟨rfl, rfl⟩]
      refine w_iload dX12_feed_81 rfl ?_
      refine w_bipush (v := iI 8) dX12_feed_83 (by decide) ?_
      refine w_iconst (v := iI 3) dX12_feed_85 rfl ?_
      refine w_iload dX12_feed_86 rfl ?_
      refine w_iconst (v := iI 4) dX12_feed_88 rfl ?_
      refine v_irem dX12_feed_89 (by omega) (by omega) ?_
      refine v_isub dX12_feed_90 ?_
      refine v_imul dX12_feed_91 ?_
      refine w_ishr dX12_feed_92 ?_
      refine w_sipush (v := iI 255) dX12_feed_93 (by decide) ?_
      refine w_iand dX12_feed_96 ?_
      rw [hw, fby_shr a b c d e j (by omega)]
      refine v_iast dX12_feed_97 ⟨by decide, rfl⟩ (by omega) (by omega) (by decide) ?_
      refine w_aload_n dX12_feed_98 rfl ?_
      refine w_dup dX12_feed_99 rfl ?_
      refine v_getI dX12_feed_100 fX12_65 ⟨by decide, rfl⟩ (Or.inl rfl) (fun z100 e100 b100 => ?_)
      refine w_iconst (v := iI 1) dX12_feed_103 rfl ?_
      refine v_iadd dX12_feed_104 ?_
      refine v_putI dX12_feed_105 fX12_65 ⟨by decide, rfl⟩ rfl (Or.inl rfl) ?_
      refine v_iinc dX12_feed_108 rfl rfl rfl ?_
      refine w_goto 18 dX12_feed_111 (by decide) ?_
      have e1 : z100 = t + j := by rw [e100, rd_wr_row (by decide), hI 171 1, if_pos ⟨rfl, rfl⟩]
      have e2 : z78 = t + j := by rw [e78, hI 171 1, if_pos ⟨rfl, rfl⟩]
      refine w_keep 7 ?_
      refine ih (j + 1) _ (by omega) (by omega) (fun id k => ?_)
      have b1 := fby_bd a b c d e j
      rw [rd_wr (by omega) (by omega), rd_wr (by omega) (by omega), hI id k]
      by_cases g1 : id = 171 ∧ k = 1
      · rw [if_pos g1, if_pos g1]; omega
      · rw [if_neg g1, if_neg g1, if_neg g1]
        by_cases g2 : id = 172 ∧ k = z78.toNat
        · rw [if_pos g2, if_pos (by omega)]
          congr 1; omega
        · rw [if_neg g2]
          by_cases g3 : id = 172 ∧ t ≤ k ∧ k < t + j
          · rw [if_pos g3, if_pos (by omega)]
          · rw [if_neg g3, if_neg (by omega)]
    refine w_iload dX12_feed_18 rfl ?_
    refine w_bipush (v := iI 20) dX12_feed_20 (by decide) ?_
    refine v_icmp_ge 114 dX12_feed_22 (by decide) (by omega) (by omega) (fun c22 => ?_) (fun c22 => ?_)
    · refine w_aload_n dX12_feed_114 rfl ?_
      refine v_getI dX12_feed_115 fX12_65 ⟨by decide, rfl⟩ (Or.inl rfl) (fun z115 e115 b115 => ?_)
      refine v_iret dX12_feed_118 rfl ⟨rfl, rfl⟩ ?_
      have g : j = 20 := by omega
      subst g
      rw [show z115 = (t : Int) + 20 by rw [e115, hI 171 1, if_pos ⟨rfl, rfl⟩]; rfl]
      exact h (by omega) I' hI
    · refine w_iload dX12_feed_25 rfl ?_
      refine w_iconst (v := iI 4) dX12_feed_27 rfl ?_
      refine v_icmp_ge 35 dX12_feed_28 (by decide) (by omega) (by omega) (fun c28 => ?_) (fun c28 => ?_)
      · refine w_iload dX12_feed_35 rfl ?_
        refine w_bipush (v := iI 8) dX12_feed_37 (by decide) ?_
        refine v_icmp_ge 46 dX12_feed_39 (by decide) (by omega) (by omega) (fun c39 => ?_) (fun c39 => ?_)
        · refine w_iload dX12_feed_46 rfl ?_
          refine w_bipush (v := iI 12) dX12_feed_48 (by decide) ?_
          refine v_icmp_ge 57 dX12_feed_50 (by decide) (by omega) (by omega) (fun c50 => ?_) (fun c50 => ?_)
          · refine w_iload dX12_feed_57 rfl ?_
            refine w_bipush (v := iI 16) dX12_feed_59 (by decide) ?_
            refine v_icmp_ge 69 dX12_feed_61 (by decide) (by omega) (by omega) (fun c61 => ?_) (fun c61 => ?_)
            · refine w_iload dX12_feed_69 rfl ?_
              refine W71 (by omega) _ ?_ 
              first | rw [if_pos (by omega)] | rw [if_neg (by omega), if_pos (by omega)] | rw [if_neg (by omega), if_neg (by omega), if_pos (by omega)] | rw [if_neg (by omega), if_neg (by omega), if_neg (by omega), if_pos (by omega)] | rw [if_neg (by omega), if_neg (by omega), if_neg (by omega), if_neg (by omega)]
            · refine w_iload dX12_feed_64 rfl ?_
              refine w_goto 71 dX12_feed_66 (by decide) ?_
              refine W71 (by omega) _ ?_ 
              first | rw [if_pos (by omega)] | rw [if_neg (by omega), if_pos (by omega)] | rw [if_neg (by omega), if_neg (by omega), if_pos (by omega)] | rw [if_neg (by omega), if_neg (by omega), if_neg (by omega), if_pos (by omega)] | rw [if_neg (by omega), if_neg (by omega), if_neg (by omega), if_neg (by omega)]
          · refine w_iload_n dX12_feed_53 rfl ?_
            refine w_goto 71 dX12_feed_54 (by decide) ?_
            refine W71 (by omega) _ ?_ 
            first | rw [if_pos (by omega)] | rw [if_neg (by omega), if_pos (by omega)] | rw [if_neg (by omega), if_neg (by omega), if_pos (by omega)] | rw [if_neg (by omega), if_neg (by omega), if_neg (by omega), if_pos (by omega)] | rw [if_neg (by omega), if_neg (by omega), if_neg (by omega), if_neg (by omega)]
        · refine w_iload_n dX12_feed_42 rfl ?_
          refine w_goto 71 dX12_feed_43 (by decide) ?_
          refine W71 (by omega) _ ?_ 
          first | rw [if_pos (by omega)] | rw [if_neg (by omega), if_pos (by omega)] | rw [if_neg (by omega), if_neg (by omega), if_pos (by omega)] | rw [if_neg (by omega), if_neg (by omega), if_neg (by omega), if_pos (by omega)] | rw [if_neg (by omega), if_neg (by omega), if_neg (by omega), if_neg (by omega)]
      · refine w_iload_n dX12_feed_31 rfl ?_
        refine w_goto 71 dX12_feed_32 (by decide) ?_
        refine W71 (by omega) _ ?_ 
        first | rw [if_pos (by omega)] | rw [if_neg (by omega), if_pos (by omega)] | rw [if_neg (by omega), if_neg (by omega), if_pos (by omega)] | rw [if_neg (by omega), if_neg (by omega), if_neg (by omega), if_pos (by omega)] | rw [if_neg (by omega), if_neg (by omega), if_neg (by omega), if_neg (by omega)]
theorem x12_feed {I : Nat → Nat → Int32} {J : Nat → Nat → Int64} {F : Option Value → zM → Prop} {a b c d e : Int32} {t : Nat} (ht : rd I 171 1 = t) (ht2 : t ≤ 200) (hn : 180 < t → F (some (.int (iI (-1)))) (gM I J)) (h : t ≤ 180 → ∀ I', (∀ id k : Nat, rd I' id k = if id = 171 ∧ k = 1 then (t : Int) + 20 else if id = 172 ∧ t ≤ k ∧ k < t + 20 then fby a b c d e (k - t) else rd I id k) → F (some (.int (iI ((t : Int) + 20)))) (gM I' J)) : Cl yX12_feed kX12_feed [.ref 171, .int a, .int b, .int c, .int d, .int e] (gM I J) F := by
  refine cl_s (by decide) (by decide) (Nat.le_of_ble_eq_true rfl) rt_i ?_
  show Wp _ F 0 [(0, .ref 171), (1, .int a), (2, .int b), (3, .int c), (4, .int d), (5, .int e)] [] _
  refine w_aload_n dX12_feed_0 rfl ?_
  refine v_getI dX12_feed_1 fX12_65 ⟨by decide, rfl⟩ (Or.inl rfl) (fun z1 e1 b1 => ?_)
  refine w_bipush (v := iI 20) dX12_feed_4 (by decide) ?_
  refine v_iadd dX12_feed_6 ?_
  refine w_sipush (v := iI 200) dX12_feed_7 (by decide) ?_
  refine v_icmp_le 15 dX12_feed_10 (by decide) (by omega) (by omega) (fun c10 => ?_) (fun c10 => ?_)
  · refine w_iconst (v := iI 0) dX12_feed_15 rfl ?_
    refine w_istore dX12_feed_16 rfl rfl ?_
    exact x12_feed_l ht ht2 hn h (by omega) 21 0 I (by omega) (by omega) (fun id k => by
      by_cases g : id = 171 ∧ k = 1
      · rw [if_pos g, g.1, g.2, ht]; omega
      · rw [if_neg g, if_neg (by omega)])
  · refine w_iconst (v := iI (-1)) dX12_feed_13 rfl ?_
    refine v_iret dX12_feed_14 rfl ⟨rfl, rfl⟩ ?_
    exact hn (by omega)
