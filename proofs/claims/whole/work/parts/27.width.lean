/-! known, stands, letter, width: the reference; known: the class -/
abbrev stN (ce tx : Nat → Int) (len : Nat) (w : Int) (x : Int) : Prop := (ink ce → x = cn (stQ ce tx len w) (stM len w)) ∧ (¬ ink ce → x = 0)
abbrev stK (ce tx : Nat → Int) (len : Nat) (w t : Int) (x : Int) : Prop := (ink ce → x = kf (stQ ce tx len w) (fun j => (j : Int) - 5 * w - 10) t (-1000) (stM len w)) ∧ (¬ ink ce → x = -1000)
theorem stN_bd {ce tx : Nat → Int} {len : Nat} {w x : Int} (hw : w ≤ 60) (hl : len ≤ 200) (h : stN ce tx len w x) : 0 ≤ x ∧ x ≤ 1000 := by
  by_cases g : ink ce
  · have h1 := h.1 g
    have h2 := cn_bd (stQ ce tx len w) (stM len w)
    have h3 : stM len w ≤ 510 := by unfold stM; omega
    omega
  · have := h.2 g
    omega
theorem stN_one {ce tx : Nat → Int} {len : Nat} {w x y : Int} (h : stN ce tx len w x) (h' : stN ce tx len w y) : x = y := by
  by_cases g : ink ce
  · rw [h.1 g, h'.1 g]
  · rw [h.2 g, h'.2 g]
theorem stK_one {ce tx : Nat → Int} {len : Nat} {w t x y : Int} (h : stK ce tx len w t x) (h' : stK ce tx len w t y) : x = y := by
  by_cases g : ink ce
  · rw [h.1 g, h'.1 g]
  · rw [h.2 g, h'.2 g]
/-- p is the first width of n from a on with most, m: how often -/
def wdP (f : Int → Int → Prop) (a : Int) : Nat → Int → Int → Prop
  | 0, m, p => m = 0 ∧ p = -1
  | n + 1, m, p => ∃ m0 p0 x, wdP f a n m0 p0 ∧ f (a + n) x ∧ ((m0 < x ∧ m = x ∧ p = a + n) ∨ (x ≤ m0 ∧ m = m0 ∧ p = p0))
theorem wdP_one {f : Int → Int → Prop} (hf : ∀ w x y, f w x → f w y → x = y) {a : Int} : ∀ {n : Nat} {m p m' p' : Int}, wdP f a n m p → wdP f a n m' p' → m = m' ∧ p = p'
  | 0, _, _, _, _, h, h' => ⟨h.1.trans h'.1.symm, h.2.trans h'.2.symm⟩
  | n + 1, _, _, _, _, h, h' => by
    obtain ⟨m0, p0, x, h1, h2, h3⟩ := h
    obtain ⟨m1, p1, y, g1, g2, g3⟩ := h'
    have e1 := wdP_one hf h1 g1
    have e2 := hf _ _ _ h2 g2
    rcases h3 with h3 | h3 <;> rcases g3 with g3 | g3 <;> omega
theorem x12_known_c {I : Nat → Nat → Int32} {J : Nat → Nat → Int64} {F : Option Value → zM → Prop} {t : Nat} (ht : rd I 171 1 = t) (ht2 : t ≤ 200) (hn : ¬ (1 ≤ t ∧ ∀ k, k < t → isLt (rd I 172 k)) → F (some (.int (iI (-1)))) (gM (wr I 171 1 0) J)) (hy : (1 ≤ t ∧ ∀ k, k < t → isLt (rd I 172 k)) → ∀ I', (rd I' 171 1 = 0 ∧ rd I' 171 28 = t ∧ (∀ k, k < t → rd I' 189 k = rd I 172 k) ∧ fq (fun id k => id = 189 ∨ (id = 171 ∧ (k = 1 ∨ k = 28))) I I') → F (some (.int (iI (t : Int)))) (gM I' J)) (hok : (1 ≤ t ∧ ∀ k, k < t → isLt (rd I 172 k))) : ∀ (n : Nat) (k : Nat) (I' : Nat → Nat → Int32), t - k < n → k ≤ t → ((∀ j, j < k → rd I' 189 j = rd I 172 j) ∧ rd I' 171 1 = 0 ∧ fq (fun id k => id = 189 ∨ (id = 171 ∧ k = 1)) I I') → Wp (sE kX12_known RX12) F 46 [(0, .ref 171), (1, .int (iI (t : Int))), (2, .int (iI (k : Int)))] [] (gM I' J) := by
  intro n
  induction n with
  | zero =>
    intro k I' hmz hk hI
    exact absurd hmz (Nat.not_lt_zero _)
  | succ n ih =>
    intro k I' hmz hk hI
    refine w_iload_n dX12_known_46 rfl ?_
    refine w_iload_n dX12_known_47 rfl ?_
    refine v_icmp_ge 69 dX12_known_48 (by decide) (by omega) (by omega) (fun c48 => ?_) (fun c48 => ?_)
    · refine w_aload_n dX12_known_69 rfl ?_
      refine w_iload_n dX12_known_70 rfl ?_
      refine v_putI dX12_known_71 fX12_228 ⟨by decide, rfl⟩ rfl (Or.inl rfl) ?_
      refine w_iload_n dX12_known_74 rfl ?_
      refine v_iret dX12_known_75 rfl ⟨rfl, rfl⟩ ?_
      have g : k = t := by omega
      subst g
      refine hy hok _ ⟨?_, ?_, fun j hj => ?_, fun id j hj => ?_⟩
      · rw [rd_wr_ne (by omega)]; exact hI.2.1
      · exact rd_wr_eq (by omega) (by omega)
      · rw [rd_wr_row (by decide)]; exact hI.1 j hj
      · rw [rd_wr_ne (fun g => hj (Or.inr ⟨g.1, Or.inr g.2⟩))]
        exact hI.2.2 id j (fun g => hj (g.imp (fun z => z) (fun z => ⟨z.1, Or.inl z.2⟩)))
    · refine w_aload_n dX12_known_51 rfl ?_
      refine v_getR (j := 189) dX12_known_52 fX12_62 ⟨by decide, rfl⟩ rfl rfl ?_
      refine w_iload_n dX12_known_55 rfl ?_
      refine w_aload_n dX12_known_56 rfl ?_
      refine v_getR (j := 172) dX12_known_57 fX12_7 ⟨by decide, rfl⟩ rfl rfl ?_
      refine w_iload_n dX12_known_60 rfl ?_
      refine v_iald dX12_known_61 ⟨by decide, rfl⟩ (by omega) (by omega) (by decide) (fun z61 e61 b61 => ?_)
      have f61 : z61 = rd I 172 k := by rw [e61, hI.2.2 _ _ (by omega)]; congr 1
      refine v_iast dX12_known_62 ⟨by decide, rfl⟩ (by omega) (by omega) (by decide) ?_
      refine v_iinc dX12_known_63 rfl rfl rfl ?_
      refine w_goto 46 dX12_known_66 (by decide) ?_
      refine ih (k + 1) _ (by omega) (by omega) ⟨fun j hj => ?_, ?_, fun id j hj => ?_⟩
      · rw [rd_wr (by omega) (by omega)]
        by_cases g : j = k
        · rw [if_pos ⟨rfl, by omega⟩, f61, g]
        · rw [if_neg (by omega)]; exact hI.1 j (by omega)
      · rw [rd_wr_row (by decide)]; exact hI.2.1
      · rw [rd_wr_row (fun g => hj (Or.inl g))]; exact hI.2.2 id j hj
theorem x12_known_l {I : Nat → Nat → Int32} {J : Nat → Nat → Int64} {F : Option Value → zM → Prop} {t : Nat} (ht : rd I 171 1 = t) (ht2 : t ≤ 200) (hn : ¬ (1 ≤ t ∧ ∀ k, k < t → isLt (rd I 172 k)) → F (some (.int (iI (-1)))) (gM (wr I 171 1 0) J)) (hy : (1 ≤ t ∧ ∀ k, k < t → isLt (rd I 172 k)) → ∀ I', (rd I' 171 1 = 0 ∧ rd I' 171 28 = t ∧ (∀ k, k < t → rd I' 189 k = rd I 172 k) ∧ fq (fun id k => id = 189 ∨ (id = 171 ∧ (k = 1 ∨ k = 28))) I I') → F (some (.int (iI (t : Int)))) (gM I' J)) (h1 : 1 ≤ t) : ∀ (n : Nat) (k : Nat), t - k < n → k ≤ t → (∀ j, j < k → isLt (rd I 172 j)) → Wp (sE kX12_known RX12) F 19 [(0, .ref 171), (1, .int (iI (t : Int))), (2, .int (iI (k : Int)))] [] (gM (wr I 171 1 0) J) := by
  intro n
  induction n with
  | zero =>
    intro k hmz hk ha
    exact absurd hmz (Nat.not_lt_zero _)
  | succ n ih =>
    intro k hmz hk ha
    refine w_iload_n dX12_known_19 rfl ?_
    refine w_iload_n dX12_known_20 rfl ?_
    refine v_icmp_ge 44 dX12_known_21 (by decide) (by omega) (by omega) (fun c21 => ?_) (fun c21 => ?_)
    · refine w_iconst (v := iI 0) dX12_known_44 rfl ?_
      refine w_istore_n dX12_known_45 rfl rfl ?_
      exact x12_known_c ht ht2 hn hy ⟨h1, fun j hj => ha j (by omega)⟩ (t + 1) 0 _ (by omega) (by omega) ⟨fun j hj => by omega, rd_wr_eq (by omega) (by omega), fun id j hj => rd_wr_ne (fun g => hj (Or.inr g))⟩
    · refine w_aload_n dX12_known_24 rfl ?_
      refine v_getR (j := 172) dX12_known_25 fX12_7 ⟨by decide, rfl⟩ rfl rfl ?_
      refine w_iload_n dX12_known_28 rfl ?_
      refine v_iald dX12_known_29 ⟨by decide, rfl⟩ (by omega) (by omega) (by decide) (fun z29 e29 b29 => ?_)
      have f29 : z29 = rd I 172 k := by rw [e29, rd_wr_row (by decide)]; congr 1
      refine v_callS1 dX12_known_30 lX12_73 vX12_isLetter (by decide) rfl rfl (Nat.le_of_ble_eq_true rfl) ?_
      refine x12_isLetter (by omega) (fun q30 => ?_) (fun q30 => ?_)
      · refine v_if_ne 38 dX12_known_33 (by decide) (by decide) (fun _ => ?_) (fun q => absurd q (by decide))
        refine v_iinc dX12_known_38 rfl rfl rfl ?_
        refine w_goto 19 dX12_known_41 (by decide) ?_
        refine ih (k + 1) (by omega) (by omega) (fun j hj => ?_)
        rcases Nat.lt_succ_iff_lt_or_eq.mp hj with g | g
        · exact ha j g
        · subst g; rw [← f29]; exact q30
      · refine v_if_ne 38 dX12_known_33 (by decide) (by decide) (fun q => absurd q (by decide)) (fun _ => ?_)
        refine w_iconst (v := iI (-1)) dX12_known_36 rfl ?_
        refine v_iret dX12_known_37 rfl ⟨rfl, rfl⟩ ?_
        refine hn (fun g => q30 ?_)
        rw [f29]
        exact g.2 k (by omega)
theorem x12_known {I : Nat → Nat → Int32} {J : Nat → Nat → Int64} {F : Option Value → zM → Prop} {t : Nat} (ht : rd I 171 1 = t) (ht2 : t ≤ 200) (hn : ¬ (1 ≤ t ∧ ∀ k, k < t → isLt (rd I 172 k)) → F (some (.int (iI (-1)))) (gM (wr I 171 1 0) J)) (hy : (1 ≤ t ∧ ∀ k, k < t → isLt (rd I 172 k)) → ∀ I', (rd I' 171 1 = 0 ∧ rd I' 171 28 = t ∧ (∀ k, k < t → rd I' 189 k = rd I 172 k) ∧ fq (fun id k => id = 189 ∨ (id = 171 ∧ (k = 1 ∨ k = 28))) I I') → F (some (.int (iI (t : Int)))) (gM I' J)) : Cl yX12_known kX12_known [.ref 171] (gM I J) F := by
  refine cl_s (by decide) (by decide) (Nat.le_of_ble_eq_true rfl) rt_i ?_
  show Wp _ F 0 [(0, .ref 171)] [] _
  refine w_aload_n dX12_known_0 rfl ?_
  refine v_getI dX12_known_1 fX12_65 ⟨by decide, rfl⟩ (Or.inl rfl) (fun z1 e1 b1 => ?_)
  have f1 : z1 = t := by rw [e1]; exact ht
  subst f1
  refine w_istore_n dX12_known_4 rfl rfl ?_
  refine w_aload_n dX12_known_5 rfl ?_
  refine w_iconst (v := iI 0) dX12_known_6 rfl ?_
  refine v_putI dX12_known_7 fX12_65 ⟨by decide, rfl⟩ rfl (Or.inl rfl) ?_
  refine w_iload_n dX12_known_10 rfl ?_
  refine w_iconst (v := iI 1) dX12_known_11 rfl ?_
  refine v_icmp_ge 17 dX12_known_12 (by decide) (by omega) (by omega) (fun c12 => ?_) (fun c12 => ?_)
  · refine w_iconst (v := iI 0) dX12_known_17 rfl ?_
    refine w_istore_n dX12_known_18 rfl rfl ?_
    exact x12_known_l ht ht2 hn hy (by omega) (t + 1) 0 (by omega) (by omega) (fun j hj => by omega)
  · refine w_iconst (v := iI (-1)) dX12_known_15 rfl ?_
    refine v_iret dX12_known_16 rfl ⟨rfl, rfl⟩ ?_
    exact hn (by omega)
theorem x12_stands {I : Nat → Nat → Int32} {J : Nat → Nat → Int64} {F : Option Value → zM → Prop} {b w : Int} (bb : -2147483648 ≤ b ∧ b < 2147483648) (bw : -2147483648 ≤ w ∧ w < 2147483648) {len : Nat} (hl : rd I 171 28 = len) (hl2 : len ≤ 200) (hn : (∀ q : Nat, b = q → q < 10 → rd I 173 q ≠ 0 → len = 0 ∨ ¬ (2 ≤ w ∧ w ≤ 60)) → F (some (.int (iI (-1)))) (gM I J)) (hy : ∀ q : Nat, b = q → q < 10 → rd I 173 q ≠ 0 → 0 < len → (2 ≤ w ∧ w ≤ 60) → ∀ (I' : Nat → Nat → Int32) (x : Int), (∀ id k, ¬ (id = 171 ∧ k = 27) → rd I' id k = rd I id k) → stN (fun k => rd I 174 (50 * q + k)) (fun k => rd I 189 k) len w x → F (some (.int (iI x))) (gM I' J)) : Cl yX12_stands kX12_stands [.ref 171, .int (iI b), .int (iI w)] (gM I J) F := by
  refine cl_s (by decide) (by decide) (Nat.le_of_ble_eq_true rfl) rt_i ?_
  show Wp _ F 0 [(0, .ref 171), (1, .int (iI b)), (2, .int (iI w))] [] _
  refine w_aload_n dX12_stands_0 rfl ?_
  refine w_iload_n dX12_stands_1 rfl ?_
  refine v_callV1 dX12_stands_2 lX12_81 vX12_isBit (by decide) rfl rfl ⟨by decide, rfl⟩ (by decide) rfl (Nat.le_of_ble_eq_true rfl) ?_
  refine x12_isBit (by omega) (fun q2 => ?_) (fun q hqe hq hqc => ?_)
  rotate_left
  · refine v_if_eq 25 dX12_stands_5 (by decide) (by decide) (fun q => absurd q (by decide)) (fun _ => ?_)
    refine w_aload_n dX12_stands_8 rfl ?_
    refine v_getI dX12_stands_9 fX12_228 ⟨by decide, rfl⟩ (Or.inl rfl) (fun z9 e9 b9 => ?_)
    refine v_if_eq 25 dX12_stands_12 (by decide) (by omega) (fun c12 => ?_) (fun c12 => ?_)
    · refine w_iconst (v := iI (-1)) dX12_stands_25 rfl ?_
      refine v_iret dX12_stands_26 rfl ⟨rfl, rfl⟩ ?_
      refine hn (fun q' g1 g2 g3 => ?_)
      first | exact absurd (q2 q' g1 g2) g3 | omega
    · refine w_iload_n dX12_stands_15 rfl ?_
      refine w_iconst (v := iI 2) dX12_stands_16 rfl ?_
      refine w_bipush (v := iI 60) dX12_stands_17 (by decide) ?_
      refine v_callS3 dX12_stands_19 lX12_69 vX12_isIn (by decide) rfl rfl (Nat.le_of_ble_eq_true rfl) ?_
      refine x12_isIn (by omega) (by omega) (by omega) (fun q19 => ?_) (fun q19 => ?_)
      · refine v_if_ne 27 dX12_stands_22 (by decide) (by decide) (fun _ => ?_) (fun q => absurd q (by decide))
        refine w_aload_n dX12_stands_27 rfl ?_
        refine w_iload_n dX12_stands_28 rfl ?_
        refine w_iload_n dX12_stands_29 rfl ?_
        refine w_iconst (v := iI (-1)) dX12_stands_30 rfl ?_
        refine v_callV3 dX12_stands_31 lX12_240 vX12_standsBy (by decide) rfl rfl ⟨by decide, rfl⟩ (by decide) rfl (Nat.le_of_ble_eq_true rfl) ?_
        subst hqe
        refine x12_standsBy (len := len) hq hl hl2 (by omega) (by omega) (fun gi I' hcn hx => ?_) (fun gi I' hcn hx => ?_)
        · refine w_pop dX12_stands_34 rfl ?_
          refine w_aload_n dX12_stands_35 rfl ?_
          refine v_getI dX12_stands_36 fX12_216 ⟨by decide, rfl⟩ (Or.inl rfl) (fun z36 e36 b36 => ?_)
          refine v_iret dX12_stands_39 rfl ⟨rfl, rfl⟩ ?_
          exact hy q rfl hq hqc (by omega) (by omega) I' _ hx ⟨fun g => by first | exact absurd g gi | exact e36.trans hcn, fun g => by first | exact absurd gi g | exact e36.trans hcn⟩
        · refine w_pop dX12_stands_34 rfl ?_
          refine w_aload_n dX12_stands_35 rfl ?_
          refine v_getI dX12_stands_36 fX12_216 ⟨by decide, rfl⟩ (Or.inl rfl) (fun z36 e36 b36 => ?_)
          refine v_iret dX12_stands_39 rfl ⟨rfl, rfl⟩ ?_
          exact hy q rfl hq hqc (by omega) (by omega) I' _ hx ⟨fun g => by first | exact absurd g gi | exact e36.trans hcn, fun g => by first | exact absurd gi g | exact e36.trans hcn⟩
      · refine v_if_ne 27 dX12_stands_22 (by decide) (by decide) (fun q => absurd q (by decide)) (fun _ => ?_)
        refine w_iconst (v := iI (-1)) dX12_stands_25 rfl ?_
        refine v_iret dX12_stands_26 rfl ⟨rfl, rfl⟩ ?_
        refine hn (fun q' g1 g2 g3 => ?_)
        first | exact absurd (q2 q' g1 g2) g3 | omega
  · refine v_if_eq 25 dX12_stands_5 (by decide) (by decide) (fun _ => ?_) (fun q => absurd q (by decide))
    refine w_iconst (v := iI (-1)) dX12_stands_25 rfl ?_
    refine v_iret dX12_stands_26 rfl ⟨rfl, rfl⟩ ?_
    refine hn (fun q' g1 g2 g3 => ?_)
    first | exact absurd (q2 q' g1 g2) g3 | omega
theorem x12_letter {I : Nat → Nat → Int32} {J : Nat → Nat → Int64} {F : Option Value → zM → Prop} {b w t : Int} (bb : -2147483648 ≤ b ∧ b < 2147483648) (bw : -2147483648 ≤ w ∧ w < 2147483648) (bt : -2147483648 ≤ t ∧ t < 2147483648) {len : Nat} (hl : rd I 171 28 = len) (hl2 : len ≤ 200) (hn : (∀ q : Nat, b = q → q < 10 → rd I 173 q ≠ 0 → len = 0 ∨ ¬ (2 ≤ w ∧ w ≤ 60) ∨ t < 0) → F (some (.int (iI (-1000)))) (gM I J)) (hy : ∀ q : Nat, b = q → q < 10 → rd I 173 q ≠ 0 → 0 < len → (2 ≤ w ∧ w ≤ 60) → 0 ≤ t → ∀ (I' : Nat → Nat → Int32) (x : Int), (∀ id k, ¬ (id = 171 ∧ k = 27) → rd I' id k = rd I id k) → stK (fun k => rd I 174 (50 * q + k)) (fun k => rd I 189 k) len w t x → F (some (.int (iI x))) (gM I' J)) : Cl yX12_letter kX12_letter [.ref 171, .int (iI b), .int (iI w), .int (iI t)] (gM I J) F := by
  refine cl_s (by decide) (by decide) (Nat.le_of_ble_eq_true rfl) rt_i ?_
  show Wp _ F 0 [(0, .ref 171), (1, .int (iI b)), (2, .int (iI w)), (3, .int (iI t))] [] _
  refine w_aload_n dX12_letter_0 rfl ?_
  refine w_iload_n dX12_letter_1 rfl ?_
  refine v_callV1 dX12_letter_2 lX12_81 vX12_isBit (by decide) rfl rfl ⟨by decide, rfl⟩ (by decide) rfl (Nat.le_of_ble_eq_true rfl) ?_
  refine x12_isBit (by omega) (fun q2 => ?_) (fun q hqe hq hqc => ?_)
  rotate_left
  · refine v_if_eq 29 dX12_letter_5 (by decide) (by decide) (fun q => absurd q (by decide)) (fun _ => ?_)
    refine w_aload_n dX12_letter_8 rfl ?_
    refine v_getI dX12_letter_9 fX12_228 ⟨by decide, rfl⟩ (Or.inl rfl) (fun z9 e9 b9 => ?_)
    refine v_if_eq 29 dX12_letter_12 (by decide) (by omega) (fun c12 => ?_) (fun c12 => ?_)
    · refine w_sipush (v := iI (-1000)) dX12_letter_29 (by decide) ?_
      refine w_goto 42 dX12_letter_32 (by decide) ?_
      refine v_iret dX12_letter_42 rfl ⟨rfl, rfl⟩ ?_
      first | exact hy q rfl hq hqc (by omega) (by omega) (by omega) I' _ hx ⟨fun g => by first | exact absurd g gi | rfl, fun g => by first | exact absurd gi g | rfl⟩ | (refine hn (fun q' g1 g2 g3 => ?_); first | exact absurd (q2 q' g1 g2) g3 | omega)
    · refine w_iload_n dX12_letter_15 rfl ?_
      refine w_iconst (v := iI 2) dX12_letter_16 rfl ?_
      refine w_bipush (v := iI 60) dX12_letter_17 (by decide) ?_
      refine v_callS3 dX12_letter_19 lX12_69 vX12_isIn (by decide) rfl rfl (Nat.le_of_ble_eq_true rfl) ?_
      refine x12_isIn (by omega) (by omega) (by omega) (fun q19 => ?_) (fun q19 => ?_)
      · refine v_if_eq 29 dX12_letter_22 (by decide) (by decide) (fun q => absurd q (by decide)) (fun _ => ?_)
        refine w_iload_n dX12_letter_25 rfl ?_
        refine v_if_ge 35 dX12_letter_26 (by decide) (by omega) (fun c26 => ?_) (fun c26 => ?_)
        · refine w_aload_n dX12_letter_35 rfl ?_
          refine w_iload_n dX12_letter_36 rfl ?_
          refine w_iload_n dX12_letter_37 rfl ?_
          refine w_iload_n dX12_letter_38 rfl ?_
          refine v_callV3 dX12_letter_39 lX12_240 vX12_standsBy (by decide) rfl rfl ⟨by decide, rfl⟩ (by decide) rfl (Nat.le_of_ble_eq_true rfl) ?_
          subst hqe
          refine x12_standsBy (len := len) hq hl hl2 (by omega) (by omega) (fun gi I' hcn hx => ?_) (fun gi I' hcn hx => ?_)
          · refine v_iret dX12_letter_42 rfl ⟨rfl, rfl⟩ ?_
            first | exact hy q rfl hq hqc (by omega) (by omega) (by omega) I' _ hx ⟨fun g => by first | exact absurd g gi | rfl, fun g => by first | exact absurd gi g | rfl⟩ | (refine hn (fun q' g1 g2 g3 => ?_); first | exact absurd (q2 q' g1 g2) g3 | omega)
          · refine v_iret dX12_letter_42 rfl ⟨rfl, rfl⟩ ?_
            first | exact hy q rfl hq hqc (by omega) (by omega) (by omega) I' _ hx ⟨fun g => by first | exact absurd g gi | rfl, fun g => by first | exact absurd gi g | rfl⟩ | (refine hn (fun q' g1 g2 g3 => ?_); first | exact absurd (q2 q' g1 g2) g3 | omega)
        · refine w_sipush (v := iI (-1000)) dX12_letter_29 (by decide) ?_
          refine w_goto 42 dX12_letter_32 (by decide) ?_
          refine v_iret dX12_letter_42 rfl ⟨rfl, rfl⟩ ?_
          first | exact hy q rfl hq hqc (by omega) (by omega) (by omega) I' _ hx ⟨fun g => by first | exact absurd g gi | rfl, fun g => by first | exact absurd gi g | rfl⟩ | (refine hn (fun q' g1 g2 g3 => ?_); first | exact absurd (q2 q' g1 g2) g3 | omega)
      · refine v_if_eq 29 dX12_letter_22 (by decide) (by decide) (fun _ => ?_) (fun q => absurd q (by decide))
        refine w_sipush (v := iI (-1000)) dX12_letter_29 (by decide) ?_
        refine w_goto 42 dX12_letter_32 (by decide) ?_
        refine v_iret dX12_letter_42 rfl ⟨rfl, rfl⟩ ?_
        first | exact hy q rfl hq hqc (by omega) (by omega) (by omega) I' _ hx ⟨fun g => by first | exact absurd g gi | rfl, fun g => by first | exact absurd gi g | rfl⟩ | (refine hn (fun q' g1 g2 g3 => ?_); first | exact absurd (q2 q' g1 g2) g3 | omega)
  · refine v_if_eq 29 dX12_letter_5 (by decide) (by decide) (fun _ => ?_) (fun q => absurd q (by decide))
    refine w_sipush (v := iI (-1000)) dX12_letter_29 (by decide) ?_
    refine w_goto 42 dX12_letter_32 (by decide) ?_
    refine v_iret dX12_letter_42 rfl ⟨rfl, rfl⟩ ?_
    first | exact hy q rfl hq hqc (by omega) (by omega) (by omega) I' _ hx ⟨fun g => by first | exact absurd g gi | rfl, fun g => by first | exact absurd gi g | rfl⟩ | (refine hn (fun q' g1 g2 g3 => ?_); first | exact absurd (q2 q' g1 g2) g3 | omega)
theorem x12_width_l {I : Nat → Nat → Int32} {J : Nat → Nat → Int64} {F : Option Value → zM → Prop} {q : Nat} (hq : q < 10) {len : Nat} (hl : rd I 171 28 = len) (hl2 : len ≤ 200) {a z : Int} (ha : 2 ≤ a ∧ a ≤ 60) (hz : a ≤ z ∧ z ≤ 60) (hy : ∀ (I' : Nat → Nat → Int32) (m p : Int), (∀ id k, ¬ (id = 171 ∧ k = 27) → rd I' id k = rd I id k) → wdP (fun w x => stN (fun k => rd I 174 (50 * q + k)) (fun k => rd I 189 k) len w x) a (z - a + 1).toNat m p → F (some (.int (iI p))) (gM I' J)) : ∀ (n : Nat) (k : Nat) (m : Int) (p : Int) (I' : Nat → Nat → Int32), (z - a + 1).toNat - k < n → (k : Int) ≤ z - a + 1 → (∀ id k, ¬ (id = 171 ∧ k = 27) → rd I' id k = rd I id k) → 0 ≤ m ∧ m ≤ 1000 → wdP (fun w x => stN (fun k => rd I 174 (50 * q + k)) (fun k => rd I 189 k) len w x) a k m p → Wp (sE kX12_width RX12) F 46 [(0, .ref 171), (1, .int (iI (q : Int))), (2, .int (iI a)), (3, .int (iI z)), (4, .int (iI m)), (5, .int (iI p)), (6, .int (iI (a + (k : Int))))] [] (gM I' J) := by
  intro n
  induction n with
  | zero =>
    intro k m p I' hmz hk hx hm hW
    exact absurd hmz (Nat.not_lt_zero _)
  | succ n ih =>
    intro k m p I' hmz hk hx hm hW
    have eC : (fun j => rd I' 174 (50 * q + j)) = (fun k => rd I 174 (50 * q + k)) := funext fun j => hx _ _ (by omega)
    have eT : (fun j => rd I' 189 j) = (fun k => rd I 189 k) := funext fun j => hx _ _ (by omega)
    refine w_iload dX12_width_46 rfl ?_
    refine w_iload_n dX12_width_48 rfl ?_
    refine v_icmp_gt 89 dX12_width_49 (by decide) (by omega) (by omega) (fun c49 => ?_) (fun c49 => ?_)
    · refine w_iload dX12_width_89 rfl ?_
      refine v_iret dX12_width_91 rfl ⟨rfl, rfl⟩ ?_
      refine hy I' m p hx ?_
      rw [show (z - a + 1).toNat = k by omega]
      exact hW
    · refine w_aload_n dX12_width_52 rfl ?_
      refine w_iload_n dX12_width_53 rfl ?_
      refine w_iload dX12_width_54 rfl ?_
      refine w_iconst (v := iI (-1)) dX12_width_56 rfl ?_
      refine v_callV3 dX12_width_57 lX12_240 vX12_standsBy (by decide) rfl rfl ⟨by decide, rfl⟩ (by decide) rfl (Nat.le_of_ble_eq_true rfl) ?_
      refine x12_standsBy (len := len) hq (by rw [hx _ _ (by omega)]; exact hl) hl2 (by omega) (by omega) (fun gi I2 hcn hx2 => ?_) (fun gi I2 hcn hx2 => ?_)
      all_goals (rw [eC] at gi)
      all_goals (try rw [eC, eT] at hcn)
      · refine w_pop dX12_width_60 rfl ?_
        refine w_aload_n dX12_width_61 rfl ?_
        refine v_getI dX12_width_62 fX12_216 ⟨by decide, rfl⟩ (Or.inl rfl) (fun z62 e62 b62 => ?_)
        have f62 : stN (fun k => rd I 174 (50 * q + k)) (fun k => rd I 189 k) len (a + k) z62 := ⟨fun g => by first | exact absurd g gi | exact e62.trans hcn, fun g => by first | exact absurd gi g | exact e62.trans hcn⟩
        have g62 := stN_bd (by omega) hl2 f62
        clear gi
        refine w_iload dX12_width_65 rfl ?_
        refine v_icmp_gt 73 dX12_width_67 (by decide) (by omega) (by omega) (fun c67 => ?_) (fun c67 => ?_)
        · refine w_aload_n dX12_width_73 rfl ?_
          refine v_getI dX12_width_74 fX12_216 ⟨by decide, rfl⟩ (Or.inl rfl) (fun z74 e74 b74 => ?_)
          have f74 : z74 = z62 := e74.trans e62.symm
          refine w_istore dX12_width_77 rfl rfl ?_
          refine w_iload dX12_width_79 rfl ?_
          refine w_istore dX12_width_81 rfl rfl ?_
          refine v_iinc dX12_width_83 rfl rfl rfl ?_
          refine w_goto 46 dX12_width_86 (by decide) ?_
          have e6 : a + (k : Int) + 1 = a + ((k + 1 : Nat) : Int) := by omega
          rw [e6]
          refine ih (k + 1) _ _ _ (by omega) (by omega) (fun id j hj => (hx2 id j hj).trans (hx id j hj)) (by omega) ⟨m, p, z62, hW, f62, ?_⟩
          first | exact Or.inl ⟨by omega, by omega, by omega⟩ | exact Or.inr ⟨by omega, rfl, rfl⟩
        · refine w_goto 83 dX12_width_70 (by decide) ?_
          refine v_iinc dX12_width_83 rfl rfl rfl ?_
          refine w_goto 46 dX12_width_86 (by decide) ?_
          have e6 : a + (k : Int) + 1 = a + ((k + 1 : Nat) : Int) := by omega
          rw [e6]
          refine ih (k + 1) _ _ _ (by omega) (by omega) (fun id j hj => (hx2 id j hj).trans (hx id j hj)) (by omega) ⟨m, p, z62, hW, f62, ?_⟩
          first | exact Or.inl ⟨by omega, by omega, by omega⟩ | exact Or.inr ⟨by omega, rfl, rfl⟩
      · refine w_pop dX12_width_60 rfl ?_
        refine w_aload_n dX12_width_61 rfl ?_
        refine v_getI dX12_width_62 fX12_216 ⟨by decide, rfl⟩ (Or.inl rfl) (fun z62 e62 b62 => ?_)
        have f62 : stN (fun k => rd I 174 (50 * q + k)) (fun k => rd I 189 k) len (a + k) z62 := ⟨fun g => by first | exact absurd g gi | exact e62.trans hcn, fun g => by first | exact absurd gi g | exact e62.trans hcn⟩
        have g62 := stN_bd (by omega) hl2 f62
        clear gi
        refine w_iload dX12_width_65 rfl ?_
        refine v_icmp_gt 73 dX12_width_67 (by decide) (by omega) (by omega) (fun c67 => ?_) (fun c67 => ?_)
        · refine w_aload_n dX12_width_73 rfl ?_
          refine v_getI dX12_width_74 fX12_216 ⟨by decide, rfl⟩ (Or.inl rfl) (fun z74 e74 b74 => ?_)
          have f74 : z74 = z62 := e74.trans e62.symm
          refine w_istore dX12_width_77 rfl rfl ?_
          refine w_iload dX12_width_79 rfl ?_
          refine w_istore dX12_width_81 rfl rfl ?_
          refine v_iinc dX12_width_83 rfl rfl rfl ?_
          refine w_goto 46 dX12_width_86 (by decide) ?_
          have e6 : a + (k : Int) + 1 = a + ((k + 1 : Nat) : Int) := by omega
          rw [e6]
          refine ih (k + 1) _ _ _ (by omega) (by omega) (fun id j hj => (hx2 id j hj).trans (hx id j hj)) (by omega) ⟨m, p, z62, hW, f62, ?_⟩
          first | exact Or.inl ⟨by omega, by omega, by omega⟩ | exact Or.inr ⟨by omega, rfl, rfl⟩
        · refine w_goto 83 dX12_width_70 (by decide) ?_
          refine v_iinc dX12_width_83 rfl rfl rfl ?_
          refine w_goto 46 dX12_width_86 (by decide) ?_
          have e6 : a + (k : Int) + 1 = a + ((k + 1 : Nat) : Int) := by omega
          rw [e6]
          refine ih (k + 1) _ _ _ (by omega) (by omega) (fun id j hj => (hx2 id j hj).trans (hx id j hj)) (by omega) ⟨m, p, z62, hW, f62, ?_⟩
          first | exact Or.inl ⟨by omega, by omega, by omega⟩ | exact Or.inr ⟨by omega, rfl, rfl⟩
theorem x12_width {I : Nat → Nat → Int32} {J : Nat → Nat → Int64} {F : Option Value → zM → Prop} {b a z : Int} (bb : -2147483648 ≤ b ∧ b < 2147483648) (ba : -2147483648 ≤ a ∧ a < 2147483648) (bz : -2147483648 ≤ z ∧ z < 2147483648) {len : Nat} (hl : rd I 171 28 = len) (hl2 : len ≤ 200) (hn : (∀ q : Nat, b = q → q < 10 → rd I 173 q ≠ 0 → len = 0 ∨ ¬ (2 ≤ a ∧ a ≤ 60 ∧ a ≤ z ∧ z ≤ 60)) → F (some (.int (iI (-1)))) (gM I J)) (hy : ∀ q : Nat, b = q → q < 10 → rd I 173 q ≠ 0 → 0 < len → (2 ≤ a ∧ a ≤ 60 ∧ a ≤ z ∧ z ≤ 60) → ∀ (I' : Nat → Nat → Int32) (m p : Int), (∀ id k, ¬ (id = 171 ∧ k = 27) → rd I' id k = rd I id k) → wdP (fun w x => stN (fun k => rd I 174 (50 * q + k)) (fun k => rd I 189 k) len w x) a (z - a + 1).toNat m p → F (some (.int (iI p))) (gM I' J)) : Cl yX12_width kX12_width [.ref 171, .int (iI b), .int (iI a), .int (iI z)] (gM I J) F := by
  refine cl_s (by decide) (by decide) (Nat.le_of_ble_eq_true rfl) rt_i ?_
  show Wp _ F 0 [(0, .ref 171), (1, .int (iI b)), (2, .int (iI a)), (3, .int (iI z))] [] _
  refine w_aload_n dX12_width_0 rfl ?_
  refine w_iload_n dX12_width_1 rfl ?_
  refine v_callV1 dX12_width_2 lX12_81 vX12_isBit (by decide) rfl rfl ⟨by decide, rfl⟩ (by decide) rfl (Nat.le_of_ble_eq_true rfl) ?_
  refine x12_isBit (by omega) (fun q2 => ?_) (fun q hqe hq hqc => ?_)
  rotate_left
  · refine v_if_eq 35 dX12_width_5 (by decide) (by decide) (fun q => absurd q (by decide)) (fun _ => ?_)
    refine w_aload_n dX12_width_8 rfl ?_
    refine v_getI dX12_width_9 fX12_228 ⟨by decide, rfl⟩ (Or.inl rfl) (fun z9 e9 b9 => ?_)
    refine v_if_eq 35 dX12_width_12 (by decide) (by omega) (fun c12 => ?_) (fun c12 => ?_)
    · refine w_iconst (v := iI (-1)) dX12_width_35 rfl ?_
      refine v_iret dX12_width_36 rfl ⟨rfl, rfl⟩ ?_
      refine hn (fun q' g1 g2 g3 => ?_)
      first | exact absurd (q2 q' g1 g2) g3 | omega
    · refine w_iload_n dX12_width_15 rfl ?_
      refine w_iconst (v := iI 2) dX12_width_16 rfl ?_
      refine w_bipush (v := iI 60) dX12_width_17 (by decide) ?_
      refine v_callS3 dX12_width_19 lX12_69 vX12_isIn (by decide) rfl rfl (Nat.le_of_ble_eq_true rfl) ?_
      refine x12_isIn (by omega) (by omega) (by omega) (fun q19 => ?_) (fun q19 => ?_)
      · refine v_if_eq 35 dX12_width_22 (by decide) (by decide) (fun q => absurd q (by decide)) (fun _ => ?_)
        refine w_iload_n dX12_width_25 rfl ?_
        refine w_iload_n dX12_width_26 rfl ?_
        refine w_bipush (v := iI 60) dX12_width_27 (by decide) ?_
        refine v_callS3 dX12_width_29 lX12_69 vX12_isIn (by decide) rfl rfl (Nat.le_of_ble_eq_true rfl) ?_
        refine x12_isIn (by omega) (by omega) (by omega) (fun q29 => ?_) (fun q29 => ?_)
        · refine v_if_ne 37 dX12_width_32 (by decide) (by decide) (fun _ => ?_) (fun q => absurd q (by decide))
          refine w_iconst (v := iI 0) dX12_width_37 rfl ?_
          refine w_istore dX12_width_38 rfl rfl ?_
          refine w_iconst (v := iI (-1)) dX12_width_40 rfl ?_
          refine w_istore dX12_width_41 rfl rfl ?_
          refine w_iload_n dX12_width_43 rfl ?_
          refine w_istore dX12_width_44 rfl rfl ?_
          subst hqe
          have L := x12_width_l (F := F) (J := J) (I := I) (q := q) (len := len) (a := a) (z := z) hq hl hl2 (by omega) (by omega) (hy q rfl hq hqc (by omega) (by omega)) ((z - a + 1).toNat + 1) 0 0 (-1) I (by omega) (by omega) (fun _ _ _ => rfl) (by omega) ⟨rfl, rfl⟩
          rw [show a + ((0 : Nat) : Int) = a by omega] at L
          exact L
        · refine v_if_ne 37 dX12_width_32 (by decide) (by decide) (fun q => absurd q (by decide)) (fun _ => ?_)
          refine w_iconst (v := iI (-1)) dX12_width_35 rfl ?_
          refine v_iret dX12_width_36 rfl ⟨rfl, rfl⟩ ?_
          refine hn (fun q' g1 g2 g3 => ?_)
          first | exact absurd (q2 q' g1 g2) g3 | omega
      · refine v_if_eq 35 dX12_width_22 (by decide) (by decide) (fun _ => ?_) (fun q => absurd q (by decide))
        refine w_iconst (v := iI (-1)) dX12_width_35 rfl ?_
        refine v_iret dX12_width_36 rfl ⟨rfl, rfl⟩ ?_
        refine hn (fun q' g1 g2 g3 => ?_)
        first | exact absurd (q2 q' g1 g2) g3 | omega
  · refine v_if_eq 35 dX12_width_5 (by decide) (by decide) (fun _ => ?_) (fun q => absurd q (by decide))
    refine w_iconst (v := iI (-1)) dX12_width_35 rfl ?_
    refine v_iret dX12_width_36 rfl ⟨rfl, rfl⟩ ?_
    refine hn (fun q' g1 g2 g3 => ?_)
    first | exact absurd (q2 q' g1 g2) g3 | omega
