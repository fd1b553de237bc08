/-! sheet, whose, words, read: the reference -/
theorem x12_sheet {I : Nat → Nat → Int32} {J : Nat → Nat → Int64} {F : Option Value → zM → Prop} (hR : ∀ b, b < 10 → -1000 ≤ rd I 178 b ∧ rd I 178 b ≤ 1000) (hC : ∀ b, b < 10 → -1000 ≤ rd I 179 b ∧ rd I 179 b ≤ 1000) (hok : okL I 10) {r c : Int} (br : -2147483648 ≤ r ∧ r < 2147483648) (bc : -2147483648 ≤ c ∧ c < 2147483648) (hn : ¬ inS r c → F (some (.int (iI (-1)))) (gM I J)) (hy : inS r c → ∀ I', fq S3 I I' → F (some (.int (iI (lS I r c)))) (gM I' J)) : Cl yX12_sheet kX12_sheet [.ref 171, .int (iI r), .int (iI c)] (gM I J) F := by
  refine cl_s (by decide) (by decide) (Nat.le_of_ble_eq_true rfl) rt_i ?_
  show Wp _ F 0 [(0, .ref 171), (1, .int (iI r)), (2, .int (iI c))] [] _
  refine w_iload_n dX12_sheet_0 rfl ?_
  refine w_iload_n dX12_sheet_1 rfl ?_
  refine v_callS2 dX12_sheet_2 lX12_152 vX12_isPlace (by decide) rfl rfl (Nat.le_of_ble_eq_true rfl) ?_
  refine x12_isPlace (by omega) (by omega) (fun q2 => ?_) (fun q2 => ?_)
  · refine v_if_ne 10 dX12_sheet_5 (by decide) (by decide) (fun _ => ?_) (fun q => absurd q (by decide))
    refine w_aload_n dX12_sheet_10 rfl ?_
    refine v_callV0 dX12_sheet_11 lX12_136 vX12_laysAll (by decide) rfl rfl ⟨by decide, rfl⟩ (by decide) rfl (Nat.le_of_ble_eq_true rfl) ?_
    refine x12_laysAll hR hC (fun q11 I1 s1 m1 => ?_) (fun q11 I1 m1 => absurd hok q11)
    refine w_pop dX12_sheet_14 rfl ?_
    refine w_aload_n dX12_sheet_15 rfl ?_
    refine v_getR (j := 185) dX12_sheet_16 fX12_50 ⟨by decide, rfl⟩ rfl rfl ?_
    refine w_bipush (v := iI 32) dX12_sheet_19 (by decide) ?_
    refine w_iload_n dX12_sheet_21 rfl ?_
    refine v_imul dX12_sheet_22 ?_
    refine w_iload_n dX12_sheet_23 rfl ?_
    refine v_iadd dX12_sheet_24 ?_
    refine v_iald dX12_sheet_25 ⟨by decide, rfl⟩ (by have g2 : 0 ≤ r ∧ r < 16 ∧ 0 ≤ c ∧ c < 32 := q2; omega) (by have g2 : 0 ≤ r ∧ r < 16 ∧ 0 ≤ c ∧ c < 32 := q2; omega) (by decide) (fun z25 e25 b25 => ?_)
    refine v_iret dX12_sheet_26 rfl ⟨rfl, rfl⟩ ?_
    have g2 : 0 ≤ r ∧ r < 16 ∧ 0 ≤ c ∧ c < 32 := q2
    rw [show z25 = lS I r c by rw [e25, ← rsAt_ls hok s1, rsAt_in ⟨g2.1, g2.2.1⟩ g2.2.2]]
    exact hy q2 I1 (fq_2 m1)
  · refine v_if_ne 10 dX12_sheet_5 (by decide) (by decide) (fun q => absurd q (by decide)) (fun _ => ?_)
    refine w_iconst (v := iI (-1)) dX12_sheet_8 rfl ?_
    refine v_iret dX12_sheet_9 rfl ⟨rfl, rfl⟩ ?_
    exact hn q2
theorem x12_whose {I : Nat → Nat → Int32} {J : Nat → Nat → Int64} {F : Option Value → zM → Prop} (hR : ∀ b, b < 10 → -1000 ≤ rd I 178 b ∧ rd I 178 b ≤ 1000) (hC : ∀ b, b < 10 → -1000 ≤ rd I 179 b ∧ rd I 179 b ≤ 1000) (hok : okL I 10) {r c : Int} (br : -2147483648 ≤ r ∧ r < 2147483648) (bc : -2147483648 ≤ c ∧ c < 2147483648) (hn : ¬ inS r c → F (some (.int (iI (-1)))) (gM I J)) (hy : inS r c → ∀ I', fq S3 I I' → F (some (.int (iI (lO I r c)))) (gM I' J)) : Cl yX12_whose kX12_whose [.ref 171, .int (iI r), .int (iI c)] (gM I J) F := by
  refine cl_s (by decide) (by decide) (Nat.le_of_ble_eq_true rfl) rt_i ?_
  show Wp _ F 0 [(0, .ref 171), (1, .int (iI r)), (2, .int (iI c))] [] _
  refine w_iload_n dX12_whose_0 rfl ?_
  refine w_iload_n dX12_whose_1 rfl ?_
  refine v_callS2 dX12_whose_2 lX12_152 vX12_isPlace (by decide) rfl rfl (Nat.le_of_ble_eq_true rfl) ?_
  refine x12_isPlace (by omega) (by omega) (fun q2 => ?_) (fun q2 => ?_)
  · refine v_if_ne 10 dX12_whose_5 (by decide) (by decide) (fun _ => ?_) (fun q => absurd q (by decide))
    refine w_aload_n dX12_whose_10 rfl ?_
    refine v_callV0 dX12_whose_11 lX12_136 vX12_laysAll (by decide) rfl rfl ⟨by decide, rfl⟩ (by decide) rfl (Nat.le_of_ble_eq_true rfl) ?_
    refine x12_laysAll hR hC (fun q11 I1 s1 m1 => ?_) (fun q11 I1 m1 => absurd hok q11)
    refine w_pop dX12_whose_14 rfl ?_
    refine w_aload_n dX12_whose_15 rfl ?_
    refine v_getR (j := 186) dX12_whose_16 fX12_53 ⟨by decide, rfl⟩ rfl rfl ?_
    refine w_bipush (v := iI 32) dX12_whose_19 (by decide) ?_
    refine w_iload_n dX12_whose_21 rfl ?_
    refine v_imul dX12_whose_22 ?_
    refine w_iload_n dX12_whose_23 rfl ?_
    refine v_iadd dX12_whose_24 ?_
    refine v_iald dX12_whose_25 ⟨by decide, rfl⟩ (by have g2 : 0 ≤ r ∧ r < 16 ∧ 0 ≤ c ∧ c < 32 := q2; omega) (by have g2 : 0 ≤ r ∧ r < 16 ∧ 0 ≤ c ∧ c < 32 := q2; omega) (by decide) (fun z25 e25 b25 => ?_)
    refine v_iret dX12_whose_26 rfl ⟨rfl, rfl⟩ ?_
    have g2 : 0 ≤ r ∧ r < 16 ∧ 0 ≤ c ∧ c < 32 := q2
    rw [show z25 = lO I r c by rw [e25, roAt_ls s1 q2]]
    exact hy q2 I1 (fq_2 m1)
  · refine v_if_ne 10 dX12_whose_5 (by decide) (by decide) (fun q => absurd q (by decide)) (fun _ => ?_)
    refine w_iconst (v := iI (-1)) dX12_whose_8 rfl ?_
    refine v_iret dX12_whose_9 rfl ⟨rfl, rfl⟩ ?_
    exact hn q2
theorem x12_hasRun {I : Nat → Nat → Int32} {J : Nat → Nat → Int64} {F : Option Value → zM → Prop} (hR : ∀ b, b < 10 → -1000 ≤ rd I 178 b ∧ rd I 178 b ≤ 1000) (hC : ∀ b, b < 10 → -1000 ≤ rd I 179 b ∧ rd I 179 b ≤ 1000) (hok : okL I 10) {r c : Int} (br : -2147483648 ≤ r ∧ r < 2147483648) (bc : -2147483648 ≤ c ∧ c < 2147483648) (hf : ¬ (inS r c ∧ isTx (lS I r c)) → ∀ I', fq S3 I I' → F (some (.int (iI 0))) (gM I' J)) (ht : (inS r c ∧ isTx (lS I r c)) → ∀ a e : Int, isRun (fun x => lS I r x) a e → a ≤ c → c < e → 0 ≤ a → e ≤ 32 → ∀ I', fq S3 I I' → rd I' 171 17 = 32 * r + a → rd I' 171 18 = 32 * r + e → rd I' 171 19 = c44 (lS I r (a - 1)) → rd I' 171 20 = c44 (lS I r e) → (∀ y x, rsAt I' y x = lS I y x) → F (some (.int (iI 1))) (gM I' J)) : Cl yX12_hasRun kX12_hasRun [.ref 171, .int (iI r), .int (iI c)] (gM I J) F := by
  refine cl_s (by decide) (by decide) (Nat.le_of_ble_eq_true rfl) rt_z ?_
  show Wp _ F 0 [(0, .ref 171), (1, .int (iI r)), (2, .int (iI c))] [] _
  refine w_iload_n dX12_hasRun_0 rfl ?_
  refine w_iload_n dX12_hasRun_1 rfl ?_
  refine v_callS2 dX12_hasRun_2 lX12_152 vX12_isPlace (by decide) rfl rfl (Nat.le_of_ble_eq_true rfl) ?_
  refine x12_isPlace (by omega) (by omega) (fun q2 => ?_) (fun q2 => ?_)
  · refine v_if_ne 10 dX12_hasRun_5 (by decide) (by decide) (fun _ => ?_) (fun q => absurd q (by decide))
    refine w_aload_n dX12_hasRun_10 rfl ?_
    refine v_callV0 dX12_hasRun_11 lX12_136 vX12_laysAll (by decide) rfl rfl ⟨by decide, rfl⟩ (by decide) rfl (Nat.le_of_ble_eq_true rfl) ?_
    refine x12_laysAll hR hC (fun q11 I1 s1 m1 => ?_) (fun q11 I1 m1 => absurd hok q11)
    refine w_pop dX12_hasRun_14 rfl ?_
    refine w_aload_n dX12_hasRun_15 rfl ?_
    refine w_bipush (v := iI 32) dX12_hasRun_16 (by decide) ?_
    refine w_iload_n dX12_hasRun_18 rfl ?_
    refine v_imul dX12_hasRun_19 ?_
    refine w_iload_n dX12_hasRun_20 rfl ?_
    refine v_iadd dX12_hasRun_21 ?_
    refine v_callV1 dX12_hasRun_22 lX12_106 vX12_isInk (by decide) rfl rfl ⟨by decide, rfl⟩ (by decide) rfl (Nat.le_of_ble_eq_true rfl) ?_
    have g2 : 0 ≤ r ∧ r < 16 ∧ 0 ≤ c ∧ c < 32 := q2
    refine x12_isInk (by omega) (fun q22 => ?_) (fun q22 => ?_)
    all_goals rw [← rsAt_in ⟨g2.1, g2.2.1⟩ g2.2.2, rsAt_ls hok s1] at q22
    · refine v_if_ne 30 dX12_hasRun_25 (by decide) (by decide) (fun _ => ?_) (fun q => absurd q (by decide))
      refine w_aload_n dX12_hasRun_30 rfl ?_
      refine w_iload_n dX12_hasRun_31 rfl ?_
      refine w_iload_n dX12_hasRun_32 rfl ?_
      refine v_callV2 dX12_hasRun_33 lX12_128 vX12_runAt (by decide) rfl rfl ⟨by decide, rfl⟩ (by decide) rfl (Nat.le_of_ble_eq_true rfl) ?_
      refine x12_runAt ⟨g2.1, g2.2.1⟩ g2.2.2 (by rw [rsAt_ls hok s1]; exact q22) (fun a e hr u1 u2 u3 u4 => ?_)
      rw [show (fun x => rsAt I1 r x) = (fun x => lS I r x) from funext fun x => rsAt_ls hok s1 r x] at hr
      rw [rsAt_ls hok s1, rsAt_ls hok s1]
      refine w_iconst (v := iI 1) dX12_hasRun_36 rfl ?_
      refine v_zret dX12_hasRun_37 rfl ⟨rfl, rfl⟩ (by decide) ?_
      have cc1 : ∀ v, 0 ≤ c44 v ∧ c44 v ≤ 1 := fun v => by unfold c44; split <;> omega
      have cc2 := cc1 (lS I r (a - 1))
      have cc3 := cc1 (lS I r e)
      refine ht ⟨q2, q22⟩ a e hr u1 u2 u3 u4 _ (fun id k g => ?_) ?_ ?_ ?_ ?_ (fun y x => ?_)
      · rw [rd_wr_ne (by unfold S3 at g; omega), rd_wr_ne (by unfold S3 at g; omega), rd_wr_ne (by unfold S3 at g; omega), rd_wr_ne (by unfold S3 at g; omega)]
        exact fq_2 m1 id k g
      · rw [rd_wr_ne (by omega), rd_wr_eq (by omega) (by omega)]
      · rw [rd_wr_eq (by omega) (by omega)]
      · rw [rd_wr_ne (by omega), rd_wr_ne (by omega), rd_wr_ne (by omega), rd_wr_eq (by omega) (by omega)]
      · rw [rd_wr_ne (by omega), rd_wr_ne (by omega), rd_wr_eq (by omega) (by omega)]
      · refine (rsAt_cong (I := I1) (fun k _ => ?_) y x).trans (rsAt_ls hok s1 y x)
        rw [rd_wr_row (by decide), rd_wr_row (by decide), rd_wr_row (by decide), rd_wr_row (by decide)]
    · refine v_if_ne 30 dX12_hasRun_25 (by decide) (by decide) (fun q => absurd q (by decide)) (fun _ => ?_)
      refine w_iconst (v := iI 0) dX12_hasRun_28 rfl ?_
      refine v_zret dX12_hasRun_29 rfl ⟨rfl, rfl⟩ (by decide) ?_
      exact hf (fun g => q22 g.2) I1 (fq_2 m1)
  · refine v_if_ne 10 dX12_hasRun_5 (by decide) (by decide) (fun q => absurd q (by decide)) (fun _ => ?_)
    refine w_iconst (v := iI 0) dX12_hasRun_8 rfl ?_
    refine v_zret dX12_hasRun_9 rfl ⟨rfl, rfl⟩ (by decide) ?_
    exact hf (fun g => q2 g.1) I (fun _ _ _ => rfl)
theorem x12_canBeL {I : Nat → Nat → Int32} {J : Nat → Nat → Int64} {F : Option Value → zM → Prop} {r a e : Int} (hr0 : 0 ≤ r ∧ r < 16) (hrun : isRun (fun x => lS I r x) a e) (ha0 : 0 ≤ a) (he32 : e ≤ 32) {I' : Nat → Nat → Int32} (hx : fq S3 I I') (h17 : rd I' 171 17 = 32 * r + a) (h18 : rd I' 171 18 = 32 * r + e) (h19 : rd I' 171 19 = c44 (lS I r (a - 1))) (h20 : rd I' 171 20 = c44 (lS I r e)) (hrs : ∀ y x, rsAt I' y x = lS I y x) {w : Nat} (hw12 : w < 12) (hsz : 1 ≤ rd I 183 w ∧ rd I 183 w ≤ 10) (ht : (cBb I (fun x => lS I r x) a e) w = true → F (some (.int (iI 1))) (gM I' J)) (hf : ¬ (cBb I (fun x => lS I r x) a e) w = true → F (some (.int (iI 0))) (gM I' J)) : Cl yX12_canBe kX12_canBe [.ref 171, .int (iI (w : Int))] (gM I' J) F := by
  have e1 : (fun j : Nat => rsAt I' r (a + j)) = (fun j : Nat => lS I r (a + j)) := funext fun j => hrs r (a + j)
  refine x12_canBe hr0 ha0 hrun.1 he32 h17 h18 (fun x x1 x2 => by rw [hrs]; exact hrun.2.1 x x1 x2) (by rw [hrs]; exact h19) (by rw [hrs]; exact h20) hw12 (by rw [hx 183 w (by unfold S3; omega)]; exact hsz) (fun g => ht ?_) (fun g => hf ?_)
  · rw [e1, hrs, hrs, cB_cong (I := I) (fun k => hx 183 k (by unfold S3; omega)) (fun k => hx 184 k (by unfold S3; omega))] at g
    exact cBb_iff.mpr g
  · rw [e1, hrs, hrs, cB_cong (I := I) (fun k => hx 183 k (by unfold S3; omega)) (fun k => hx 184 k (by unfold S3; omega))] at g
    exact fun q => g (cBb_iff.mp q)
theorem x12_words_l {I : Nat → Nat → Int32} {J : Nat → Nat → Int64} {F : Option Value → zM → Prop} {wn : Nat} (hw : rd I 171 12 = wn) (hw2 : wn ≤ 12) (hsz : ∀ w, w < wn → 1 ≤ rd I 183 w ∧ rd I 183 w ≤ 10) {r c a e : Int} (hr0 : 0 ≤ r ∧ r < 16) (hrun : isRun (fun x => lS I r x) a e) (ha0 : 0 ≤ a) (he32 : e ≤ 32) {I' : Nat → Nat → Int32} (hx : fq S3 I I') (h17 : rd I' 171 17 = 32 * r + a) (h18 : rd I' 171 18 = 32 * r + e) (h19 : rd I' 171 19 = c44 (lS I r (a - 1))) (h20 : rd I' 171 20 = c44 (lS I r e)) (hrs : ∀ y x, rsAt I' y x = lS I y x) (hy : F (some (.int (iI (cn (cBb I (fun x => lS I r x) a e) wn)))) (gM I' J)) : ∀ (nz : Nat) (k : Nat), wn - k < nz → k ≤ wn → Wp (sE kX12_words RX12) F 16 [(0, .ref 171), (1, .int (iI r)), (2, .int (iI c)), (3, .int (iI (cn (cBb I (fun x => lS I r x) a e) k))), (4, .int (iI (k : Int)))] [] (gM I' J) := by
  intro nz
  induction nz with
  | zero =>
    intro k hmz hk
    exact absurd hmz (Nat.not_lt_zero _)
  | succ nz ih =>
    intro k hmz hk
    refine w_iload dX12_words_16 rfl ?_
    refine w_aload_n dX12_words_18 rfl ?_
    refine v_getI dX12_words_19 fX12_83 ⟨by decide, rfl⟩ (Or.inl rfl) (fun z19 e19 b19 => ?_)
    have f19 : z19 = wn := by rw [e19, hx _ _ (by unfold S3; omega)]; exact hw
    refine v_icmp_ge 43 dX12_words_22 (by decide) (by omega) (by omega) (fun c22 => ?_) (fun c22 => ?_)
    · refine w_iload_n dX12_words_43 rfl ?_
      refine v_iret dX12_words_44 rfl ⟨rfl, rfl⟩ ?_
      have g : k = wn := by omega
      subst g
      exact hy
    · refine w_aload_n dX12_words_25 rfl ?_
      refine w_iload dX12_words_26 rfl ?_
      refine v_callV1 dX12_words_28 lX12_125 vX12_canBe (by decide) rfl rfl ⟨by decide, rfl⟩ (by decide) rfl (Nat.le_of_ble_eq_true rfl) ?_
      refine x12_canBeL hr0 hrun ha0 he32 hx h17 h18 h19 h20 hrs (w := k) (by omega) (hsz k (by omega)) (fun q28 => ?_) (fun q28 => ?_)
      · refine v_if_eq 37 dX12_words_31 (by decide) (by decide) (fun q => absurd q (by decide)) (fun _ => ?_)
        refine v_iinc dX12_words_34 rfl rfl rfl ?_
        refine v_iinc dX12_words_37 rfl rfl rfl ?_
        refine w_goto 16 dX12_words_40 (by decide) ?_
        have e1 : cn (cBb I (fun x => lS I r x) a e) (k + 1) = cn (cBb I (fun x => lS I r x) a e) k + (if (cBb I (fun x => lS I r x) a e) k = true then 1 else 0) := by
          rw [cn]
        rw [show (k : Int) + 1 = ((k + 1 : Nat) : Int) by omega]
        first
          | (rw [if_pos q28] at e1
             rw [← e1]
             exact ih (k + 1) (by omega) (by omega))
          | (rw [if_neg q28, Int.add_zero] at e1
             rw [← e1]
             exact ih (k + 1) (by omega) (by omega))
      · refine v_if_eq 37 dX12_words_31 (by decide) (by decide) (fun _ => ?_) (fun q => absurd q (by decide))
        refine v_iinc dX12_words_37 rfl rfl rfl ?_
        refine w_goto 16 dX12_words_40 (by decide) ?_
        have e1 : cn (cBb I (fun x => lS I r x) a e) (k + 1) = cn (cBb I (fun x => lS I r x) a e) k + (if (cBb I (fun x => lS I r x) a e) k = true then 1 else 0) := by
          rw [cn]
        rw [show (k : Int) + 1 = ((k + 1 : Nat) : Int) by omega]
        first
          | (rw [if_pos q28] at e1
             rw [← e1]
             exact ih (k + 1) (by omega) (by omega))
          | (rw [if_neg q28, Int.add_zero] at e1
             rw [← e1]
             exact ih (k + 1) (by omega) (by omega))
theorem x12_words {I : Nat → Nat → Int32} {J : Nat → Nat → Int64} {F : Option Value → zM → Prop} (hR : ∀ b, b < 10 → -1000 ≤ rd I 178 b ∧ rd I 178 b ≤ 1000) (hC : ∀ b, b < 10 → -1000 ≤ rd I 179 b ∧ rd I 179 b ≤ 1000) (hok : okL I 10) {wn : Nat} (hw : rd I 171 12 = wn) (hw2 : wn ≤ 12) (hsz : ∀ w, w < wn → 1 ≤ rd I 183 w ∧ rd I 183 w ≤ 10) {r c : Int} (br : -2147483648 ≤ r ∧ r < 2147483648) (bc : -2147483648 ≤ c ∧ c < 2147483648) (hn : ¬ (inS r c ∧ isTx (lS I r c)) → ∀ I', fq S3 I I' → F (some (.int (iI (-1)))) (gM I' J)) (hy : (inS r c ∧ isTx (lS I r c)) → ∀ a e : Int, isRun (fun x => lS I r x) a e → a ≤ c → c < e → ∀ I', fq S3 I I' → F (some (.int (iI (cn (cBb I (fun x => lS I r x) a e) wn)))) (gM I' J)) : Cl yX12_words kX12_words [.ref 171, .int (iI r), .int (iI c)] (gM I J) F := by
  refine cl_s (by decide) (by decide) (Nat.le_of_ble_eq_true rfl) rt_i ?_
  show Wp _ F 0 [(0, .ref 171), (1, .int (iI r)), (2, .int (iI c))] [] _
  refine w_aload_n dX12_words_0 rfl ?_
  refine w_iload_n dX12_words_1 rfl ?_
  refine w_iload_n dX12_words_2 rfl ?_
  refine v_callV2 dX12_words_3 lX12_155 vX12_hasRun (by decide) rfl rfl ⟨by decide, rfl⟩ (by decide) rfl (Nat.le_of_ble_eq_true rfl) ?_
  refine x12_hasRun hR hC hok (by omega) (by omega) (fun q3 I1 m1 => ?_) (fun q3 a e hr u1 u2 u3 u4 I1 m1 k1 k2 k3 k4 k5 => ?_)
  rotate_left
  · refine v_if_ne 11 dX12_words_6 (by decide) (by decide) (fun _ => ?_) (fun q => absurd q (by decide))
    refine w_iconst (v := iI 0) dX12_words_11 rfl ?_
    refine w_istore_n dX12_words_12 rfl rfl ?_
    refine w_iconst (v := iI 0) dX12_words_13 rfl ?_
    refine w_istore dX12_words_14 rfl rfl ?_
    have g2 : 0 ≤ r ∧ r < 16 ∧ 0 ≤ c ∧ c < 32 := q3.1
    exact x12_words_l hw hw2 hsz ⟨g2.1, g2.2.1⟩ hr u3 u4 m1 k1 k2 k3 k4 k5 (hy q3 a e hr u1 u2 I1 m1) (wn + 1) 0 (by omega) (by omega)
  · refine v_if_ne 11 dX12_words_6 (by decide) (by decide) (fun q => absurd q (by decide)) (fun _ => ?_)
    refine w_iconst (v := iI (-1)) dX12_words_9 rfl ?_
    refine v_iret dX12_words_10 rfl ⟨rfl, rfl⟩ ?_
    exact hn q3 I1 m1
theorem x12_read_l {I : Nat → Nat → Int32} {J : Nat → Nat → Int64} {F : Option Value → zM → Prop} {wn : Nat} (hw : rd I 171 12 = wn) (hw2 : wn ≤ 12) (hsz : ∀ w, w < wn → 1 ≤ rd I 183 w ∧ rd I 183 w ≤ 10) {r c a e : Int} (hr0 : 0 ≤ r ∧ r < 16) (hrun : isRun (fun x => lS I r x) a e) (ha0 : 0 ≤ a) (he32 : e ≤ 32) {I' : Nat → Nat → Int32} (hx : fq S3 I I') (h17 : rd I' 171 17 = 32 * r + a) (h18 : rd I' 171 18 = 32 * r + e) (h19 : rd I' 171 19 = c44 (lS I r (a - 1))) (h20 : rd I' 171 20 = c44 (lS I r e)) (hrs : ∀ y x, rsAt I' y x = lS I y x) {t : Int} (bt : -2147483648 ≤ t ∧ t < 2147483648) (hy : F (some (.int (iI (kf (cBb I (fun x => lS I r x) a e) (fun w => (w : Int)) t (-1) wn)))) (gM I' J)) : ∀ (nz : Nat) (k : Nat) (u : Int), wn - k < nz → k ≤ wn → u = cn (cBb I (fun x => lS I r x) a e) k → (∀ j, j < k → (cBb I (fun x => lS I r x) a e) j = true → cn (cBb I (fun x => lS I r x) a e) j ≠ t) → Wp (sE kX12_read RX12) F 21 [(0, .ref 171), (1, .int (iI r)), (2, .int (iI c)), (3, .int (iI t)), (4, .int (iI u)), (5, .int (iI (k : Int)))] [] (gM I' J) := by
  intro nz
  induction nz with
  | zero =>
    intro k u hmz hk ha hno
    exact absurd hmz (Nat.not_lt_zero _)
  | succ nz ih =>
    intro k u hmz hk ha hno
    refine w_iload dX12_read_21 rfl ?_
    refine w_aload_n dX12_read_23 rfl ?_
    refine v_getI dX12_read_24 fX12_83 ⟨by decide, rfl⟩ (Or.inl rfl) (fun z24 e24 b24 => ?_)
    have f24 : z24 = wn := by rw [e24, hx _ _ (by unfold S3; omega)]; exact hw
    have bcn := cn_bd (cBb I (fun x => lS I r x) a e) k
    refine v_icmp_ge 60 dX12_read_27 (by decide) (by omega) (by omega) (fun c27 => ?_) (fun c27 => ?_)
    · refine w_iconst (v := iI (-1)) dX12_read_60 rfl ?_
      refine v_iret dX12_read_61 rfl ⟨rfl, rfl⟩ ?_
      have g : k = wn := by omega
      subst g
      rw [kf_none hno] at hy
      exact hy
    · refine w_aload_n dX12_read_30 rfl ?_
      refine w_iload dX12_read_31 rfl ?_
      refine v_callV1 dX12_read_33 lX12_125 vX12_canBe (by decide) rfl rfl ⟨by decide, rfl⟩ (by decide) rfl (Nat.le_of_ble_eq_true rfl) ?_
      refine x12_canBeL hr0 hrun ha0 he32 hx h17 h18 h19 h20 hrs (w := k) (by omega) (hsz k (by omega)) (fun q33 => ?_) (fun q33 => ?_)
      · refine v_if_ne 42 dX12_read_36 (by decide) (by decide) (fun _ => ?_) (fun q => absurd q (by decide))
        refine w_iload dX12_read_42 rfl ?_
        refine w_iload_n dX12_read_44 rfl ?_
        refine v_icmp_ne 51 dX12_read_45 (by decide) (by omega) (by omega) (fun c45 => ?_) (fun c45 => ?_)
        · refine v_iinc dX12_read_51 rfl rfl rfl ?_
          refine v_iinc dX12_read_54 rfl rfl rfl ?_
          refine w_goto 21 dX12_read_57 (by decide) ?_
          rw [show (k : Int) + 1 = ((k + 1 : Nat) : Int) by omega]
          refine ih (k + 1) _ (by omega) (by omega) ?_ (fun j hj gj => ?_)
          · rw [cn, ← ha]
            first | (rw [if_pos q33]; done) | (rw [if_neg q33]; omega)
          · rcases Nat.lt_succ_iff_lt_or_eq.mp hj with g | g
            · exact hno j g gj
            · subst g
              first | exact absurd gj q33 | (rw [← ha]; omega)
        · refine w_iload dX12_read_48 rfl ?_
          refine v_iret dX12_read_50 rfl ⟨rfl, rfl⟩ ?_
          rw [kf_at (h := k) q33 (by rw [← ha]; omega) (by omega)] at hy
          exact hy
      · refine v_if_ne 42 dX12_read_36 (by decide) (by decide) (fun q => absurd q (by decide)) (fun _ => ?_)
        refine w_goto 54 dX12_read_39 (by decide) ?_
        refine v_iinc dX12_read_54 rfl rfl rfl ?_
        refine w_goto 21 dX12_read_57 (by decide) ?_
        rw [show (k : Int) + 1 = ((k + 1 : Nat) : Int) by omega]
        refine ih (k + 1) _ (by omega) (by omega) ?_ (fun j hj gj => ?_)
        · rw [cn, ← ha]
          first | (rw [if_pos q33]; done) | (rw [if_neg q33]; omega)
        · rcases Nat.lt_succ_iff_lt_or_eq.mp hj with g | g
          · exact hno j g gj
          · subst g
            first | exact absurd gj q33 | (rw [← ha]; omega)
theorem x12_read {I : Nat → Nat → Int32} {J : Nat → Nat → Int64} {F : Option Value → zM → Prop} (hR : ∀ b, b < 10 → -1000 ≤ rd I 178 b ∧ rd I 178 b ≤ 1000) (hC : ∀ b, b < 10 → -1000 ≤ rd I 179 b ∧ rd I 179 b ≤ 1000) (hok : okL I 10) {wn : Nat} (hw : rd I 171 12 = wn) (hw2 : wn ≤ 12) (hsz : ∀ w, w < wn → 1 ≤ rd I 183 w ∧ rd I 183 w ≤ 10) {r c t : Int} (br : -2147483648 ≤ r ∧ r < 2147483648) (bc : -2147483648 ≤ c ∧ c < 2147483648) (bt : -2147483648 ≤ t ∧ t < 2147483648) (hn : ¬ (inS r c ∧ isTx (lS I r c) ∧ 0 ≤ t) → ∀ I', fq S3 I I' → F (some (.int (iI (-1)))) (gM I' J)) (hy : (inS r c ∧ isTx (lS I r c) ∧ 0 ≤ t) → ∀ a e : Int, isRun (fun x => lS I r x) a e → a ≤ c → c < e → ∀ I', fq S3 I I' → F (some (.int (iI (kf (cBb I (fun x => lS I r x) a e) (fun w => (w : Int)) t (-1) wn)))) (gM I' J)) : Cl yX12_read kX12_read [.ref 171, .int (iI r), .int (iI c), .int (iI t)] (gM I J) F := by
  refine cl_s (by decide) (by decide) (Nat.le_of_ble_eq_true rfl) rt_i ?_
  show Wp _ F 0 [(0, .ref 171), (1, .int (iI r)), (2, .int (iI c)), (3, .int (iI t))] [] _
  refine w_aload_n dX12_read_0 rfl ?_
  refine w_iload_n dX12_read_1 rfl ?_
  refine w_iload_n dX12_read_2 rfl ?_
  refine v_callV2 dX12_read_3 lX12_155 vX12_hasRun (by decide) rfl rfl ⟨by decide, rfl⟩ (by decide) rfl (Nat.le_of_ble_eq_true rfl) ?_
  refine x12_hasRun hR hC hok (by omega) (by omega) (fun q3 I1 m1 => ?_) (fun q3 a e hr u1 u2 u3 u4 I1 m1 k1 k2 k3 k4 k5 => ?_)
  rotate_left
  · refine v_if_eq 13 dX12_read_6 (by decide) (by decide) (fun q => absurd q (by decide)) (fun _ => ?_)
    refine w_iload_n dX12_read_9 rfl ?_
    refine v_if_ge 15 dX12_read_10 (by decide) (by omega) (fun c10 => ?_) (fun c10 => ?_)
    · refine w_iconst (v := iI 0) dX12_read_15 rfl ?_
      refine w_istore dX12_read_16 rfl rfl ?_
      refine w_iconst (v := iI 0) dX12_read_18 rfl ?_
      refine w_istore dX12_read_19 rfl rfl ?_
      have g2 : 0 ≤ r ∧ r < 16 ∧ 0 ≤ c ∧ c < 32 := q3.1
      exact x12_read_l hw hw2 hsz ⟨g2.1, g2.2.1⟩ hr u3 u4 m1 k1 k2 k3 k4 k5 bt (hy ⟨q3.1, q3.2, by omega⟩ a e hr u1 u2 I1 m1) (wn + 1) 0 0 (by omega) (by omega) rfl (fun j hj => by omega)
    · refine w_iconst (v := iI (-1)) dX12_read_13 rfl ?_
      refine v_iret dX12_read_14 rfl ⟨rfl, rfl⟩ ?_
      first | exact hn (fun g => q3 ⟨g.1, g.2.1⟩) I1 m1 | exact hn (fun g => by have := g.2.2; omega) I1 m1
  · refine v_if_eq 13 dX12_read_6 (by decide) (by decide) (fun _ => ?_) (fun q => absurd q (by decide))
    refine w_iconst (v := iI (-1)) dX12_read_13 rfl ?_
    refine v_iret dX12_read_14 rfl ⟨rfl, rfl⟩ ?_
    first | exact hn (fun g => q3 ⟨g.1, g.2.1⟩) I1 m1 | exact hn (fun g => by have := g.2.2; omega) I1 m1
