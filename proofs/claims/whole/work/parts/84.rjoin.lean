/-! join, joins: the reference -/
theorem x12_tries1 {I : Nat → Nat → Int32} {J : Nat → Nat → Int64} {F : Option Value → zM → Prop} (hrg : rg I) {wn : Nat} (hw : rd I 171 12 = wn) (hw2 : wn ≤ 12) (hsz : ∀ w, w < wn → 1 ≤ rd I 183 w ∧ rd I 183 w ≤ 10) (hok : okL I 10) {a : Nat} (ha : a < 10) (ha0 : rd I 177 a = 0) (h : ∀ I', sJ (fun k => k = a) I I' → rg I' → BS (rd I' 171 21) (rd I' 171 22) (rd I' 171 23) (fun x y => fzA I (oL I) a wn x ∧ y = 0) (fun x _ => wA (pl I a x)) → F (some (.int (iI (cn (fun p : Nat => pBo (fzA I (oL I) a wn (p : Int))) 1344)))) (gM I' J)) : Cl yX12_tries kX12_tries [.ref 171, .int (iI (a : Int)), .int (iI (-1))] (gM I J) F := by
  refine cl_s (by decide) (by decide) (Nat.le_of_ble_eq_true rfl) rt_i ?_
  show Wp _ F 0 [(0, .ref 171), (1, .int (iI (a : Int))), (2, .int (iI (-1)))] [] _
  refine w_aload_n dX12_tries_0 rfl ?_
  refine w_iconst (v := iI (-1)) dX12_tries_1 rfl ?_
  refine v_putI dX12_tries_2 fX12_175 ⟨by decide, rfl⟩ rfl (Or.inl rfl) ?_
  refine w_aload_n dX12_tries_5 rfl ?_
  refine w_iconst (v := iI 0) dX12_tries_6 rfl ?_
  refine v_putI dX12_tries_7 fX12_178 ⟨by decide, rfl⟩ rfl (Or.inl rfl) ?_
  refine w_aload_n dX12_tries_10 rfl ?_
  refine w_iconst (v := iI 0) dX12_tries_11 rfl ?_
  refine v_putI dX12_tries_12 fX12_181 ⟨by decide, rfl⟩ rfl (Or.inl rfl) ?_
  refine w_aload_n dX12_tries_15 rfl ?_
  refine v_callV0 dX12_tries_16 lX12_184 vX12_notesEarly (by decide) rfl rfl ⟨by decide, rfl⟩ (by decide) rfl (Nat.le_of_ble_eq_true rfl) ?_
  have x0 : ∀ id k, ¬ (id = 171 ∧ 21 ≤ k ∧ k ≤ 23) → rd (wr (wr (wr I 171 21 (-1)) 171 22 0) 171 23 0) id k = rd I id k := fun id k g => by
    rw [rd_wr_ne (by omega), rd_wr_ne (by omega), rd_wr_ne (by omega)]
  have r0 : fR I (wr (wr (wr I 171 21 (-1)) 171 22 0) 171 23 0) := fun id k g => x0 id k (by omega)
  have g0 : rg (wr (wr (wr I 171 21 (-1)) 171 22 0) 171 23 0) := rg_cg hrg (fun k => x0 _ _ (by omega)) (fun k => x0 _ _ (by omega))
  refine x12_notesEarly (fun d hd => (g0 d hd).1) (fun d hd => (g0 d hd).2) ((okL_R r0 10).mpr hok) (fun I1 h1 h2 => ?_)
  have j1 : sJ (fun _ => False) I I1 := fun id k g => by
    rw [h2 id k (fun q => g (by
      rcases q with q | q
      · exact Or.inl q
      · exact Or.inr (Or.inr (Or.inl q))))]
    exact x0 id k (fun q => g (Or.inr (Or.inl q)))
  have e1 : ∀ k, k < 512 → oL I k = (fun k => rd I1 187 k) k := fun k hk => by
    show oL I k = rd I1 187 k
    rw [h1 k hk]; exact (congrFun (oL_R r0) k).symm
  have r1 : fR I I1 := sJ_R j1
  have g1 : rg I1 := rg_cg hrg (fun k => r1 _ _ (by omega)) (fun k => r1 _ _ (by omega))
  have b1 : ∀ k, 21 ≤ k → k ≤ 23 → rd I1 171 k = rd (wr (wr (wr I 171 21 (-1)) 171 22 0) 171 23 0) 171 k := fun k u v => h2 171 k (fun q => by
    rcases q with q | q
    · unfold S3 at q; omega
    · omega)
  have b21 : rd I1 171 21 = -1 := by rw [b1 21 (by decide) (by decide), rd_wr_ne (by decide), rd_wr_ne (by decide), rd_wr_eq (by decide) (by decide)]
  have y1 : ∀ id, id = 177 ∨ id = 183 → ∀ k, rd I1 id k = rd I id k := fun id g k => r1 _ _ (by omega)
  have w1 : rd I1 171 12 = wn := by rw [j1 171 12 (by unfold S3; omega)]; exact hw
  refine w_iconst (v := iI 0) dX12_tries_19 rfl ?_
  refine w_istore_n dX12_tries_20 rfl rfl ?_
  refine w_iconst (v := iI 0) dX12_tries_21 rfl ?_
  refine w_istore dX12_tries_22 rfl rfl ?_
  refine x12_tries1_l g1 w1 hw2 (fun w g => by rw [y1 183 (Or.inr rfl)]; exact hsz w g) ha (by rw [y1 177 (Or.inl rfl)]; exact ha0) (fun I' s' g' b' => ?_) 1345 0 0 I1 (by omega) (by omega) rfl (fun _ _ _ => rfl) g1 ⟨by rw [b21]; decide, fun _ x y u => (by have := nx_bd u.2.1.1; omega), fun u => absurd b21 u⟩
  have cc : cn (fun p : Nat => pBo (fzA I1 (fun k => rd I1 187 k) a wn (p : Int))) 1344 = (cn (fun p : Nat => pBo (fzA I (oL I) a wn (p : Int))) 1344) := cn_cong fun k hk => by
    show pBo (fzA I1 (fun k => rd I1 187 k) a wn (k : Int)) = pBo (fzA I (oL I) a wn (k : Int))
    rw [propext (fzA_cg e1 r1)]
  rw [cc]
  refine h I' (sJ_F j1 s') g' ?_
  refine BS_w (BS_cg b' (fun x y => ?_)) (fun x y u => ?_)
  · rw [fzA_cg e1 r1]
  · exact wA_R (pl_fR r1 (by have := nx_bd u.1.1; omega))
theorem x12_tries2 {I : Nat → Nat → Int32} {J : Nat → Nat → Int64} {F : Option Value → zM → Prop} (hrg : rg I) {wn : Nat} (hw : rd I 171 12 = wn) (hw2 : wn ≤ 12) (hsz : ∀ w, w < wn → 1 ≤ rd I 183 w ∧ rd I 183 w ≤ 10) (hok : okL I 10) {a b : Nat} (ha : a < 10) (hb : b < 10) (hne : a ≠ b) (ha0 : rd I 177 a = 0) (hb0 : rd I 177 b = 0) {w : Int → Int → Int} (hw0 : ∀ p q, fz2 I (oL I) a b wn p q → w (xx a b p q) (yy a b p q) = wA (pl (pl I a p) b q)) (h : ∀ I', sJ (fun k => k = a ∨ k = b) I I' → rg I' → BS (rd I' 171 21) (rd I' 171 22) (rd I' 171 23) (fun x y => ∃ p' q' : Int, fz2 I (oL I) a b wn p' q' ∧ x = xx a b p' q' ∧ y = yy a b p' q') w → F (some (.int (iI 0))) (gM I' J)) : Cl yX12_tries kX12_tries [.ref 171, .int (iI (a : Int)), .int (iI (b : Int))] (gM I J) F := by
  refine cl_s (by decide) (by decide) (Nat.le_of_ble_eq_true rfl) rt_i ?_
  show Wp _ F 0 [(0, .ref 171), (1, .int (iI (a : Int))), (2, .int (iI (b : Int)))] [] _
  refine w_aload_n dX12_tries_0 rfl ?_
  refine w_iconst (v := iI (-1)) dX12_tries_1 rfl ?_
  refine v_putI dX12_tries_2 fX12_175 ⟨by decide, rfl⟩ rfl (Or.inl rfl) ?_
  refine w_aload_n dX12_tries_5 rfl ?_
  refine w_iconst (v := iI 0) dX12_tries_6 rfl ?_
  refine v_putI dX12_tries_7 fX12_178 ⟨by decide, rfl⟩ rfl (Or.inl rfl) ?_
  refine w_aload_n dX12_tries_10 rfl ?_
  refine w_iconst (v := iI 0) dX12_tries_11 rfl ?_
  refine v_putI dX12_tries_12 fX12_181 ⟨by decide, rfl⟩ rfl (Or.inl rfl) ?_
  refine w_aload_n dX12_tries_15 rfl ?_
  refine v_callV0 dX12_tries_16 lX12_184 vX12_notesEarly (by decide) rfl rfl ⟨by decide, rfl⟩ (by decide) rfl (Nat.le_of_ble_eq_true rfl) ?_
  have x0 : ∀ id k, ¬ (id = 171 ∧ 21 ≤ k ∧ k ≤ 23) → rd (wr (wr (wr I 171 21 (-1)) 171 22 0) 171 23 0) id k = rd I id k := fun id k g => by
    rw [rd_wr_ne (by omega), rd_wr_ne (by omega), rd_wr_ne (by omega)]
  have r0 : fR I (wr (wr (wr I 171 21 (-1)) 171 22 0) 171 23 0) := fun id k g => x0 id k (by omega)
  have g0 : rg (wr (wr (wr I 171 21 (-1)) 171 22 0) 171 23 0) := rg_cg hrg (fun k => x0 _ _ (by omega)) (fun k => x0 _ _ (by omega))
  refine x12_notesEarly (fun d hd => (g0 d hd).1) (fun d hd => (g0 d hd).2) ((okL_R r0 10).mpr hok) (fun I1 h1 h2 => ?_)
  have j1 : sJ (fun _ => False) I I1 := fun id k g => by
    rw [h2 id k (fun q => g (by
      rcases q with q | q
      · exact Or.inl q
      · exact Or.inr (Or.inr (Or.inl q))))]
    exact x0 id k (fun q => g (Or.inr (Or.inl q)))
  have e1 : ∀ k, k < 512 → oL I k = (fun k => rd I1 187 k) k := fun k hk => by
    show oL I k = rd I1 187 k
    rw [h1 k hk]; exact (congrFun (oL_R r0) k).symm
  have r1 : fR I I1 := sJ_R j1
  have g1 : rg I1 := rg_cg hrg (fun k => r1 _ _ (by omega)) (fun k => r1 _ _ (by omega))
  have b1 : ∀ k, 21 ≤ k → k ≤ 23 → rd I1 171 k = rd (wr (wr (wr I 171 21 (-1)) 171 22 0) 171 23 0) 171 k := fun k u v => h2 171 k (fun q => by
    rcases q with q | q
    · unfold S3 at q; omega
    · omega)
  have b21 : rd I1 171 21 = -1 := by rw [b1 21 (by decide) (by decide), rd_wr_ne (by decide), rd_wr_ne (by decide), rd_wr_eq (by decide) (by decide)]
  have y1 : ∀ id, id = 177 ∨ id = 183 → ∀ k, rd I1 id k = rd I id k := fun id g k => r1 _ _ (by omega)
  have w1 : rd I1 171 12 = wn := by rw [j1 171 12 (by unfold S3; omega)]; exact hw
  refine w_iconst (v := iI 0) dX12_tries_19 rfl ?_
  refine w_istore_n dX12_tries_20 rfl rfl ?_
  refine w_iconst (v := iI 0) dX12_tries_21 rfl ?_
  refine w_istore dX12_tries_22 rfl rfl ?_
  refine x12_tries2_l g1 w1 hw2 (fun w g => by rw [y1 183 (Or.inr rfl)]; exact hsz w g) ha hb hne (by rw [y1 177 (Or.inl rfl)]; exact ha0) (by rw [y1 177 (Or.inl rfl)]; exact hb0) (w := w) (fun p q u => ?_) (fun I' s' g' b' => ?_) 1345 0 I1 (by omega) (by omega) (fun _ _ _ => rfl) g1 ⟨by rw [b21]; decide, fun _ x y u => (by obtain ⟨p1, q1, u1, u2, u3⟩ := u; have := nx_bd u2.1; omega), fun u => absurd b21 u⟩
  · rw [hw0 p q ((fz2_cg e1 r1).mp u)]
    exact (wA_R (pl_fR (pl_fR r1 (by have := nx_bd u.1; omega)) (by have := nx_bd u.2.2.1; omega))).symm
  · refine h I' (sJ_F j1 s') g' (BS_cg b' (fun x y => ?_))
    constructor
    · rintro ⟨p1, q1, u1, u2⟩
      exact ⟨p1, q1, (fz2_cg e1 r1).mpr u1, u2⟩
    · rintro ⟨p1, q1, u1, u2⟩
      exact ⟨p1, q1, (fz2_cg e1 r1).mp u1, u2⟩
theorem x12_join1 {I : Nat → Nat → Int32} {J : Nat → Nat → Int64} {F : Option Value → zM → Prop} (hrg : rg I) {wn : Nat} (hw : rd I 171 12 = wn) (hw2 : wn ≤ 12) (hsz : ∀ w, w < wn → 1 ≤ rd I 183 w ∧ rd I 183 w ≤ 10) (hok : okL I 10) {a : Int} (ba : -2147483648 ≤ a ∧ a < 2147483648) (hn : ((∀ q : Nat, a = q → q < 10 → rd I 173 q ≠ 0 → rd I 177 q ≠ 0) ∨ ¬ anyL I) → F (some (.int (iI (-1)))) (gM I J)) (h1n : ∀ qa : Nat, a = (qa : Nat) → qa < 10 → rd I 173 qa ≠ 0 → rd I 177 qa = 0 → anyL I → (∀ x, ¬ fzA I (oL I) qa wn x) → ∀ I', sJ (fun k => k = qa) I I' → rg I' → F (some (.int (iI (-2)))) (gM I' J)) (h1y : ∀ qa : Nat, a = (qa : Nat) → qa < 10 → rd I 173 qa ≠ 0 → rd I 177 qa = 0 → anyL I → ∀ bw bA bB, BS bw bA bB (fun x y => fzA I (oL I) qa wn x ∧ y = 0) (fun x _ => wA (pl I qa x)) → bw ≠ -1 → ∀ I', sJ (fun _ => False) (pl I qa bA) I' → rg I' → F (some (.int (iI bw))) (gM I' J)) : Cl yX12_join kX12_join [.ref 171, .int (iI a), .int (iI (-1))] (gM I J) F := by
  refine cl_s (by decide) (by decide) (Nat.le_of_ble_eq_true rfl) rt_i ?_
  show Wp _ F 0 [(0, .ref 171), (1, .int (iI a)), (2, .int (iI (-1)))] [] _
  refine w_aload_n dX12_join_0 rfl ?_
  refine w_iload_n dX12_join_1 rfl ?_
  refine v_callV1 dX12_join_2 lX12_204 vX12_mayJoin (by decide) rfl rfl ⟨by decide, rfl⟩ (by decide) rfl (Nat.le_of_ble_eq_true rfl) ?_
  refine x12_mayJoin (by omega) (fun na => ?_) (fun qa ea a1 a2 a3 => ?_)
  · refine v_if_eq 33 dX12_join_5 (by decide) (by decide) (fun _ => ?_) (fun q => absurd q (by decide))
    refine w_iconst (v := iI (-1)) dX12_join_33 rfl ?_
    refine v_iret dX12_join_34 rfl ⟨rfl, rfl⟩ ?_
    first
      | exact hn (Or.inl na)
      | exact hn (Or.inr al)
  · refine v_if_eq 33 dX12_join_5 (by decide) (by decide) (fun q => absurd q (by decide)) (fun _ => ?_)
    refine w_iload_n dX12_join_8 rfl ?_
    refine w_iconst (v := iI (-1)) dX12_join_9 rfl ?_
    refine v_icmp_eq 26 dX12_join_10 (by decide) (by decide) (by decide) (fun _ => ?_) (fun q => absurd q (by decide))
    refine w_aload_n dX12_join_26 rfl ?_
    refine v_callV0 dX12_join_27 lX12_207 vX12_anyLies (by decide) rfl rfl ⟨by decide, rfl⟩ (by decide) rfl (Nat.le_of_ble_eq_true rfl) ?_
    refine x12_anyLies (fun al => ?_) (fun al => ?_)
    · refine v_if_ne 35 dX12_join_30 (by decide) (by decide) (fun _ => ?_) (fun q => absurd q (by decide))
      refine w_aload_n dX12_join_35 rfl ?_
      refine w_iload_n dX12_join_36 rfl ?_
      refine w_iload_n dX12_join_37 rfl ?_
      refine v_callV2 dX12_join_38 lX12_210 vX12_tries (by decide) rfl rfl ⟨by decide, rfl⟩ (by decide) rfl (Nat.le_of_ble_eq_true rfl) ?_
      subst ea
      refine x12_tries1 hrg hw hw2 hsz hok a1 a3 (fun I' s' g' b' => ?_)
      refine w_pop dX12_join_41 rfl ?_
      refine w_aload_n dX12_join_42 rfl ?_
      refine v_getI dX12_join_43 fX12_175 ⟨by decide, rfl⟩ (Or.inl rfl) (fun z43 e43 b43 => ?_)
      refine w_iconst (v := iI (-1)) dX12_join_46 rfl ?_
      refine v_icmp_ne 53 dX12_join_47 (by decide) (by clear hn h1n h1y; omega) (by clear hn h1n h1y; omega) (fun c47 => ?_) (fun c47 => ?_)
      · refine w_iload_n dX12_join_53 rfl ?_
        refine w_iconst (v := iI (-1)) dX12_join_54 rfl ?_
        refine v_icmp_eq 67 dX12_join_55 (by decide) (by decide) (by decide) (fun _ => ?_) (fun q => absurd q (by decide))
        refine w_iload_n dX12_join_67 rfl ?_
        refine w_istore_n dX12_join_68 rfl rfl ?_
        refine w_aload_n dX12_join_69 rfl ?_
        refine w_iload_n dX12_join_70 rfl ?_
        refine w_aload_n dX12_join_71 rfl ?_
        refine v_getI dX12_join_72 fX12_178 ⟨by decide, rfl⟩ (Or.inl rfl) (fun z72 e72 b72 => ?_)
        refine v_callS1 dX12_join_75 lX12_169 vX12_rowOf (by decide) rfl rfl (Nat.le_of_ble_eq_true rfl) ?_
        have bn : rd I' 171 21 ≠ -1 := by rw [← e43]; exact c47
        have nA : nx (rd I' 171 22) := (b'.2.2 bn).1.1.1
        have bA := nx_bd nA
        have f72 : z72 = rd I' 171 22 := e72
        clear e72
        subst f72
        refine x12_rowOf (by omega) ?_
        refine w_aload_n dX12_join_78 rfl ?_
        refine v_getI dX12_join_79 fX12_178 ⟨by decide, rfl⟩ (Or.inl rfl) (fun z79 e79 b79 => ?_)
        refine v_callS1 dX12_join_82 lX12_172 vX12_columnOf (by decide) rfl rfl (Nat.le_of_ble_eq_true rfl) ?_
        have f79 : z79 = rd I' 171 22 := e79
        clear e79
        subst f79
        refine x12_columnOf (by omega) ?_
        refine v_callV3 dX12_join_85 lX12_145 vX12_puts (by decide) rfl rfl ⟨by decide, rfl⟩ (by decide) rfl (Nat.le_of_ble_eq_true rfl) ?_
        refine x12_puts a1 (by omega) (by omega) ?_
        refine w_iload_n dX12_join_88 rfl ?_
        refine w_iconst (v := iI (-1)) dX12_join_89 rfl ?_
        refine v_icmp_eq 121 dX12_join_90 (by decide) (by decide) (by decide) (fun _ => ?_) (fun q => absurd q (by decide))
        refine w_aload_n dX12_join_121 rfl ?_
        refine v_getI dX12_join_122 fX12_175 ⟨by decide, rfl⟩ (Or.inl rfl) (fun z122 e122 b122 => ?_)
        refine v_iret dX12_join_125 rfl ⟨rfl, rfl⟩ ?_
        have f122 : z122 = rd I' 171 21 := by rw [e122, rd_wr_row (by decide), rd_wr_row (by decide), rd_wr_row (by decide)]
        rw [f122]
        exact h1y qa rfl a1 a2 a3 al _ _ _ b' bn _ (sJ_mono (sJ_pl (b := qa) s' (by omega)) (fun k g => g.2 g.1)) (rg_pl g' nA)
      · refine w_bipush (v := iI (-2)) dX12_join_50 (by decide) ?_
        refine v_iret dX12_join_52 rfl ⟨rfl, rfl⟩ ?_
        have bm : rd I' 171 21 = -1 := by rw [← e43]; exact c47
        exact h1n qa rfl a1 a2 a3 al (fun x u => b'.2.1 bm x 0 ⟨u, rfl⟩) I' s' g'
    · refine v_if_ne 35 dX12_join_30 (by decide) (by decide) (fun q => absurd q (by decide)) (fun _ => ?_)
      refine w_iconst (v := iI (-1)) dX12_join_33 rfl ?_
      refine v_iret dX12_join_34 rfl ⟨rfl, rfl⟩ ?_
      first
        | exact hn (Or.inl na)
        | exact hn (Or.inr al)
set_option maxHeartbeats 4000000 in
theorem x12_join2 {I : Nat → Nat → Int32} {J : Nat → Nat → Int64} {F : Option Value → zM → Prop} (hrg : rg I) {wn : Nat} (hw : rd I 171 12 = wn) (hw2 : wn ≤ 12) (hsz : ∀ w, w < wn → 1 ≤ rd I 183 w ∧ rd I 183 w ≤ 10) (hok : okL I 10) {a b : Int} (ba : -2147483648 ≤ a ∧ a < 2147483648) (bb : -2147483648 ≤ b ∧ b < 2147483648) (hb1 : b ≠ -1) (hn : ((∀ q : Nat, a = q → q < 10 → rd I 173 q ≠ 0 → rd I 177 q ≠ 0) ∨ (∀ q : Nat, b = q → q < 10 → rd I 173 q ≠ 0 → rd I 177 q ≠ 0) ∨ a = b ∨ ¬ anyL I) → F (some (.int (iI (-1)))) (gM I J)) (h2n : ∀ qa qb : Nat, a = (qa : Nat) → qa < 10 → rd I 173 qa ≠ 0 → rd I 177 qa = 0 → b = (qb : Nat) → qb < 10 → rd I 173 qb ≠ 0 → rd I 177 qb = 0 → qa ≠ qb → anyL I → (∀ p q, ¬ fz2 I (oL I) qa qb wn p q) → ∀ I', sJ (fun k => k = qa ∨ k = qb) I I' → rg I' → F (some (.int (iI (-2)))) (gM I' J)) (h2y : ∀ qa qb : Nat, a = (qa : Nat) → qa < 10 → rd I 173 qa ≠ 0 → rd I 177 qa = 0 → b = (qb : Nat) → qb < 10 → rd I 173 qb ≠ 0 → rd I 177 qb = 0 → qa ≠ qb → anyL I → ∀ bw bA bB, BS bw bA bB (fun x y => ∃ p' q' : Int, fz2 I (oL I) qa qb wn p' q' ∧ x = xx qa qb p' q' ∧ y = yy qa qb p' q') (fun x y => if (qa : Int) < qb then wA (pl (pl I qa x) qb y) else wA (pl (pl I qa y) qb x)) → bw ≠ -1 → (nx bA ∧ nx bB) → ∀ I', sJ (fun _ => False) (if qa < qb then pl (pl I qa bA) qb bB else pl (pl I qb bA) qa bB) I' → rg I' → F (some (.int (iI bw))) (gM I' J)) : Cl yX12_join kX12_join [.ref 171, .int (iI a), .int (iI b)] (gM I J) F := by
  refine cl_s (by decide) (by decide) (Nat.le_of_ble_eq_true rfl) rt_i ?_
  show Wp _ F 0 [(0, .ref 171), (1, .int (iI a)), (2, .int (iI b))] [] _
  refine w_aload_n dX12_join_0 rfl ?_
  refine w_iload_n dX12_join_1 rfl ?_
  refine v_callV1 dX12_join_2 lX12_204 vX12_mayJoin (by decide) rfl rfl ⟨by decide, rfl⟩ (by decide) rfl (Nat.le_of_ble_eq_true rfl) ?_
  refine x12_mayJoin (by omega) (fun na => ?_) (fun qa ea a1 a2 a3 => ?_)
  · refine v_if_eq 33 dX12_join_5 (by decide) (by decide) (fun _ => ?_) (fun q => absurd q (by decide))
    refine w_iconst (v := iI (-1)) dX12_join_33 rfl ?_
    refine v_iret dX12_join_34 rfl ⟨rfl, rfl⟩ ?_
    first
      | exact hn (Or.inl na)
      | exact hn (Or.inr (Or.inl nb))
      | exact hn (Or.inr (Or.inr (Or.inr al)))
      | exact hn (Or.inr (Or.inr (Or.inl c23)))
  · refine v_if_eq 33 dX12_join_5 (by decide) (by decide) (fun q => absurd q (by decide)) (fun _ => ?_)
    refine w_iload_n dX12_join_8 rfl ?_
    refine w_iconst (v := iI (-1)) dX12_join_9 rfl ?_
    refine v_icmp_eq 26 dX12_join_10 (by decide) (by clear hn h2n h2y; omega) (by clear hn h2n h2y; omega) (fun c10 => absurd c10 (hb1)) (fun c10 => ?_)
    refine w_aload_n dX12_join_13 rfl ?_
    refine w_iload_n dX12_join_14 rfl ?_
    refine v_callV1 dX12_join_15 lX12_204 vX12_mayJoin (by decide) rfl rfl ⟨by decide, rfl⟩ (by decide) rfl (Nat.le_of_ble_eq_true rfl) ?_
    refine x12_mayJoin (by omega) (fun nb => ?_) (fun qb eb b1 b2 b3 => ?_)
    · refine v_if_eq 33 dX12_join_18 (by decide) (by decide) (fun _ => ?_) (fun q => absurd q (by decide))
      refine w_iconst (v := iI (-1)) dX12_join_33 rfl ?_
      refine v_iret dX12_join_34 rfl ⟨rfl, rfl⟩ ?_
      first
        | exact hn (Or.inl na)
        | exact hn (Or.inr (Or.inl nb))
        | exact hn (Or.inr (Or.inr (Or.inr al)))
        | exact hn (Or.inr (Or.inr (Or.inl c23)))
    · refine v_if_eq 33 dX12_join_18 (by decide) (by decide) (fun q => absurd q (by decide)) (fun _ => ?_)
      refine w_iload_n dX12_join_21 rfl ?_
      refine w_iload_n dX12_join_22 rfl ?_
      refine v_icmp_eq 33 dX12_join_23 (by decide) (by clear hn h2n h2y; omega) (by clear hn h2n h2y; omega) (fun c23 => ?_) (fun c23 => ?_)
      · refine w_iconst (v := iI (-1)) dX12_join_33 rfl ?_
        refine v_iret dX12_join_34 rfl ⟨rfl, rfl⟩ ?_
        first
          | exact hn (Or.inl na)
          | exact hn (Or.inr (Or.inl nb))
          | exact hn (Or.inr (Or.inr (Or.inr al)))
          | exact hn (Or.inr (Or.inr (Or.inl c23)))
      · refine w_aload_n dX12_join_26 rfl ?_
        refine v_callV0 dX12_join_27 lX12_207 vX12_anyLies (by decide) rfl rfl ⟨by decide, rfl⟩ (by decide) rfl (Nat.le_of_ble_eq_true rfl) ?_
        refine x12_anyLies (fun al => ?_) (fun al => ?_)
        · refine v_if_ne 35 dX12_join_30 (by decide) (by decide) (fun _ => ?_) (fun q => absurd q (by decide))
          refine w_aload_n dX12_join_35 rfl ?_
          refine w_iload_n dX12_join_36 rfl ?_
          refine w_iload_n dX12_join_37 rfl ?_
          refine v_callV2 dX12_join_38 lX12_210 vX12_tries (by decide) rfl rfl ⟨by decide, rfl⟩ (by decide) rfl (Nat.le_of_ble_eq_true rfl) ?_
          subst ea
          subst eb
          have hne : qa ≠ qb := by clear hn h2n h2y; omega
          refine x12_tries2 hrg hw hw2 hsz hok a1 b1 hne a3 b3 (w := (fun x y => if (qa : Int) < qb then wA (pl (pl I qa x) qb y) else wA (pl (pl I qa y) qb x))) (fun p q u => F2_w p q) (fun I' s' g' b' => ?_)
          refine w_pop dX12_join_41 rfl ?_
          refine w_aload_n dX12_join_42 rfl ?_
          refine v_getI dX12_join_43 fX12_175 ⟨by decide, rfl⟩ (Or.inl rfl) (fun z43 e43 b43 => ?_)
          refine w_iconst (v := iI (-1)) dX12_join_46 rfl ?_
          refine v_icmp_ne 53 dX12_join_47 (by decide) (by clear hn h2n h2y; omega) (by clear hn h2n h2y; omega) (fun c47 => ?_) (fun c47 => ?_)
          · refine w_iload_n dX12_join_53 rfl ?_
            refine w_iconst (v := iI (-1)) dX12_join_54 rfl ?_
            refine v_icmp_eq 67 dX12_join_55 (by decide) (by clear hn h2n h2y; omega) (by clear hn h2n h2y; omega) (fun c55 => absurd c55 (hb1)) (fun c55 => ?_)
            refine w_iload_n dX12_join_58 rfl ?_
            refine w_iload_n dX12_join_59 rfl ?_
            refine v_icmp_ge 67 dX12_join_60 (by decide) (by clear hn h2n h2y; omega) (by clear hn h2n h2y; omega) (fun c60 => ?_) (fun c60 => ?_)
            · refine w_iload_n dX12_join_67 rfl ?_
              refine w_istore_n dX12_join_68 rfl rfl ?_
              refine w_aload_n dX12_join_69 rfl ?_
              refine w_iload_n dX12_join_70 rfl ?_
              refine w_aload_n dX12_join_71 rfl ?_
              refine v_getI dX12_join_72 fX12_178 ⟨by decide, rfl⟩ (Or.inl rfl) (fun z72 e72 b72 => ?_)
              refine v_callS1 dX12_join_75 lX12_169 vX12_rowOf (by decide) rfl rfl (Nat.le_of_ble_eq_true rfl) ?_
              have bn : rd I' 171 21 ≠ -1 := by rw [← e43]; exact c47
              have nn := F2_nx (b'.2.2 bn).1
              have bA := nx_bd nn.1
              have bB := nx_bd nn.2
              have f72 : z72 = rd I' 171 22 := e72
              clear e72
              subst f72
              refine x12_rowOf (by omega) ?_
              refine w_aload_n dX12_join_78 rfl ?_
              refine v_getI dX12_join_79 fX12_178 ⟨by decide, rfl⟩ (Or.inl rfl) (fun z79 e79 b79 => ?_)
              refine v_callS1 dX12_join_82 lX12_172 vX12_columnOf (by decide) rfl rfl (Nat.le_of_ble_eq_true rfl) ?_
              have f79 : z79 = rd I' 171 22 := e79
              clear e79
              subst f79
              refine x12_columnOf (by omega) ?_
              refine v_callV3 dX12_join_85 lX12_145 vX12_puts (by decide) rfl rfl ⟨by decide, rfl⟩ (by decide) rfl (Nat.le_of_ble_eq_true rfl) ?_
              first
                | refine x12_puts a1 (by omega) (by omega) ?_
                | refine x12_puts b1 (by omega) (by omega) ?_
              refine w_iload_n dX12_join_88 rfl ?_
              refine w_iconst (v := iI (-1)) dX12_join_89 rfl ?_
              refine v_icmp_eq 121 dX12_join_90 (by decide) (by clear hn h2n h2y; omega) (by clear hn h2n h2y; omega) (fun c90 => absurd c90 (hb1)) (fun c90 => ?_)
              refine w_aload_n dX12_join_93 rfl ?_
              refine w_iload_n dX12_join_94 rfl ?_
              refine w_iload_n dX12_join_95 rfl ?_
              refine v_icmp_ne 103 dX12_join_96 (by decide) (by clear hn h2n h2y; omega) (by clear hn h2n h2y; omega) (fun c96 => absurd c96 (fun u => u rfl)) (fun c96 => ?_)
              refine w_iload_n dX12_join_99 rfl ?_
              refine w_goto 104 dX12_join_100 (by decide) ?_
              refine w_aload_n dX12_join_104 rfl ?_
              refine v_getI dX12_join_105 fX12_181 ⟨by decide, rfl⟩ (Or.inl rfl) (fun z105 e105 b105 => ?_)
              refine v_callS1 dX12_join_108 lX12_169 vX12_rowOf (by decide) rfl rfl (Nat.le_of_ble_eq_true rfl) ?_
              have f105 : z105 = rd I' 171 23 := by rw [e105, rd_wr_row (by decide), rd_wr_row (by decide), rd_wr_row (by decide)]
              clear e105
              subst f105
              refine x12_rowOf (by omega) ?_
              refine w_aload_n dX12_join_111 rfl ?_
              refine v_getI dX12_join_112 fX12_181 ⟨by decide, rfl⟩ (Or.inl rfl) (fun z112 e112 b112 => ?_)
              refine v_callS1 dX12_join_115 lX12_172 vX12_columnOf (by decide) rfl rfl (Nat.le_of_ble_eq_true rfl) ?_
              have f112 : z112 = rd I' 171 23 := by rw [e112, rd_wr_row (by decide), rd_wr_row (by decide), rd_wr_row (by decide)]
              clear e112
              subst f112
              refine x12_columnOf (by omega) ?_
              refine v_callV3 dX12_join_118 lX12_145 vX12_puts (by decide) rfl rfl ⟨by decide, rfl⟩ (by decide) rfl (Nat.le_of_ble_eq_true rfl) ?_
              first
                | refine x12_puts a1 (by omega) (by omega) ?_
                | refine x12_puts b1 (by omega) (by omega) ?_
              refine w_aload_n dX12_join_121 rfl ?_
              refine v_getI dX12_join_122 fX12_175 ⟨by decide, rfl⟩ (Or.inl rfl) (fun z122 e122 b122 => ?_)
              refine v_iret dX12_join_125 rfl ⟨rfl, rfl⟩ ?_
              have f122 : z122 = rd I' 171 21 := by rw [e122, rd_wr_row (by decide), rd_wr_row (by decide), rd_wr_row (by decide), rd_wr_row (by decide), rd_wr_row (by decide), rd_wr_row (by decide)]
              rw [f122]
              refine h2y qa qb rfl a1 a2 a3 rfl b1 b2 b3 hne al _ _ _ b' bn nn _ ?_ (rg_pl (rg_pl g' nn.1) nn.2)
              rw [if_pos (show qa < qb by clear hn h2n h2y; omega)]
              exact sJ_mono (sJ_pl (b := qb) (sJ_pl (b := qa) s' (by omega)) (by omega)) (fun k g => g.1.1.elim g.1.2 g.2)
            · refine w_iload_n dX12_join_63 rfl ?_
              refine w_goto 68 dX12_join_64 (by decide) ?_
              refine w_istore_n dX12_join_68 rfl rfl ?_
              refine w_aload_n dX12_join_69 rfl ?_
              refine w_iload_n dX12_join_70 rfl ?_
              refine w_aload_n dX12_join_71 rfl ?_
              refine v_getI dX12_join_72 fX12_178 ⟨by decide, rfl⟩ (Or.inl rfl) (fun z72 e72 b72 => ?_)
              refine v_callS1 dX12_join_75 lX12_169 vX12_rowOf (by decide) rfl rfl (Nat.le_of_ble_eq_true rfl) ?_
              have bn : rd I' 171 21 ≠ -1 := by rw [← e43]; exact c47
              have nn := F2_nx (b'.2.2 bn).1
              have bA := nx_bd nn.1
              have bB := nx_bd nn.2
              have f72 : z72 = rd I' 171 22 := e72
              clear e72
              subst f72
              refine x12_rowOf (by omega) ?_
              refine w_aload_n dX12_join_78 rfl ?_
              refine v_getI dX12_join_79 fX12_178 ⟨by decide, rfl⟩ (Or.inl rfl) (fun z79 e79 b79 => ?_)
              refine v_callS1 dX12_join_82 lX12_172 vX12_columnOf (by decide) rfl rfl (Nat.le_of_ble_eq_true rfl) ?_
              have f79 : z79 = rd I' 171 22 := e79
              clear e79
              subst f79
              refine x12_columnOf (by omega) ?_
              refine v_callV3 dX12_join_85 lX12_145 vX12_puts (by decide) rfl rfl ⟨by decide, rfl⟩ (by decide) rfl (Nat.le_of_ble_eq_true rfl) ?_
              first
                | refine x12_puts a1 (by omega) (by omega) ?_
                | refine x12_puts b1 (by omega) (by omega) ?_
              refine w_iload_n dX12_join_88 rfl ?_
              refine w_iconst (v := iI (-1)) dX12_join_89 rfl ?_
              refine v_icmp_eq 121 dX12_join_90 (by decide) (by clear hn h2n h2y; omega) (by clear hn h2n h2y; omega) (fun c90 => absurd c90 (hb1)) (fun c90 => ?_)
              refine w_aload_n dX12_join_93 rfl ?_
              refine w_iload_n dX12_join_94 rfl ?_
              refine w_iload_n dX12_join_95 rfl ?_
              refine v_icmp_ne 103 dX12_join_96 (by decide) (by clear hn h2n h2y; omega) (by clear hn h2n h2y; omega) (fun c96 => ?_) (fun c96 => absurd c96 (by clear hn h2n h2y; omega))
              refine w_iload_n dX12_join_103 rfl ?_
              refine w_aload_n dX12_join_104 rfl ?_
              refine v_getI dX12_join_105 fX12_181 ⟨by decide, rfl⟩ (Or.inl rfl) (fun z105 e105 b105 => ?_)
              refine v_callS1 dX12_join_108 lX12_169 vX12_rowOf (by decide) rfl rfl (Nat.le_of_ble_eq_true rfl) ?_
              have f105 : z105 = rd I' 171 23 := by rw [e105, rd_wr_row (by decide), rd_wr_row (by decide), rd_wr_row (by decide)]
              clear e105
              subst f105
              refine x12_rowOf (by omega) ?_
              refine w_aload_n dX12_join_111 rfl ?_
              refine v_getI dX12_join_112 fX12_181 ⟨by decide, rfl⟩ (Or.inl rfl) (fun z112 e112 b112 => ?_)
              refine v_callS1 dX12_join_115 lX12_172 vX12_columnOf (by decide) rfl rfl (Nat.le_of_ble_eq_true rfl) ?_
              have f112 : z112 = rd I' 171 23 := by rw [e112, rd_wr_row (by decide), rd_wr_row (by decide), rd_wr_row (by decide)]
              clear e112
              subst f112
              refine x12_columnOf (by omega) ?_
              refine v_callV3 dX12_join_118 lX12_145 vX12_puts (by decide) rfl rfl ⟨by decide, rfl⟩ (by decide) rfl (Nat.le_of_ble_eq_true rfl) ?_
              first
                | refine x12_puts a1 (by omega) (by omega) ?_
                | refine x12_puts b1 (by omega) (by omega) ?_
              refine w_aload_n dX12_join_121 rfl ?_
              refine v_getI dX12_join_122 fX12_175 ⟨by decide, rfl⟩ (Or.inl rfl) (fun z122 e122 b122 => ?_)
              refine v_iret dX12_join_125 rfl ⟨rfl, rfl⟩ ?_
              have f122 : z122 = rd I' 171 21 := by rw [e122, rd_wr_row (by decide), rd_wr_row (by decide), rd_wr_row (by decide), rd_wr_row (by decide), rd_wr_row (by decide), rd_wr_row (by decide)]
              rw [f122]
              refine h2y qa qb rfl a1 a2 a3 rfl b1 b2 b3 hne al _ _ _ b' bn nn _ ?_ (rg_pl (rg_pl g' nn.1) nn.2)
              rw [if_neg (show ¬ qa < qb by clear hn h2n h2y; omega)]
              exact sJ_mono (sJ_pl (b := qa) (sJ_pl (b := qb) s' (by omega)) (by omega)) (fun k g => g.1.1.elim g.2 g.1.2)
          · refine w_bipush (v := iI (-2)) dX12_join_50 (by decide) ?_
            refine v_iret dX12_join_52 rfl ⟨rfl, rfl⟩ ?_
            have bm : rd I' 171 21 = -1 := by rw [← e43]; exact c47
            exact h2n qa qb rfl a1 a2 a3 rfl b1 b2 b3 hne al (fun p q u => b'.2.1 bm _ _ ⟨p, q, u, rfl, rfl⟩) I' s' g'
        · refine v_if_ne 35 dX12_join_30 (by decide) (by decide) (fun q => absurd q (by decide)) (fun _ => ?_)
          refine w_iconst (v := iI (-1)) dX12_join_33 rfl ?_
          refine v_iret dX12_join_34 rfl ⟨rfl, rfl⟩ ?_
          first
            | exact hn (Or.inl na)
            | exact hn (Or.inr (Or.inl nb))
            | exact hn (Or.inr (Or.inr (Or.inr al)))
            | exact hn (Or.inr (Or.inr (Or.inl c23)))
theorem x12_joins {I : Nat → Nat → Int32} {J : Nat → Nat → Int64} {F : Option Value → zM → Prop} (hrg : rg I) {wn : Nat} (hw : rd I 171 12 = wn) (hw2 : wn ≤ 12) (hsz : ∀ w, w < wn → 1 ≤ rd I 183 w ∧ rd I 183 w ≤ 10) (hok : okL I 10) {a : Int} (ba : -2147483648 ≤ a ∧ a < 2147483648) (hn : ((∀ q : Nat, a = q → q < 10 → rd I 173 q ≠ 0 → rd I 177 q ≠ 0) ∨ ¬ anyL I) → F (some (.int (iI (-1)))) (gM I J)) (hy : ∀ qa : Nat, a = (qa : Nat) → qa < 10 → rd I 173 qa ≠ 0 → rd I 177 qa = 0 → anyL I → ∀ I', sJ (fun k => k = qa) I I' → rg I' → F (some (.int (iI (cn (fun p : Nat => pBo (fzA I (oL I) qa wn (p : Int))) 1344)))) (gM I' J)) : Cl yX12_joins kX12_joins [.ref 171, .int (iI a)] (gM I J) F := by
  refine cl_s (by decide) (by decide) (Nat.le_of_ble_eq_true rfl) rt_i ?_
  show Wp _ F 0 [(0, .ref 171), (1, .int (iI a))] [] _
  refine w_aload_n dX12_joins_0 rfl ?_
  refine w_iload_n dX12_joins_1 rfl ?_
  refine v_callV1 dX12_joins_2 lX12_204 vX12_mayJoin (by decide) rfl rfl ⟨by decide, rfl⟩ (by decide) rfl (Nat.le_of_ble_eq_true rfl) ?_
  refine x12_mayJoin (by omega) (fun na => ?_) (fun qa ea a1 a2 a3 => ?_)
  · refine v_if_eq 24 dX12_joins_5 (by decide) (by decide) (fun _ => ?_) (fun q => absurd q (by decide))
    refine w_iconst (v := iI (-1)) dX12_joins_24 rfl ?_
    refine v_iret dX12_joins_25 rfl ⟨rfl, rfl⟩ ?_
    exact hn (Or.inl na)
  · refine v_if_eq 24 dX12_joins_5 (by decide) (by decide) (fun q => absurd q (by decide)) (fun _ => ?_)
    refine w_aload_n dX12_joins_8 rfl ?_
    refine v_callV0 dX12_joins_9 lX12_207 vX12_anyLies (by decide) rfl rfl ⟨by decide, rfl⟩ (by decide) rfl (Nat.le_of_ble_eq_true rfl) ?_
    refine x12_anyLies (fun al => ?_) (fun al => ?_)
    · refine v_if_eq 24 dX12_joins_12 (by decide) (by decide) (fun q => absurd q (by decide)) (fun _ => ?_)
      refine w_aload_n dX12_joins_15 rfl ?_
      refine w_iload_n dX12_joins_16 rfl ?_
      refine w_iconst (v := iI (-1)) dX12_joins_17 rfl ?_
      refine v_callV2 dX12_joins_18 lX12_210 vX12_tries (by decide) rfl rfl ⟨by decide, rfl⟩ (by decide) rfl (Nat.le_of_ble_eq_true rfl) ?_
      subst ea
      refine x12_tries1 hrg hw hw2 hsz hok a1 a3 (fun I' s' g' b' => ?_)
      refine w_goto 25 dX12_joins_21 (by decide) ?_
      refine v_iret dX12_joins_25 rfl ⟨rfl, rfl⟩ ?_
      exact hy qa rfl a1 a2 a3 al I' s' g'
    · refine v_if_eq 24 dX12_joins_12 (by decide) (by decide) (fun _ => ?_) (fun q => absurd q (by decide))
      refine w_iconst (v := iI (-1)) dX12_joins_24 rfl ?_
      refine v_iret dX12_joins_25 rfl ⟨rfl, rfl⟩ ?_
      exact hn (Or.inr al)
