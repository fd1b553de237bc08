/-! tries -/
theorem x12_tries1_l {I : Nat → Nat → Int32} {J : Nat → Nat → Int64} {F : Option Value → zM → Prop} (hrg : rg I) {wn : Nat} (hw : rd I 171 12 = wn) (hw2 : wn ≤ 12) (hsz : ∀ w, w < wn → 1 ≤ rd I 183 w ∧ rd I 183 w ≤ 10) {a : Nat} (ha : a < 10) (ha0 : rd I 177 a = 0) (h : ∀ I', sF (fun k => k = a) I I' → rg I' → BS (rd I' 171 21) (rd I' 171 22) (rd I' 171 23) (fun x y => fzA I (fun k => rd I 187 k) a wn x ∧ y = 0) (fun x _ => wA (pl I a x)) → F (some (.int (iI (cn (fun p : Nat => pBo (fzA I (fun k => rd I 187 k) a wn (p : Int))) 1344)))) (gM I' J)) : ∀ (nz : Nat) (p : Nat) (n : Int) (I' : Nat → Nat → Int32), 1344 - p < nz → p ≤ 1344 → n = (cn (fun p : Nat => pBo (fzA I (fun k => rd I 187 k) a wn (p : Int))) p) → sF (fun k => k = a) I I' → rg I' → BS (rd I' 171 21) (rd I' 171 22) (rd I' 171 23) (fun x y => x < (p : Int) ∧ fzA I (fun k => rd I 187 k) a wn x ∧ y = 0) (fun x _ => wA (pl I a x)) → Wp (sE kX12_tries RX12) F 24 [(0, .ref 171), (1, .int (iI (a : Int))), (2, .int (iI (-1))), (3, .int (iI n)), (4, .int (iI (p : Int)))] [] (gM I' J) := by
  intro nz
  induction nz with
  | zero =>
    intro p n I' hmz hp hn hx hg hb1
    exact absurd hmz (Nat.not_lt_zero _)
  | succ nz ih =>
    intro p n I' hmz hp hn hx hg hb1
    refine w_iload dX12_tries_24 rfl ?_
    refine w_sipush (v := iI 1344) dX12_tries_26 (by decide) ?_
    refine v_icmp_ge 148 dX12_tries_29 (by decide) (by first | omega | (clear h q0; omega) | (clear h q0 q1; omega) | (clear h q0 q1 ql; omega)) (by first | omega | (clear h q0; omega) | (clear h q0 q1; omega) | (clear h q0 q1 ql; omega)) (fun c29 => ?_) (fun c29 => ?_)
    · refine w_iload_n dX12_tries_148 rfl ?_
      refine v_iret dX12_tries_149 rfl ⟨rfl, rfl⟩ ?_
      have e0 : p = 1344 := by omega
      rw [hn, e0]
      refine h I' hx hg (BS_cg hb1 (fun x y => ?_))
      constructor
      · rintro ⟨u2, u3⟩
        exact ⟨by have := nx_bd u2.1; omega, u2, u3⟩
      · rintro ⟨u1, u2, u3⟩
        exact ⟨u2, u3⟩
    · refine w_iload dX12_tries_32 rfl ?_
      refine v_callS1 dX12_tries_34 lX12_187 vX12_isNext (by decide) rfl rfl (Nat.le_of_ble_eq_true rfl) ?_
      refine x12_isNext (by omega) (fun qn => ?_) (fun qn => ?_)
      · refine v_if_ne 43 dX12_tries_37 (by decide) (by decide) (fun _ => ?_) (fun q => absurd q (by decide))
        refine w_aload_n dX12_tries_43 rfl ?_
        refine v_getR (j := 178) dX12_tries_44 fX12_29 ⟨by decide, rfl⟩ rfl rfl ?_
        refine w_iload_n dX12_tries_47 rfl ?_
        refine w_iload dX12_tries_48 rfl ?_
        refine v_callS1 dX12_tries_50 lX12_169 vX12_rowOf (by decide) rfl rfl (Nat.le_of_ble_eq_true rfl) ?_
        refine x12_rowOf (by omega) ?_
        refine v_iast dX12_tries_53 ⟨by decide, rfl⟩ (by first | omega | (clear h q0; omega) | (clear h q0 q1; omega) | (clear h q0 q1 ql; omega)) (by first | omega | (clear h q0; omega) | (clear h q0 q1; omega) | (clear h q0 q1 ql; omega)) (by decide) ?_
        refine w_aload_n dX12_tries_54 rfl ?_
        refine v_getR (j := 179) dX12_tries_55 fX12_32 ⟨by decide, rfl⟩ rfl rfl ?_
        refine w_iload_n dX12_tries_58 rfl ?_
        refine w_iload dX12_tries_59 rfl ?_
        refine v_callS1 dX12_tries_61 lX12_172 vX12_columnOf (by decide) rfl rfl (Nat.le_of_ble_eq_true rfl) ?_
        refine x12_columnOf (by omega) ?_
        refine v_iast dX12_tries_64 ⟨by decide, rfl⟩ (by first | omega | (clear h q0; omega) | (clear h q0 q1; omega) | (clear h q0 q1 ql; omega)) (by first | omega | (clear h q0; omega) | (clear h q0 q1; omega) | (clear h q0 q1 ql; omega)) (by decide) ?_
        refine w_aload_n dX12_tries_65 rfl ?_
        refine w_iload_n dX12_tries_66 rfl ?_
        refine v_callV1 dX12_tries_67 lX12_190 vX12_fits (by decide) rfl rfl ⟨by decide, rfl⟩ (by decide) rfl (Nat.le_of_ble_eq_true rfl) ?_
        rw [Int.toNat_natCast]
        have nq : -4 ≤ (p : Int) / 64 - 5 ∧ (p : Int) / 64 - 5 ≤ 15 ∧ -9 ≤ (p : Int) % 64 - 10 ∧ (p : Int) % 64 - 10 ≤ 31 := qn
        have g2 := rg_put2 (a := a) (R := ((p : Int) / 64 - 5)) (C := ((p : Int) % 64 - 10)) hg (by omega) (by omega)
        have ee : (fun k => rd (wr (wr I' 178 a ((p : Int) / 64 - 5)) 179 a ((p : Int) % 64 - 10)) 187 k) = (fun k => rd I 187 k) := funext fun k => by rw [rd_wr_row (by decide), rd_wr_row (by decide)]; exact hx _ _ (by unfold S3; omega)
        have er : rd (wr (wr I' 178 a ((p : Int) / 64 - 5)) 179 a ((p : Int) % 64 - 10)) 178 a = ((p : Int) / 64 - 5) := by rw [rd_wr_row (by decide), rd_wr_eq (by omega) (by omega)]
        have ec : rd (wr (wr I' 178 a ((p : Int) / 64 - 5)) 179 a ((p : Int) % 64 - 10)) 179 a = ((p : Int) % 64 - 10) := rd_wr_eq (by omega) (by omega)
        have ece : rce (wr (wr I' 178 a ((p : Int) / 64 - 5)) 179 a ((p : Int) % 64 - 10)) a = rce I a := funext fun k => by unfold rce; rw [rd_wr_row (by decide), rd_wr_row (by decide)]; exact hx _ _ (by unfold S3; omega)
        refine x12_fits ha (g2 a ha).1 (g2 a ha).2 (fun q0 => ?_) (fun q0 q1 => ?_) (fun q0 q1 => ?_)
        all_goals rw [ee, er, ec, ece] at q0
        all_goals (try rw [ee, er, ec, ece] at q1)
        · refine w_istore dX12_tries_70 rfl rfl ?_
          refine w_iload dX12_tries_72 rfl ?_
          refine v_if_eq 142 dX12_tries_74 (by decide) (by decide) (fun _ => ?_) (fun q => absurd q (by decide))
          refine v_iinc dX12_tries_142 rfl rfl rfl ?_
          refine w_goto 24 dX12_tries_145 (by decide) ?_
          first
            | (rw [show (p : Int) + 1 = ((p + 1 : Nat) : Int) by omega]
               have nf : ¬ fzA I (fun k => rd I 187 k) a wn p := fun v => by
                 exact qn v.1
               have cnn : n = (cn (fun p : Nat => pBo (fzA I (fun k => rd I 187 k) a wn (p : Int))) (p + 1)) := by
                 rw [cn, pBo_f nf, hn]; simp
               refine ih (p + 1) n _ (by omega) (by omega) cnn hx hg (BS_cg hb1 (fun x y => ?_))
               constructor
               · rintro ⟨u1, u2, u3⟩
                 refine ⟨?_, u2, u3⟩
                 by_cases g : x < p
                 · exact g
                 · have g2 : x = p := by omega
                   rw [g2] at u2
                   exact absurd u2 nf
               · rintro ⟨u1, u2, u3⟩
                 exact ⟨by omega, u2, u3⟩)
            | (refine w_keep 5 ?_
               rw [show (p : Int) + 1 = ((p + 1 : Nat) : Int) by omega]
               have nf : ¬ fzA I (fun k => rd I 187 k) a wn p := fun v => by
                 first | exact q0 v.2.1 | exact q1 v.2.2.1
               have cnn : n = (cn (fun p : Nat => pBo (fzA I (fun k => rd I 187 k) a wn (p : Int))) (p + 1)) := by
                 rw [cn, pBo_f nf, hn]; simp
               refine ih (p + 1) n _ (by omega) (by omega) cnn (fun id k g => by
                 have g1 : ¬ (id = 178 ∧ k = a) := fun u => g (Or.inr (Or.inr ⟨Or.inl u.1, u.2⟩))
                 have g2 : ¬ (id = 179 ∧ k = a) := fun u => g (Or.inr (Or.inr ⟨Or.inr u.1, u.2⟩))
                 rw [rd_wr_ne g2, rd_wr_ne g1]; exact hx id k g) g2 (BS_cg (by rw [rd_wr_row (by decide), rd_wr_row (by decide), rd_wr_row (by decide), rd_wr_row (by decide), rd_wr_row (by decide), rd_wr_row (by decide)]; exact hb1) (fun x y => ?_))
               constructor
               · rintro ⟨u1, u2, u3⟩
                 refine ⟨?_, u2, u3⟩
                 by_cases g : x < p
                 · exact g
                 · have g2 : x = p := by omega
                   rw [g2] at u2
                   exact absurd u2 nf
               · rintro ⟨u1, u2, u3⟩
                 exact ⟨by omega, u2, u3⟩)
            | (refine w_keep 5 ?_
               rw [Int.toNat_natCast]
               have sO := sF_off t5 (by omega) ha0
               rw [show (p : Int) + 1 = ((p + 1 : Nat) : Int) by omega]
               have nf : ¬ fzA I (fun k => rd I 187 k) a wn p := fun v => by
                 exact ql v.2.2.2
               have cnn : n = (cn (fun p : Nat => pBo (fzA I (fun k => rd I 187 k) a wn (p : Int))) (p + 1)) := by
                 rw [cn, pBo_f nf, hn]; simp
               refine ih (p + 1) n _ (by omega) (by omega) cnn (sF_mono sO (fun k g => g.elim (fun u => u.1) id)) (rg_cg g5 (fun k => rd_wr_row (by decide)) (fun k => rd_wr_row (by decide))) (BS_cg (by rw [rd_wr_row (by decide), rd_wr_row (by decide), rd_wr_row (by decide), m5 171 21 (by unfold S3; omega), rd_wr_row (by decide), rd_wr_row (by decide), rd_wr_row (by decide), m5 171 22 (by unfold S3; omega), rd_wr_row (by decide), rd_wr_row (by decide), rd_wr_row (by decide), m5 171 23 (by unfold S3; omega), rd_wr_row (by decide), rd_wr_row (by decide), rd_wr_row (by decide)]; exact hb1) (fun x y => ?_))
               constructor
               · rintro ⟨u1, u2, u3⟩
                 refine ⟨?_, u2, u3⟩
                 by_cases g : x < p
                 · exact g
                 · have g2 : x = p := by omega
                   rw [g2] at u2
                   exact absurd u2 nf
               · rintro ⟨u1, u2, u3⟩
                 exact ⟨by omega, u2, u3⟩)
            | (refine w_keep 5 ?_
               rw [Int.toNat_natCast]
               rw [show (p : Int) + 1 = ((p + 1 : Nat) : Int) by omega]
               have cnn : n + 1 = (cn (fun p : Nat => pBo (fzA I (fun k => rd I 187 k) a wn (p : Int))) (p + 1)) := by
                 rw [cn, pBo_t fz, hn]; simp
               have sO := sF_off t5 (by omega) ha0
               refine ih (p + 1) (n + 1) _ (by omega) (by omega) cnn (sF_mono sO (fun k g => g.elim (fun u => u.1) id)) (rg_cg g5 (fun k => rd_wr_row (by decide)) (fun k => rd_wr_row (by decide))) ?_
               rw [rd_wr_row (by decide), rd_wr_row (by decide), rd_wr_row (by decide), b21, b22, b23]
               refine BS_cg (BS_no (x := (p : Int)) (y := 0) hb1 rfl (by rw [← wv]; exact wb.1) qh) (fun x y => ?_)
               constructor
               · rintro ⟨u1, u2, u3⟩
                 by_cases g : x < p
                 · exact Or.inl ⟨g, u2, u3⟩
                 · exact Or.inr ⟨by omega, u3⟩
               · rintro (⟨u1, u2, u3⟩ | ⟨u1, u2⟩)
                 · exact ⟨by omega, u2, u3⟩
                 · rw [u1]; exact ⟨by omega, fz, u2⟩)
            | (refine w_keep 5 ?_
               rw [Int.toNat_natCast]
               rw [show (p : Int) + 1 = ((p + 1 : Nat) : Int) by omega]
               have cnn : n + 1 = (cn (fun p : Nat => pBo (fzA I (fun k => rd I 187 k) a wn (p : Int))) (p + 1)) := by
                 rw [cn, pBo_t fz, hn]; simp
               have t6 := sF_b (v := wNow I5) (x := (p : Int)) (y := 0) t5
               have sO := sF_off t6 (by omega) ha0
               have g6 : rg (wr (wr (wr I5 171 21 (wNow I5)) 171 22 p) 171 23 0) := rg_cg g5 (fun k => by rw [rd_wr_row (by decide), rd_wr_row (by decide), rd_wr_row (by decide)]) (fun k => by rw [rd_wr_row (by decide), rd_wr_row (by decide), rd_wr_row (by decide)])
               have r21 : rd (wr (wr (wr (wr I5 171 21 (wNow I5)) 171 22 p) 171 23 0) 177 a 0) 171 21 = wNow I5 := by rw [rd_wr_row (by decide), rd_wr_ne (by decide), rd_wr_ne (by decide), rd_wr_eq (by omega) (by omega)]
               have r22 : rd (wr (wr (wr (wr I5 171 21 (wNow I5)) 171 22 p) 171 23 0) 177 a 0) 171 22 = p := by rw [rd_wr_row (by decide), rd_wr_ne (by decide), rd_wr_eq (by omega) (by omega)]
               have r23 : rd (wr (wr (wr (wr I5 171 21 (wNow I5)) 171 22 p) 171 23 0) 177 a 0) 171 23 = 0 := by rw [rd_wr_row (by decide), rd_wr_eq (by omega) (by omega)]
               refine ih (p + 1) (n + 1) _ (by omega) (by omega) cnn (sF_mono sO (fun k g => g.elim (fun u => u.1) id)) (rg_cg g6 (fun k => rd_wr_row (by decide)) (fun k => rd_wr_row (by decide))) ?_
               rw [r21, r22, r23, wv]
               refine BS_cg (BS_yes (x := (p : Int)) (y := 0) hb1 rfl (by rw [← wv]; exact wb.1) qh) (fun x y => ?_)
               constructor
               · rintro ⟨u1, u2, u3⟩
                 by_cases g : x < p
                 · exact Or.inl ⟨g, u2, u3⟩
                 · exact Or.inr ⟨by omega, u3⟩
               · rintro (⟨u1, u2, u3⟩ | ⟨u1, u2⟩)
                 · exact ⟨by omega, u2, u3⟩
                 · rw [u1]; exact ⟨by omega, fz, u2⟩)
        · refine w_istore dX12_tries_70 rfl rfl ?_
          refine w_iload dX12_tries_72 rfl ?_
          refine v_if_eq 142 dX12_tries_74 (by decide) (by decide) (fun q => absurd q (by decide)) (fun _ => ?_)
          refine w_iload_n dX12_tries_77 rfl ?_
          refine w_iconst (v := iI (-1)) dX12_tries_78 rfl ?_
          refine v_icmp_ne 91 dX12_tries_79 (by decide) (by decide) (by decide) (fun q => absurd q (by decide)) (fun _ => ?_)
          refine w_iload dX12_tries_82 rfl ?_
          refine w_iconst (v := iI 2) dX12_tries_84 rfl ?_
          refine v_icmp_ge 91 dX12_tries_85 (by decide) (by decide) (by decide) (fun q => absurd q (by decide)) (fun _ => ?_)
          refine w_goto 142 dX12_tries_88 (by decide) ?_
          refine v_iinc dX12_tries_142 rfl rfl rfl ?_
          refine w_goto 24 dX12_tries_145 (by decide) ?_
          first
            | (rw [show (p : Int) + 1 = ((p + 1 : Nat) : Int) by omega]
               have nf : ¬ fzA I (fun k => rd I 187 k) a wn p := fun v => by
                 exact qn v.1
               have cnn : n = (cn (fun p : Nat => pBo (fzA I (fun k => rd I 187 k) a wn (p : Int))) (p + 1)) := by
                 rw [cn, pBo_f nf, hn]; simp
               refine ih (p + 1) n _ (by omega) (by omega) cnn hx hg (BS_cg hb1 (fun x y => ?_))
               constructor
               · rintro ⟨u1, u2, u3⟩
                 refine ⟨?_, u2, u3⟩
                 by_cases g : x < p
                 · exact g
                 · have g2 : x = p := by omega
                   rw [g2] at u2
                   exact absurd u2 nf
               · rintro ⟨u1, u2, u3⟩
                 exact ⟨by omega, u2, u3⟩)
            | (refine w_keep 5 ?_
               rw [show (p : Int) + 1 = ((p + 1 : Nat) : Int) by omega]
               have nf : ¬ fzA I (fun k => rd I 187 k) a wn p := fun v => by
                 first | exact q0 v.2.1 | exact q1 v.2.2.1
               have cnn : n = (cn (fun p : Nat => pBo (fzA I (fun k => rd I 187 k) a wn (p : Int))) (p + 1)) := by
                 rw [cn, pBo_f nf, hn]; simp
               refine ih (p + 1) n _ (by omega) (by omega) cnn (fun id k g => by
                 have g1 : ¬ (id = 178 ∧ k = a) := fun u => g (Or.inr (Or.inr ⟨Or.inl u.1, u.2⟩))
                 have g2 : ¬ (id = 179 ∧ k = a) := fun u => g (Or.inr (Or.inr ⟨Or.inr u.1, u.2⟩))
                 rw [rd_wr_ne g2, rd_wr_ne g1]; exact hx id k g) g2 (BS_cg (by rw [rd_wr_row (by decide), rd_wr_row (by decide), rd_wr_row (by decide), rd_wr_row (by decide), rd_wr_row (by decide), rd_wr_row (by decide)]; exact hb1) (fun x y => ?_))
               constructor
               · rintro ⟨u1, u2, u3⟩
                 refine ⟨?_, u2, u3⟩
                 by_cases g : x < p
                 · exact g
                 · have g2 : x = p := by omega
                   rw [g2] at u2
                   exact absurd u2 nf
               · rintro ⟨u1, u2, u3⟩
                 exact ⟨by omega, u2, u3⟩)
            | (refine w_keep 5 ?_
               rw [Int.toNat_natCast]
               have sO := sF_off t5 (by omega) ha0
               rw [show (p : Int) + 1 = ((p + 1 : Nat) : Int) by omega]
               have nf : ¬ fzA I (fun k => rd I 187 k) a wn p := fun v => by
                 exact ql v.2.2.2
               have cnn : n = (cn (fun p : Nat => pBo (fzA I (fun k => rd I 187 k) a wn (p : Int))) (p + 1)) := by
                 rw [cn, pBo_f nf, hn]; simp
               refine ih (p + 1) n _ (by omega) (by omega) cnn (sF_mono sO (fun k g => g.elim (fun u => u.1) id)) (rg_cg g5 (fun k => rd_wr_row (by decide)) (fun k => rd_wr_row (by decide))) (BS_cg (by rw [rd_wr_row (by decide), rd_wr_row (by decide), rd_wr_row (by decide), m5 171 21 (by unfold S3; omega), rd_wr_row (by decide), rd_wr_row (by decide), rd_wr_row (by decide), m5 171 22 (by unfold S3; omega), rd_wr_row (by decide), rd_wr_row (by decide), rd_wr_row (by decide), m5 171 23 (by unfold S3; omega), rd_wr_row (by decide), rd_wr_row (by decide), rd_wr_row (by decide)]; exact hb1) (fun x y => ?_))
               constructor
               · rintro ⟨u1, u2, u3⟩
                 refine ⟨?_, u2, u3⟩
                 by_cases g : x < p
                 · exact g
                 · have g2 : x = p := by omega
                   rw [g2] at u2
                   exact absurd u2 nf
               · rintro ⟨u1, u2, u3⟩
                 exact ⟨by omega, u2, u3⟩)
            | (refine w_keep 5 ?_
               rw [Int.toNat_natCast]
               rw [show (p : Int) + 1 = ((p + 1 : Nat) : Int) by omega]
               have cnn : n + 1 = (cn (fun p : Nat => pBo (fzA I (fun k => rd I 187 k) a wn (p : Int))) (p + 1)) := by
                 rw [cn, pBo_t fz, hn]; simp
               have sO := sF_off t5 (by omega) ha0
               refine ih (p + 1) (n + 1) _ (by omega) (by omega) cnn (sF_mono sO (fun k g => g.elim (fun u => u.1) id)) (rg_cg g5 (fun k => rd_wr_row (by decide)) (fun k => rd_wr_row (by decide))) ?_
               rw [rd_wr_row (by decide), rd_wr_row (by decide), rd_wr_row (by decide), b21, b22, b23]
               refine BS_cg (BS_no (x := (p : Int)) (y := 0) hb1 rfl (by rw [← wv]; exact wb.1) qh) (fun x y => ?_)
               constructor
               · rintro ⟨u1, u2, u3⟩
                 by_cases g : x < p
                 · exact Or.inl ⟨g, u2, u3⟩
                 · exact Or.inr ⟨by omega, u3⟩
               · rintro (⟨u1, u2, u3⟩ | ⟨u1, u2⟩)
                 · exact ⟨by omega, u2, u3⟩
                 · rw [u1]; exact ⟨by omega, fz, u2⟩)
            | (refine w_keep 5 ?_
               rw [Int.toNat_natCast]
               rw [show (p : Int) + 1 = ((p + 1 : Nat) : Int) by omega]
               have cnn : n + 1 = (cn (fun p : Nat => pBo (fzA I (fun k => rd I 187 k) a wn (p : Int))) (p + 1)) := by
                 rw [cn, pBo_t fz, hn]; simp
               have t6 := sF_b (v := wNow I5) (x := (p : Int)) (y := 0) t5
               have sO := sF_off t6 (by omega) ha0
               have g6 : rg (wr (wr (wr I5 171 21 (wNow I5)) 171 22 p) 171 23 0) := rg_cg g5 (fun k => by rw [rd_wr_row (by decide), rd_wr_row (by decide), rd_wr_row (by decide)]) (fun k => by rw [rd_wr_row (by decide), rd_wr_row (by decide), rd_wr_row (by decide)])
               have r21 : rd (wr (wr (wr (wr I5 171 21 (wNow I5)) 171 22 p) 171 23 0) 177 a 0) 171 21 = wNow I5 := by rw [rd_wr_row (by decide), rd_wr_ne (by decide), rd_wr_ne (by decide), rd_wr_eq (by omega) (by omega)]
               have r22 : rd (wr (wr (wr (wr I5 171 21 (wNow I5)) 171 22 p) 171 23 0) 177 a 0) 171 22 = p := by rw [rd_wr_row (by decide), rd_wr_ne (by decide), rd_wr_eq (by omega) (by omega)]
               have r23 : rd (wr (wr (wr (wr I5 171 21 (wNow I5)) 171 22 p) 171 23 0) 177 a 0) 171 23 = 0 := by rw [rd_wr_row (by decide), rd_wr_eq (by omega) (by omega)]
               refine ih (p + 1) (n + 1) _ (by omega) (by omega) cnn (sF_mono sO (fun k g => g.elim (fun u => u.1) id)) (rg_cg g6 (fun k => rd_wr_row (by decide)) (fun k => rd_wr_row (by decide))) ?_
               rw [r21, r22, r23, wv]
               refine BS_cg (BS_yes (x := (p : Int)) (y := 0) hb1 rfl (by rw [← wv]; exact wb.1) qh) (fun x y => ?_)
               constructor
               · rintro ⟨u1, u2, u3⟩
                 by_cases g : x < p
                 · exact Or.inl ⟨g, u2, u3⟩
                 · exact Or.inr ⟨by omega, u3⟩
               · rintro (⟨u1, u2, u3⟩ | ⟨u1, u2⟩)
                 · exact ⟨by omega, u2, u3⟩
                 · rw [u1]; exact ⟨by omega, fz, u2⟩)
        · refine w_istore dX12_tries_70 rfl rfl ?_
          refine w_iload dX12_tries_72 rfl ?_
          refine v_if_eq 142 dX12_tries_74 (by decide) (by decide) (fun q => absurd q (by decide)) (fun _ => ?_)
          refine w_iload_n dX12_tries_77 rfl ?_
          refine w_iconst (v := iI (-1)) dX12_tries_78 rfl ?_
          refine v_icmp_ne 91 dX12_tries_79 (by decide) (by decide) (by decide) (fun q => absurd q (by decide)) (fun _ => ?_)
          refine w_iload dX12_tries_82 rfl ?_
          refine w_iconst (v := iI 2) dX12_tries_84 rfl ?_
          refine v_icmp_ge 91 dX12_tries_85 (by decide) (by decide) (by decide) (fun _ => ?_) (fun q => absurd q (by decide))
          refine w_aload_n dX12_tries_91 rfl ?_
          refine v_getR (j := 177) dX12_tries_92 fX12_26 ⟨by decide, rfl⟩ rfl rfl ?_
          refine w_iload_n dX12_tries_95 rfl ?_
          refine w_iconst (v := iI 1) dX12_tries_96 rfl ?_
          refine v_zast dX12_tries_97 ⟨by decide, rfl⟩ (by first | omega | (clear h q0; omega) | (clear h q0 q1; omega) | (clear h q0 q1 ql; omega)) (by first | omega | (clear h q0; omega) | (clear h q0 q1; omega) | (clear h q0 q1 ql; omega)) (by decide) (by decide) ?_
          refine w_iload_n dX12_tries_98 rfl ?_
          refine w_iconst (v := iI (-1)) dX12_tries_99 rfl ?_
          refine v_icmp_eq 116 dX12_tries_100 (by decide) (by decide) (by decide) (fun _ => ?_) (fun q => absurd q (by decide))
          refine w_aload_n dX12_tries_116 rfl ?_
          refine v_callV0 dX12_tries_117 lX12_149 vX12_mayLie (by decide) rfl rfl ⟨by decide, rfl⟩ (by decide) rfl (Nat.le_of_ble_eq_true rfl) ?_
          rw [Int.toNat_natCast]
          have g3 : rg (wr (wr (wr I' 178 a ((p : Int) / 64 - 5)) 179 a ((p : Int) % 64 - 10)) 177 a 1) := rg_cg g2 (fun k => rd_wr_row (by decide)) (fun k => rd_wr_row (by decide))
          have s3 : sF (fun k => k = a ∧ k ≠ a) (pl I a p) (wr (wr (wr I' 178 a ((p : Int) / 64 - 5)) 179 a ((p : Int) % 64 - 10)) 177 a 1) := sF_put hx (by omega)
          have r3 : fR (pl I a p) (wr (wr (wr I' 178 a ((p : Int) / 64 - 5)) 179 a ((p : Int) % 64 - 10)) 177 a 1) := sF_R s3 (fun k g => g.2 g.1)
          have w3 : rd (wr (wr (wr I' 178 a ((p : Int) / 64 - 5)) 179 a ((p : Int) % 64 - 10)) 177 a 1) 171 12 = wn := by
            rw [s3 171 12 (by unfold S3; omega), pl_rd (by omega), if_neg (by omega), if_neg (by omega), if_neg (by omega)]; exact hw
          have z3 : ∀ k, rd (wr (wr (wr I' 178 a ((p : Int) / 64 - 5)) 179 a ((p : Int) % 64 - 10)) 177 a 1) 183 k = rd I 183 k := fun k => by
            rw [s3 183 k (by unfold S3; omega), pl_rd (by omega), if_neg (by omega), if_neg (by omega), if_neg (by omega)]
          refine x12_mayLie (fun d hd => (g3 d hd).1) (fun d hd => (g3 d hd).2) w3 hw2 (fun w g => by rw [z3]; exact hsz w g) (fun ql I5 s5 m5 => ?_) (fun ql I5 m5 => ?_)
          all_goals rw [mL_R r3] at ql
          all_goals have g5 := rg_3 g3 m5
          all_goals have t5 := sF_3 s3 m5
          · refine v_if_eq 135 dX12_tries_120 (by decide) (by decide) (fun q => absurd q (by decide)) (fun _ => ?_)
            refine v_iinc dX12_tries_123 rfl rfl rfl ?_
            refine w_aload_n dX12_tries_126 rfl ?_
            refine w_iload_n dX12_tries_127 rfl ?_
            refine w_iload_n dX12_tries_128 rfl ?_
            refine w_iload dX12_tries_129 rfl ?_
            refine w_iconst (v := iI 0) dX12_tries_131 rfl ?_
            refine v_callV4 dX12_tries_132 lX12_197 vX12_holds (by decide) rfl rfl ⟨by decide, rfl⟩ (by decide) rfl (Nat.le_of_ble_eq_true rfl) ?_
            have wv : wNow I5 = wA (pl I a p) := by rw [wNow_sh s5 m5]; exact wA_R r3
            have wb := wNow_bd I5
            have bst : ∀ k, 21 ≤ k → rd I5 171 k = rd I' 171 k := fun k g => by
              rw [m5 _ _ (by unfold S3; omega), rd_wr_row (by decide), rd_wr_row (by decide), rd_wr_row (by decide)]
            have b21 := bst 21 (by decide)
            have b22 := bst 22 (by decide)
            have b23 := bst 23 (by decide)
            have fz : fzA I (fun k => rd I 187 k) a wn p := ⟨qn, q0, q1, ql⟩
            have ex : xx (a : Int) (-1) p 0 = p := if_pos (Or.inl rfl)
            have ey : yy (a : Int) (-1) p 0 = 0 := if_pos (Or.inl rfl)
            refine x12_holds g5 (a := (a : Int)) (b := -1) (p := (p : Int)) (q := 0) (by omega) (by omega) (by omega) (by omega) (fun qh => ?_) (fun qh => ?_)
            all_goals rw [b21, b22, b23, wv, ex, ey] at qh
            rotate_left
            rw [ex, ey]
            rotate_left
            · refine w_aload_n dX12_tries_135 rfl ?_
              refine v_getR (j := 177) dX12_tries_136 fX12_26 ⟨by decide, rfl⟩ rfl rfl ?_
              refine w_iload_n dX12_tries_139 rfl ?_
              refine w_iconst (v := iI 0) dX12_tries_140 rfl ?_
              refine v_zast dX12_tries_141 ⟨by decide, rfl⟩ (by first | omega | (clear h q0; omega) | (clear h q0 q1; omega) | (clear h q0 q1 ql; omega)) (by first | omega | (clear h q0; omega) | (clear h q0 q1; omega) | (clear h q0 q1 ql; omega)) (by decide) (by decide) ?_
              refine v_iinc dX12_tries_142 rfl rfl rfl ?_
              refine w_goto 24 dX12_tries_145 (by decide) ?_
              first
                | (rw [show (p : Int) + 1 = ((p + 1 : Nat) : Int) by omega]
                   have nf : ¬ fzA I (fun k => rd I 187 k) a wn p := fun v => by
                     exact qn v.1
                   have cnn : n = (cn (fun p : Nat => pBo (fzA I (fun k => rd I 187 k) a wn (p : Int))) (p + 1)) := by
                     rw [cn, pBo_f nf, hn]; simp
                   refine ih (p + 1) n _ (by omega) (by omega) cnn hx hg (BS_cg hb1 (fun x y => ?_))
                   constructor
                   · rintro ⟨u1, u2, u3⟩
                     refine ⟨?_, u2, u3⟩
                     by_cases g : x < p
                     · exact g
                     · have g2 : x = p := by omega
                       rw [g2] at u2
                       exact absurd u2 nf
                   · rintro ⟨u1, u2, u3⟩
                     exact ⟨by omega, u2, u3⟩)
                | (refine w_keep 5 ?_
                   rw [show (p : Int) + 1 = ((p + 1 : Nat) : Int) by omega]
                   have nf : ¬ fzA I (fun k => rd I 187 k) a wn p := fun v => by
                     first | exact q0 v.2.1 | exact q1 v.2.2.1
                   have cnn : n = (cn (fun p : Nat => pBo (fzA I (fun k => rd I 187 k) a wn (p : Int))) (p + 1)) := by
                     rw [cn, pBo_f nf, hn]; simp
                   refine ih (p + 1) n _ (by omega) (by omega) cnn (fun id k g => by
                     have g1 : ¬ (id = 178 ∧ k = a) := fun u => g (Or.inr (Or.inr ⟨Or.inl u.1, u.2⟩))
                     have g2 : ¬ (id = 179 ∧ k = a) := fun u => g (Or.inr (Or.inr ⟨Or.inr u.1, u.2⟩))
                     rw [rd_wr_ne g2, rd_wr_ne g1]; exact hx id k g) g2 (BS_cg (by rw [rd_wr_row (by decide), rd_wr_row (by decide), rd_wr_row (by decide), rd_wr_row (by decide), rd_wr_row (by decide), rd_wr_row (by decide)]; exact hb1) (fun x y => ?_))
                   constructor
                   · rintro ⟨u1, u2, u3⟩
                     refine ⟨?_, u2, u3⟩
                     by_cases g : x < p
                     · exact g
                     · have g2 : x = p := by omega
                       rw [g2] at u2
                       exact absurd u2 nf
                   · rintro ⟨u1, u2, u3⟩
                     exact ⟨by omega, u2, u3⟩)
                | (refine w_keep 5 ?_
                   rw [Int.toNat_natCast]
                   have sO := sF_off t5 (by omega) ha0
                   rw [show (p : Int) + 1 = ((p + 1 : Nat) : Int) by omega]
                   have nf : ¬ fzA I (fun k => rd I 187 k) a wn p := fun v => by
                     exact ql v.2.2.2
                   have cnn : n = (cn (fun p : Nat => pBo (fzA I (fun k => rd I 187 k) a wn (p : Int))) (p + 1)) := by
                     rw [cn, pBo_f nf, hn]; simp
                   refine ih (p + 1) n _ (by omega) (by omega) cnn (sF_mono sO (fun k g => g.elim (fun u => u.1) id)) (rg_cg g5 (fun k => rd_wr_row (by decide)) (fun k => rd_wr_row (by decide))) (BS_cg (by rw [rd_wr_row (by decide), rd_wr_row (by decide), rd_wr_row (by decide), m5 171 21 (by unfold S3; omega), rd_wr_row (by decide), rd_wr_row (by decide), rd_wr_row (by decide), m5 171 22 (by unfold S3; omega), rd_wr_row (by decide), rd_wr_row (by decide), rd_wr_row (by decide), m5 171 23 (by unfold S3; omega), rd_wr_row (by decide), rd_wr_row (by decide), rd_wr_row (by decide)]; exact hb1) (fun x y => ?_))
                   constructor
                   · rintro ⟨u1, u2, u3⟩
                     refine ⟨?_, u2, u3⟩
                     by_cases g : x < p
                     · exact g
                     · have g2 : x = p := by omega
                       rw [g2] at u2
                       exact absurd u2 nf
                   · rintro ⟨u1, u2, u3⟩
                     exact ⟨by omega, u2, u3⟩)
                | (refine w_keep 5 ?_
                   rw [Int.toNat_natCast]
                   rw [show (p : Int) + 1 = ((p + 1 : Nat) : Int) by omega]
                   have cnn : n + 1 = (cn (fun p : Nat => pBo (fzA I (fun k => rd I 187 k) a wn (p : Int))) (p + 1)) := by
                     rw [cn, pBo_t fz, hn]; simp
                   have sO := sF_off t5 (by omega) ha0
                   refine ih (p + 1) (n + 1) _ (by omega) (by omega) cnn (sF_mono sO (fun k g => g.elim (fun u => u.1) id)) (rg_cg g5 (fun k => rd_wr_row (by decide)) (fun k => rd_wr_row (by decide))) ?_
                   rw [rd_wr_row (by decide), rd_wr_row (by decide), rd_wr_row (by decide), b21, b22, b23]
                   refine BS_cg (BS_no (x := (p : Int)) (y := 0) hb1 rfl (by rw [← wv]; exact wb.1) qh) (fun x y => ?_)
                   constructor
                   · rintro ⟨u1, u2, u3⟩
                     by_cases g : x < p
                     · exact Or.inl ⟨g, u2, u3⟩
                     · exact Or.inr ⟨by omega, u3⟩
                   · rintro (⟨u1, u2, u3⟩ | ⟨u1, u2⟩)
                     · exact ⟨by omega, u2, u3⟩
                     · rw [u1]; exact ⟨by omega, fz, u2⟩)
                | (refine w_keep 5 ?_
                   rw [Int.toNat_natCast]
                   rw [show (p : Int) + 1 = ((p + 1 : Nat) : Int) by omega]
                   have cnn : n + 1 = (cn (fun p : Nat => pBo (fzA I (fun k => rd I 187 k) a wn (p : Int))) (p + 1)) := by
                     rw [cn, pBo_t fz, hn]; simp
                   have t6 := sF_b (v := wNow I5) (x := (p : Int)) (y := 0) t5
                   have sO := sF_off t6 (by omega) ha0
                   have g6 : rg (wr (wr (wr I5 171 21 (wNow I5)) 171 22 p) 171 23 0) := rg_cg g5 (fun k => by rw [rd_wr_row (by decide), rd_wr_row (by decide), rd_wr_row (by decide)]) (fun k => by rw [rd_wr_row (by decide), rd_wr_row (by decide), rd_wr_row (by decide)])
                   have r21 : rd (wr (wr (wr (wr I5 171 21 (wNow I5)) 171 22 p) 171 23 0) 177 a 0) 171 21 = wNow I5 := by rw [rd_wr_row (by decide), rd_wr_ne (by decide), rd_wr_ne (by decide), rd_wr_eq (by omega) (by omega)]
                   have r22 : rd (wr (wr (wr (wr I5 171 21 (wNow I5)) 171 22 p) 171 23 0) 177 a 0) 171 22 = p := by rw [rd_wr_row (by decide), rd_wr_ne (by decide), rd_wr_eq (by omega) (by omega)]
                   have r23 : rd (wr (wr (wr (wr I5 171 21 (wNow I5)) 171 22 p) 171 23 0) 177 a 0) 171 23 = 0 := by rw [rd_wr_row (by decide), rd_wr_eq (by omega) (by omega)]
                   refine ih (p + 1) (n + 1) _ (by omega) (by omega) cnn (sF_mono sO (fun k g => g.elim (fun u => u.1) id)) (rg_cg g6 (fun k => rd_wr_row (by decide)) (fun k => rd_wr_row (by decide))) ?_
                   rw [r21, r22, r23, wv]
                   refine BS_cg (BS_yes (x := (p : Int)) (y := 0) hb1 rfl (by rw [← wv]; exact wb.1) qh) (fun x y => ?_)
                   constructor
                   · rintro ⟨u1, u2, u3⟩
                     by_cases g : x < p
                     · exact Or.inl ⟨g, u2, u3⟩
                     · exact Or.inr ⟨by omega, u3⟩
                   · rintro (⟨u1, u2, u3⟩ | ⟨u1, u2⟩)
                     · exact ⟨by omega, u2, u3⟩
                     · rw [u1]; exact ⟨by omega, fz, u2⟩)
            · refine w_aload_n dX12_tries_135 rfl ?_
              refine v_getR (j := 177) dX12_tries_136 fX12_26 ⟨by decide, rfl⟩ rfl rfl ?_
              refine w_iload_n dX12_tries_139 rfl ?_
              refine w_iconst (v := iI 0) dX12_tries_140 rfl ?_
              refine v_zast dX12_tries_141 ⟨by decide, rfl⟩ (by first | omega | (clear h q0; omega) | (clear h q0 q1; omega) | (clear h q0 q1 ql; omega)) (by first | omega | (clear h q0; omega) | (clear h q0 q1; omega) | (clear h q0 q1 ql; omega)) (by decide) (by decide) ?_
              refine v_iinc dX12_tries_142 rfl rfl rfl ?_
              refine w_goto 24 dX12_tries_145 (by decide) ?_
              first
                | (rw [show (p : Int) + 1 = ((p + 1 : Nat) : Int) by omega]
                   have nf : ¬ fzA I (fun k => rd I 187 k) a wn p := fun v => by
                     exact qn v.1
                   have cnn : n = (cn (fun p : Nat => pBo (fzA I (fun k => rd I 187 k) a wn (p : Int))) (p + 1)) := by
                     rw [cn, pBo_f nf, hn]; simp
                   refine ih (p + 1) n _ (by omega) (by omega) cnn hx hg (BS_cg hb1 (fun x y => ?_))
                   constructor
                   · rintro ⟨u1, u2, u3⟩
                     refine ⟨?_, u2, u3⟩
                     by_cases g : x < p
                     · exact g
                     · have g2 : x = p := by omega
                       rw [g2] at u2
                       exact absurd u2 nf
                   · rintro ⟨u1, u2, u3⟩
                     exact ⟨by omega, u2, u3⟩)
                | (refine w_keep 5 ?_
                   rw [show (p : Int) + 1 = ((p + 1 : Nat) : Int) by omega]
                   have nf : ¬ fzA I (fun k => rd I 187 k) a wn p := fun v => by
                     first | exact q0 v.2.1 | exact q1 v.2.2.1
                   have cnn : n = (cn (fun p : Nat => pBo (fzA I (fun k => rd I 187 k) a wn (p : Int))) (p + 1)) := by
                     rw [cn, pBo_f nf, hn]; simp
                   refine ih (p + 1) n _ (by omega) (by omega) cnn (fun id k g => by
                     have g1 : ¬ (id = 178 ∧ k = a) := fun u => g (Or.inr (Or.inr ⟨Or.inl u.1, u.2⟩))
                     have g2 : ¬ (id = 179 ∧ k = a) := fun u => g (Or.inr (Or.inr ⟨Or.inr u.1, u.2⟩))
                     rw [rd_wr_ne g2, rd_wr_ne g1]; exact hx id k g) g2 (BS_cg (by rw [rd_wr_row (by decide), rd_wr_row (by decide), rd_wr_row (by decide), rd_wr_row (by decide), rd_wr_row (by decide), rd_wr_row (by decide)]; exact hb1) (fun x y => ?_))
                   constructor
                   · rintro ⟨u1, u2, u3⟩
                     refine ⟨?_, u2, u3⟩
                     by_cases g : x < p
                     · exact g
                     · have g2 : x = p := by omega
                       rw [g2] at u2
                       exact absurd u2 nf
                   · rintro ⟨u1, u2, u3⟩
                     exact ⟨by omega, u2, u3⟩)
                | (refine w_keep 5 ?_
                   rw [Int.toNat_natCast]
                   have sO := sF_off t5 (by omega) ha0
                   rw [show (p : Int) + 1 = ((p + 1 : Nat) : Int) by omega]
                   have nf : ¬ fzA I (fun k => rd I 187 k) a wn p := fun v => by
                     exact ql v.2.2.2
                   have cnn : n = (cn (fun p : Nat => pBo (fzA I (fun k => rd I 187 k) a wn (p : Int))) (p + 1)) := by
                     rw [cn, pBo_f nf, hn]; simp
                   refine ih (p + 1) n _ (by omega) (by omega) cnn (sF_mono sO (fun k g => g.elim (fun u => u.1) id)) (rg_cg g5 (fun k => rd_wr_row (by decide)) (fun k => rd_wr_row (by decide))) (BS_cg (by rw [rd_wr_row (by decide), rd_wr_row (by decide), rd_wr_row (by decide), m5 171 21 (by unfold S3; omega), rd_wr_row (by decide), rd_wr_row (by decide), rd_wr_row (by decide), m5 171 22 (by unfold S3; omega), rd_wr_row (by decide), rd_wr_row (by decide), rd_wr_row (by decide), m5 171 23 (by unfold S3; omega), rd_wr_row (by decide), rd_wr_row (by decide), rd_wr_row (by decide)]; exact hb1) (fun x y => ?_))
                   constructor
                   · rintro ⟨u1, u2, u3⟩
                     refine ⟨?_, u2, u3⟩
                     by_cases g : x < p
                     · exact g
                     · have g2 : x = p := by omega
                       rw [g2] at u2
                       exact absurd u2 nf
                   · rintro ⟨u1, u2, u3⟩
                     exact ⟨by omega, u2, u3⟩)
                | (refine w_keep 5 ?_
                   rw [Int.toNat_natCast]
                   rw [show (p : Int) + 1 = ((p + 1 : Nat) : Int) by omega]
                   have cnn : n + 1 = (cn (fun p : Nat => pBo (fzA I (fun k => rd I 187 k) a wn (p : Int))) (p + 1)) := by
                     rw [cn, pBo_t fz, hn]; simp
                   have sO := sF_off t5 (by omega) ha0
                   refine ih (p + 1) (n + 1) _ (by omega) (by omega) cnn (sF_mono sO (fun k g => g.elim (fun u => u.1) id)) (rg_cg g5 (fun k => rd_wr_row (by decide)) (fun k => rd_wr_row (by decide))) ?_
                   rw [rd_wr_row (by decide), rd_wr_row (by decide), rd_wr_row (by decide), b21, b22, b23]
                   refine BS_cg (BS_no (x := (p : Int)) (y := 0) hb1 rfl (by rw [← wv]; exact wb.1) qh) (fun x y => ?_)
                   constructor
                   · rintro ⟨u1, u2, u3⟩
                     by_cases g : x < p
                     · exact Or.inl ⟨g, u2, u3⟩
                     · exact Or.inr ⟨by omega, u3⟩
                   · rintro (⟨u1, u2, u3⟩ | ⟨u1, u2⟩)
                     · exact ⟨by omega, u2, u3⟩
                     · rw [u1]; exact ⟨by omega, fz, u2⟩)
                | (refine w_keep 5 ?_
                   rw [Int.toNat_natCast]
                   rw [show (p : Int) + 1 = ((p + 1 : Nat) : Int) by omega]
                   have cnn : n + 1 = (cn (fun p : Nat => pBo (fzA I (fun k => rd I 187 k) a wn (p : Int))) (p + 1)) := by
                     rw [cn, pBo_t fz, hn]; simp
                   have t6 := sF_b (v := wNow I5) (x := (p : Int)) (y := 0) t5
                   have sO := sF_off t6 (by omega) ha0
                   have g6 : rg (wr (wr (wr I5 171 21 (wNow I5)) 171 22 p) 171 23 0) := rg_cg g5 (fun k => by rw [rd_wr_row (by decide), rd_wr_row (by decide), rd_wr_row (by decide)]) (fun k => by rw [rd_wr_row (by decide), rd_wr_row (by decide), rd_wr_row (by decide)])
                   have r21 : rd (wr (wr (wr (wr I5 171 21 (wNow I5)) 171 22 p) 171 23 0) 177 a 0) 171 21 = wNow I5 := by rw [rd_wr_row (by decide), rd_wr_ne (by decide), rd_wr_ne (by decide), rd_wr_eq (by omega) (by omega)]
                   have r22 : rd (wr (wr (wr (wr I5 171 21 (wNow I5)) 171 22 p) 171 23 0) 177 a 0) 171 22 = p := by rw [rd_wr_row (by decide), rd_wr_ne (by decide), rd_wr_eq (by omega) (by omega)]
                   have r23 : rd (wr (wr (wr (wr I5 171 21 (wNow I5)) 171 22 p) 171 23 0) 177 a 0) 171 23 = 0 := by rw [rd_wr_row (by decide), rd_wr_eq (by omega) (by omega)]
                   refine ih (p + 1) (n + 1) _ (by omega) (by omega) cnn (sF_mono sO (fun k g => g.elim (fun u => u.1) id)) (rg_cg g6 (fun k => rd_wr_row (by decide)) (fun k => rd_wr_row (by decide))) ?_
                   rw [r21, r22, r23, wv]
                   refine BS_cg (BS_yes (x := (p : Int)) (y := 0) hb1 rfl (by rw [← wv]; exact wb.1) qh) (fun x y => ?_)
                   constructor
                   · rintro ⟨u1, u2, u3⟩
                     by_cases g : x < p
                     · exact Or.inl ⟨g, u2, u3⟩
                     · exact Or.inr ⟨by omega, u3⟩
                   · rintro (⟨u1, u2, u3⟩ | ⟨u1, u2⟩)
                     · exact ⟨by omega, u2, u3⟩
                     · rw [u1]; exact ⟨by omega, fz, u2⟩)
          · refine v_if_eq 135 dX12_tries_120 (by decide) (by decide) (fun _ => ?_) (fun q => absurd q (by decide))
            refine w_aload_n dX12_tries_135 rfl ?_
            refine v_getR (j := 177) dX12_tries_136 fX12_26 ⟨by decide, rfl⟩ rfl rfl ?_
            refine w_iload_n dX12_tries_139 rfl ?_
            refine w_iconst (v := iI 0) dX12_tries_140 rfl ?_
            refine v_zast dX12_tries_141 ⟨by decide, rfl⟩ (by first | omega | (clear h q0; omega) | (clear h q0 q1; omega) | (clear h q0 q1 ql; omega)) (by first | omega | (clear h q0; omega) | (clear h q0 q1; omega) | (clear h q0 q1 ql; omega)) (by decide) (by decide) ?_
            refine v_iinc dX12_tries_142 rfl rfl rfl ?_
            refine w_goto 24 dX12_tries_145 (by decide) ?_
            first
              | (rw [show (p : Int) + 1 = ((p + 1 : Nat) : Int) by omega]
                 have nf : ¬ fzA I (fun k => rd I 187 k) a wn p := fun v => by
                   exact qn v.1
                 have cnn : n = (cn (fun p : Nat => pBo (fzA I (fun k => rd I 187 k) a wn (p : Int))) (p + 1)) := by
                   rw [cn, pBo_f nf, hn]; simp
                 refine ih (p + 1) n _ (by omega) (by omega) cnn hx hg (BS_cg hb1 (fun x y => ?_))
                 constructor
                 · rintro ⟨u1, u2, u3⟩
                   refine ⟨?_, u2, u3⟩
                   by_cases g : x < p
                   · exact g
                   · have g2 : x = p := by omega
                     rw [g2] at u2
                     exact absurd u2 nf
                 · rintro ⟨u1, u2, u3⟩
                   exact ⟨by omega, u2, u3⟩)
              | (refine w_keep 5 ?_
                 rw [show (p : Int) + 1 = ((p + 1 : Nat) : Int) by omega]
                 have nf : ¬ fzA I (fun k => rd I 187 k) a wn p := fun v => by
                   first | exact q0 v.2.1 | exact q1 v.2.2.1
                 have cnn : n = (cn (fun p : Nat => pBo (fzA I (fun k => rd I 187 k) a wn (p : Int))) (p + 1)) := by
                   rw [cn, pBo_f nf, hn]; simp
                 refine ih (p + 1) n _ (by omega) (by omega) cnn (fun id k g => by
                   have g1 : ¬ (id = 178 ∧ k = a) := fun u => g (Or.inr (Or.inr ⟨Or.inl u.1, u.2⟩))
                   have g2 : ¬ (id = 179 ∧ k = a) := fun u => g (Or.inr (Or.inr ⟨Or.inr u.1, u.2⟩))
                   rw [rd_wr_ne g2, rd_wr_ne g1]; exact hx id k g) g2 (BS_cg (by rw [rd_wr_row (by decide), rd_wr_row (by decide), rd_wr_row (by decide), rd_wr_row (by decide), rd_wr_row (by decide), rd_wr_row (by decide)]; exact hb1) (fun x y => ?_))
                 constructor
                 · rintro ⟨u1, u2, u3⟩
                   refine ⟨?_, u2, u3⟩
                   by_cases g : x < p
                   · exact g
                   · have g2 : x = p := by omega
                     rw [g2] at u2
                     exact absurd u2 nf
                 · rintro ⟨u1, u2, u3⟩
                   exact ⟨by omega, u2, u3⟩)
              | (refine w_keep 5 ?_
                 rw [Int.toNat_natCast]
                 have sO := sF_off t5 (by omega) ha0
                 rw [show (p : Int) + 1 = ((p + 1 : Nat) : Int) by omega]
                 have nf : ¬ fzA I (fun k => rd I 187 k) a wn p := fun v => by
                   exact ql v.2.2.2
                 have cnn : n = (cn (fun p : Nat => pBo (fzA I (fun k => rd I 187 k) a wn (p : Int))) (p + 1)) := by
                   rw [cn, pBo_f nf, hn]; simp
                 refine ih (p + 1) n _ (by omega) (by omega) cnn (sF_mono sO (fun k g => g.elim (fun u => u.1) id)) (rg_cg g5 (fun k => rd_wr_row (by decide)) (fun k => rd_wr_row (by decide))) (BS_cg (by rw [rd_wr_row (by decide), rd_wr_row (by decide), rd_wr_row (by decide), m5 171 21 (by unfold S3; omega), rd_wr_row (by decide), rd_wr_row (by decide), rd_wr_row (by decide), m5 171 22 (by unfold S3; omega), rd_wr_row (by decide), rd_wr_row (by decide), rd_wr_row (by decide), m5 171 23 (by unfold S3; omega), rd_wr_row (by decide), rd_wr_row (by decide), rd_wr_row (by decide)]; exact hb1) (fun x y => ?_))
                 constructor
                 · rintro ⟨u1, u2, u3⟩
                   refine ⟨?_, u2, u3⟩
                   by_cases g : x < p
                   · exact g
                   · have g2 : x = p := by omega
                     rw [g2] at u2
                     exact absurd u2 nf
                 · rintro ⟨u1, u2, u3⟩
                   exact ⟨by omega, u2, u3⟩)
              | (refine w_keep 5 ?_
                 rw [Int.toNat_natCast]
                 rw [show (p : Int) + 1 = ((p + 1 : Nat) : Int) by omega]
                 have cnn : n + 1 = (cn (fun p : Nat => pBo (fzA I (fun k => rd I 187 k) a wn (p : Int))) (p + 1)) := by
                   rw [cn, pBo_t fz, hn]; simp
                 have sO := sF_off t5 (by omega) ha0
                 refine ih (p + 1) (n + 1) _ (by omega) (by omega) cnn (sF_mono sO (fun k g => g.elim (fun u => u.1) id)) (rg_cg g5 (fun k => rd_wr_row (by decide)) (fun k => rd_wr_row (by decide))) ?_
                 rw [rd_wr_row (by decide), rd_wr_row (by decide), rd_wr_row (by decide), b21, b22, b23]
                 refine BS_cg (BS_no (x := (p : Int)) (y := 0) hb1 rfl (by rw [← wv]; exact wb.1) qh) (fun x y => ?_)
                 constructor
                 · rintro ⟨u1, u2, u3⟩
                   by_cases g : x < p
                   · exact Or.inl ⟨g, u2, u3⟩
                   · exact Or.inr ⟨by omega, u3⟩
                 · rintro (⟨u1, u2, u3⟩ | ⟨u1, u2⟩)
                   · exact ⟨by omega, u2, u3⟩
                   · rw [u1]; exact ⟨by omega, fz, u2⟩)
              | (refine w_keep 5 ?_
                 rw [Int.toNat_natCast]
                 rw [show (p : Int) + 1 = ((p + 1 : Nat) : Int) by omega]
                 have cnn : n + 1 = (cn (fun p : Nat => pBo (fzA I (fun k => rd I 187 k) a wn (p : Int))) (p + 1)) := by
                   rw [cn, pBo_t fz, hn]; simp
                 have t6 := sF_b (v := wNow I5) (x := (p : Int)) (y := 0) t5
                 have sO := sF_off t6 (by omega) ha0
                 have g6 : rg (wr (wr (wr I5 171 21 (wNow I5)) 171 22 p) 171 23 0) := rg_cg g5 (fun k => by rw [rd_wr_row (by decide), rd_wr_row (by decide), rd_wr_row (by decide)]) (fun k => by rw [rd_wr_row (by decide), rd_wr_row (by decide), rd_wr_row (by decide)])
                 have r21 : rd (wr (wr (wr (wr I5 171 21 (wNow I5)) 171 22 p) 171 23 0) 177 a 0) 171 21 = wNow I5 := by rw [rd_wr_row (by decide), rd_wr_ne (by decide), rd_wr_ne (by decide), rd_wr_eq (by omega) (by omega)]
                 have r22 : rd (wr (wr (wr (wr I5 171 21 (wNow I5)) 171 22 p) 171 23 0) 177 a 0) 171 22 = p := by rw [rd_wr_row (by decide), rd_wr_ne (by decide), rd_wr_eq (by omega) (by omega)]
                 have r23 : rd (wr (wr (wr (wr I5 171 21 (wNow I5)) 171 22 p) 171 23 0) 177 a 0) 171 23 = 0 := by rw [rd_wr_row (by decide), rd_wr_eq (by omega) (by omega)]
                 refine ih (p + 1) (n + 1) _ (by omega) (by omega) cnn (sF_mono sO (fun k g => g.elim (fun u => u.1) id)) (rg_cg g6 (fun k => rd_wr_row (by decide)) (fun k => rd_wr_row (by decide))) ?_
                 rw [r21, r22, r23, wv]
                 refine BS_cg (BS_yes (x := (p : Int)) (y := 0) hb1 rfl (by rw [← wv]; exact wb.1) qh) (fun x y => ?_)
                 constructor
                 · rintro ⟨u1, u2, u3⟩
                   by_cases g : x < p
                   · exact Or.inl ⟨g, u2, u3⟩
                   · exact Or.inr ⟨by omega, u3⟩
                 · rintro (⟨u1, u2, u3⟩ | ⟨u1, u2⟩)
                   · exact ⟨by omega, u2, u3⟩
                   · rw [u1]; exact ⟨by omega, fz, u2⟩)
      · refine v_if_ne 43 dX12_tries_37 (by decide) (by decide) (fun q => absurd q (by decide)) (fun _ => ?_)
        refine w_goto 142 dX12_tries_40 (by decide) ?_
        refine v_iinc dX12_tries_142 rfl rfl rfl ?_
        refine w_goto 24 dX12_tries_145 (by decide) ?_
        first
          | (rw [show (p : Int) + 1 = ((p + 1 : Nat) : Int) by omega]
             have nf : ¬ fzA I (fun k => rd I 187 k) a wn p := fun v => by
               exact qn v.1
             have cnn : n = (cn (fun p : Nat => pBo (fzA I (fun k => rd I 187 k) a wn (p : Int))) (p + 1)) := by
               rw [cn, pBo_f nf, hn]; simp
             refine ih (p + 1) n _ (by omega) (by omega) cnn hx hg (BS_cg hb1 (fun x y => ?_))
             constructor
             · rintro ⟨u1, u2, u3⟩
               refine ⟨?_, u2, u3⟩
               by_cases g : x < p
               · exact g
               · have g2 : x = p := by omega
                 rw [g2] at u2
                 exact absurd u2 nf
             · rintro ⟨u1, u2, u3⟩
               exact ⟨by omega, u2, u3⟩)
          | (refine w_keep 5 ?_
             rw [show (p : Int) + 1 = ((p + 1 : Nat) : Int) by omega]
             have nf : ¬ fzA I (fun k => rd I 187 k) a wn p := fun v => by
               first | exact q0 v.2.1 | exact q1 v.2.2.1
             have cnn : n = (cn (fun p : Nat => pBo (fzA I (fun k => rd I 187 k) a wn (p : Int))) (p + 1)) := by
               rw [cn, pBo_f nf, hn]; simp
             refine ih (p + 1) n _ (by omega) (by omega) cnn (fun id k g => by
               have g1 : ¬ (id = 178 ∧ k = a) := fun u => g (Or.inr (Or.inr ⟨Or.inl u.1, u.2⟩))
               have g2 : ¬ (id = 179 ∧ k = a) := fun u => g (Or.inr (Or.inr ⟨Or.inr u.1, u.2⟩))
               rw [rd_wr_ne g2, rd_wr_ne g1]; exact hx id k g) g2 (BS_cg (by rw [rd_wr_row (by decide), rd_wr_row (by decide), rd_wr_row (by decide), rd_wr_row (by decide), rd_wr_row (by decide), rd_wr_row (by decide)]; exact hb1) (fun x y => ?_))
             constructor
             · rintro ⟨u1, u2, u3⟩
               refine ⟨?_, u2, u3⟩
               by_cases g : x < p
               · exact g
               · have g2 : x = p := by omega
                 rw [g2] at u2
                 exact absurd u2 nf
             · rintro ⟨u1, u2, u3⟩
               exact ⟨by omega, u2, u3⟩)
          | (refine w_keep 5 ?_
             rw [Int.toNat_natCast]
             have sO := sF_off t5 (by omega) ha0
             rw [show (p : Int) + 1 = ((p + 1 : Nat) : Int) by omega]
             have nf : ¬ fzA I (fun k => rd I 187 k) a wn p := fun v => by
               exact ql v.2.2.2
             have cnn : n = (cn (fun p : Nat => pBo (fzA I (fun k => rd I 187 k) a wn (p : Int))) (p + 1)) := by
               rw [cn, pBo_f nf, hn]; simp
             refine ih (p + 1) n _ (by omega) (by omega) cnn (sF_mono sO (fun k g => g.elim (fun u => u.1) id)) (rg_cg g5 (fun k => rd_wr_row (by decide)) (fun k => rd_wr_row (by decide))) (BS_cg (by rw [rd_wr_row (by decide), rd_wr_row (by decide), rd_wr_row (by decide), m5 171 21 (by unfold S3; omega), rd_wr_row (by decide), rd_wr_row (by decide), rd_wr_row (by decide), m5 171 22 (by unfold S3; omega), rd_wr_row (by decide), rd_wr_row (by decide), rd_wr_row (by decide), m5 171 23 (by unfold S3; omega), rd_wr_row (by decide), rd_wr_row (by decide), rd_wr_row (by decide)]; exact hb1) (fun x y => ?_))
             constructor
             · rintro ⟨u1, u2, u3⟩
               refine ⟨?_, u2, u3⟩
               by_cases g : x < p
               · exact g
               · have g2 : x = p := by omega
                 rw [g2] at u2
                 exact absurd u2 nf
             · rintro ⟨u1, u2, u3⟩
               exact ⟨by omega, u2, u3⟩)
          | (refine w_keep 5 ?_
             rw [Int.toNat_natCast]
             rw [show (p : Int) + 1 = ((p + 1 : Nat) : Int) by omega]
             have cnn : n + 1 = (cn (fun p : Nat => pBo (fzA I (fun k => rd I 187 k) a wn (p : Int))) (p + 1)) := by
               rw [cn, pBo_t fz, hn]; simp
             have sO := sF_off t5 (by omega) ha0
             refine ih (p + 1) (n + 1) _ (by omega) (by omega) cnn (sF_mono sO (fun k g => g.elim (fun u => u.1) id)) (rg_cg g5 (fun k => rd_wr_row (by decide)) (fun k => rd_wr_row (by decide))) ?_
             rw [rd_wr_row (by decide), rd_wr_row (by decide), rd_wr_row (by decide), b21, b22, b23]
             refine BS_cg (BS_no (x := (p : Int)) (y := 0) hb1 rfl (by rw [← wv]; exact wb.1) qh) (fun x y => ?_)
             constructor
             · rintro ⟨u1, u2, u3⟩
               by_cases g : x < p
               · exact Or.inl ⟨g, u2, u3⟩
               · exact Or.inr ⟨by omega, u3⟩
             · rintro (⟨u1, u2, u3⟩ | ⟨u1, u2⟩)
               · exact ⟨by omega, u2, u3⟩
               · rw [u1]; exact ⟨by omega, fz, u2⟩)
          | (refine w_keep 5 ?_
             rw [Int.toNat_natCast]
             rw [show (p : Int) + 1 = ((p + 1 : Nat) : Int) by omega]
             have cnn : n + 1 = (cn (fun p : Nat => pBo (fzA I (fun k => rd I 187 k) a wn (p : Int))) (p + 1)) := by
               rw [cn, pBo_t fz, hn]; simp
             have t6 := sF_b (v := wNow I5) (x := (p : Int)) (y := 0) t5
             have sO := sF_off t6 (by omega) ha0
             have g6 : rg (wr (wr (wr I5 171 21 (wNow I5)) 171 22 p) 171 23 0) := rg_cg g5 (fun k => by rw [rd_wr_row (by decide), rd_wr_row (by decide), rd_wr_row (by decide)]) (fun k => by rw [rd_wr_row (by decide), rd_wr_row (by decide), rd_wr_row (by decide)])
             have r21 : rd (wr (wr (wr (wr I5 171 21 (wNow I5)) 171 22 p) 171 23 0) 177 a 0) 171 21 = wNow I5 := by rw [rd_wr_row (by decide), rd_wr_ne (by decide), rd_wr_ne (by decide), rd_wr_eq (by omega) (by omega)]
             have r22 : rd (wr (wr (wr (wr I5 171 21 (wNow I5)) 171 22 p) 171 23 0) 177 a 0) 171 22 = p := by rw [rd_wr_row (by decide), rd_wr_ne (by decide), rd_wr_eq (by omega) (by omega)]
             have r23 : rd (wr (wr (wr (wr I5 171 21 (wNow I5)) 171 22 p) 171 23 0) 177 a 0) 171 23 = 0 := by rw [rd_wr_row (by decide), rd_wr_eq (by omega) (by omega)]
             refine ih (p + 1) (n + 1) _ (by omega) (by omega) cnn (sF_mono sO (fun k g => g.elim (fun u => u.1) id)) (rg_cg g6 (fun k => rd_wr_row (by decide)) (fun k => rd_wr_row (by decide))) ?_
             rw [r21, r22, r23, wv]
             refine BS_cg (BS_yes (x := (p : Int)) (y := 0) hb1 rfl (by rw [← wv]; exact wb.1) qh) (fun x y => ?_)
             constructor
             · rintro ⟨u1, u2, u3⟩
               by_cases g : x < p
               · exact Or.inl ⟨g, u2, u3⟩
               · exact Or.inr ⟨by omega, u3⟩
             · rintro (⟨u1, u2, u3⟩ | ⟨u1, u2⟩)
               · exact ⟨by omega, u2, u3⟩
               · rw [u1]; exact ⟨by omega, fz, u2⟩)
theorem x12_tries2_l {I : Nat → Nat → Int32} {J : Nat → Nat → Int64} {F : Option Value → zM → Prop} (hrg : rg I) {wn : Nat} (hw : rd I 171 12 = wn) (hw2 : wn ≤ 12) (hsz : ∀ w, w < wn → 1 ≤ rd I 183 w ∧ rd I 183 w ≤ 10) {a b : Nat} (ha : a < 10) (hb : b < 10) (hne : a ≠ b) (ha0 : rd I 177 a = 0) (hb0 : rd I 177 b = 0) {w : Int → Int → Int} (hw0 : ∀ p q, fz2 I (fun k => rd I 187 k) a b wn p q → w (xx a b p q) (yy a b p q) = wA (pl (pl I a p) b q)) (h : ∀ I', sF (fun k => k = a ∨ k = b) I I' → rg I' → BS (rd I' 171 21) (rd I' 171 22) (rd I' 171 23) (fun x y => ∃ p' q' : Int, fz2 I (fun k => rd I 187 k) a b wn p' q' ∧ x = xx a b p' q' ∧ y = yy a b p' q') w → F (some (.int (iI 0))) (gM I' J)) : ∀ (nz : Nat) (p : Nat) (I' : Nat → Nat → Int32), 1344 - p < nz → p ≤ 1344 → sF (fun k => k = a ∨ k = b) I I' → rg I' → BS (rd I' 171 21) (rd I' 171 22) (rd I' 171 23) (fun x y => ∃ p' q' : Int, p' < (p : Int) ∧ fz2 I (fun k => rd I 187 k) a b wn p' q' ∧ x = xx a b p' q' ∧ y = yy a b p' q') w → Wp (sE kX12_tries RX12) F 24 [(0, .ref 171), (1, .int (iI (a : Int))), (2, .int (iI (b : Int))), (3, .int (iI 0)), (4, .int (iI (p : Int)))] [] (gM I' J) := by
  intro nz
  induction nz with
  | zero =>
    intro p I' hmz hp hx hg hb1
    exact absurd hmz (Nat.not_lt_zero _)
  | succ nz ih =>
    intro p I' hmz hp hx hg hb1
    refine w_iload dX12_tries_24 rfl ?_
    refine w_sipush (v := iI 1344) dX12_tries_26 (by decide) ?_
    refine v_icmp_ge 148 dX12_tries_29 (by decide) (by first | omega | (clear h q0; omega) | (clear h q0 q1; omega) | (clear h q0 q1 ql; omega)) (by first | omega | (clear h q0; omega) | (clear h q0 q1; omega) | (clear h q0 q1 ql; omega)) (fun c29 => ?_) (fun c29 => ?_)
    · refine w_iload_n dX12_tries_148 rfl ?_
      refine v_iret dX12_tries_149 rfl ⟨rfl, rfl⟩ ?_
      refine h I' hx hg (BS_cg hb1 (fun x y => ?_))
      constructor
      · rintro ⟨p', q', u2, u3⟩
        exact ⟨p', q', by have := nx_bd u2.1; omega, u2, u3⟩
      · rintro ⟨p', q', u1, u2, u3⟩
        exact ⟨p', q', u2, u3⟩
    · refine w_iload dX12_tries_32 rfl ?_
      refine v_callS1 dX12_tries_34 lX12_187 vX12_isNext (by decide) rfl rfl (Nat.le_of_ble_eq_true rfl) ?_
      refine x12_isNext (by omega) (fun qn => ?_) (fun qn => ?_)
      · refine v_if_ne 43 dX12_tries_37 (by decide) (by decide) (fun _ => ?_) (fun q => absurd q (by decide))
        refine w_aload_n dX12_tries_43 rfl ?_
        refine v_getR (j := 178) dX12_tries_44 fX12_29 ⟨by decide, rfl⟩ rfl rfl ?_
        refine w_iload_n dX12_tries_47 rfl ?_
        refine w_iload dX12_tries_48 rfl ?_
        refine v_callS1 dX12_tries_50 lX12_169 vX12_rowOf (by decide) rfl rfl (Nat.le_of_ble_eq_true rfl) ?_
        refine x12_rowOf (by omega) ?_
        refine v_iast dX12_tries_53 ⟨by decide, rfl⟩ (by first | omega | (clear h q0; omega) | (clear h q0 q1; omega) | (clear h q0 q1 ql; omega)) (by first | omega | (clear h q0; omega) | (clear h q0 q1; omega) | (clear h q0 q1 ql; omega)) (by decide) ?_
        refine w_aload_n dX12_tries_54 rfl ?_
        refine v_getR (j := 179) dX12_tries_55 fX12_32 ⟨by decide, rfl⟩ rfl rfl ?_
        refine w_iload_n dX12_tries_58 rfl ?_
        refine w_iload dX12_tries_59 rfl ?_
        refine v_callS1 dX12_tries_61 lX12_172 vX12_columnOf (by decide) rfl rfl (Nat.le_of_ble_eq_true rfl) ?_
        refine x12_columnOf (by omega) ?_
        refine v_iast dX12_tries_64 ⟨by decide, rfl⟩ (by first | omega | (clear h q0; omega) | (clear h q0 q1; omega) | (clear h q0 q1 ql; omega)) (by first | omega | (clear h q0; omega) | (clear h q0 q1; omega) | (clear h q0 q1 ql; omega)) (by decide) ?_
        refine w_aload_n dX12_tries_65 rfl ?_
        refine w_iload_n dX12_tries_66 rfl ?_
        refine v_callV1 dX12_tries_67 lX12_190 vX12_fits (by decide) rfl rfl ⟨by decide, rfl⟩ (by decide) rfl (Nat.le_of_ble_eq_true rfl) ?_
        rw [Int.toNat_natCast]
        have nq : -4 ≤ (p : Int) / 64 - 5 ∧ (p : Int) / 64 - 5 ≤ 15 ∧ -9 ≤ (p : Int) % 64 - 10 ∧ (p : Int) % 64 - 10 ≤ 31 := qn
        have g2 := rg_put2 (a := a) (R := ((p : Int) / 64 - 5)) (C := ((p : Int) % 64 - 10)) hg (by omega) (by omega)
        have ee : (fun k => rd (wr (wr I' 178 a ((p : Int) / 64 - 5)) 179 a ((p : Int) % 64 - 10)) 187 k) = (fun k => rd I 187 k) := funext fun k => by rw [rd_wr_row (by decide), rd_wr_row (by decide)]; exact hx _ _ (by unfold S3; omega)
        have er : rd (wr (wr I' 178 a ((p : Int) / 64 - 5)) 179 a ((p : Int) % 64 - 10)) 178 a = ((p : Int) / 64 - 5) := by rw [rd_wr_row (by decide), rd_wr_eq (by omega) (by omega)]
        have ec : rd (wr (wr I' 178 a ((p : Int) / 64 - 5)) 179 a ((p : Int) % 64 - 10)) 179 a = ((p : Int) % 64 - 10) := rd_wr_eq (by omega) (by omega)
        have ece : rce (wr (wr I' 178 a ((p : Int) / 64 - 5)) 179 a ((p : Int) % 64 - 10)) a = rce I a := funext fun k => by unfold rce; rw [rd_wr_row (by decide), rd_wr_row (by decide)]; exact hx _ _ (by unfold S3; omega)
        refine x12_fits ha (g2 a ha).1 (g2 a ha).2 (fun q0 => ?_) (fun q0 q1 => ?_) (fun q0 q1 => ?_)
        all_goals rw [ee, er, ec, ece] at q0
        all_goals (try rw [ee, er, ec, ece] at q1)
        · refine w_istore dX12_tries_70 rfl rfl ?_
          refine w_iload dX12_tries_72 rfl ?_
          refine v_if_eq 142 dX12_tries_74 (by decide) (by decide) (fun _ => ?_) (fun q => absurd q (by decide))
          refine v_iinc dX12_tries_142 rfl rfl rfl ?_
          refine w_goto 24 dX12_tries_145 (by decide) ?_
          first
            | (rw [show (p : Int) + 1 = ((p + 1 : Nat) : Int) by omega]
               have nf : ∀ q, ¬ fz2 I (fun k => rd I 187 k) a b wn p q := fun q v => by
                 first | exact qn v.1 | exact q0 v.2.1
               refine ih (p + 1) _ (by omega) (by omega) hx hg (BS_cg hb1 (fun x y => ?_))
               constructor
               · rintro ⟨p', q', u1, u2, u3⟩
                 by_cases g : p' < p
                 · exact ⟨p', q', g, u2, u3⟩
                 · have g2 : p' = p := by omega
                   rw [g2] at u2
                   exact absurd u2 (nf q')
               · rintro ⟨p', q', u1, u2, u3⟩
                 exact ⟨p', q', by omega, u2, u3⟩)
            | (refine w_keep 5 ?_
               rw [show (p : Int) + 1 = ((p + 1 : Nat) : Int) by omega]
               have nf : ∀ q, ¬ fz2 I (fun k => rd I 187 k) a b wn p q := fun q v => by
                 first | exact qn v.1 | exact q0 v.2.1
               refine ih (p + 1) _ (by omega) (by omega) (fun id k g => by
                 have g1 : ¬ (id = 178 ∧ k = a) := fun u => g (Or.inr (Or.inr ⟨Or.inl u.1, Or.inl u.2⟩))
                 have g2 : ¬ (id = 179 ∧ k = a) := fun u => g (Or.inr (Or.inr ⟨Or.inr u.1, Or.inl u.2⟩))
                 rw [rd_wr_ne g2, rd_wr_ne g1]; exact hx id k g) g2 (BS_cg (by rw [rd_wr_row (by decide), rd_wr_row (by decide), rd_wr_row (by decide), rd_wr_row (by decide), rd_wr_row (by decide), rd_wr_row (by decide)]; exact hb1) (fun x y => ?_))
               constructor
               · rintro ⟨p', q', u1, u2, u3⟩
                 by_cases g : p' < p
                 · exact ⟨p', q', g, u2, u3⟩
                 · have g2 : p' = p := by omega
                   rw [g2] at u2
                   exact absurd u2 (nf q')
               · rintro ⟨p', q', u1, u2, u3⟩
                 exact ⟨p', q', by omega, u2, u3⟩)
            | (refine w_keep 5 ?_
               rw [Int.toNat_natCast]
               rw [show (p : Int) + 1 = ((p + 1 : Nat) : Int) by omega]
               have s5 : sF (fun k => k = b) (pl I a p) I4 := sF_tr s3 s4 y3 (fun _ g => g)
               have sO := sF_off s5 (by omega) ha0
               refine ih (p + 1) _ (by omega) (by omega) (sF_mono sO (fun k g => g.symm)) (rg_cg g4 (fun k => rd_wr_row (by decide)) (fun k => rd_wr_row (by decide))) ?_
               rw [rd_wr_row (by decide), rd_wr_row (by decide), rd_wr_row (by decide)]
               refine BS_cg b4 (fun x y => ?_)
               constructor
               · rintro ⟨p', q', u1, u2, u3⟩
                 by_cases g : p' < p
                 · exact Or.inl ⟨p', q', g, u2, u3⟩
                 · have g2 : p' = p := by omega
                   rw [g2] at u2 u3
                   exact Or.inr ⟨q', (k3 q').mpr u2.2.2, u3⟩
               · rintro (⟨p', q', u1, u2, u3⟩ | ⟨q', u2, u3⟩)
                 · exact ⟨p', q', by omega, u2, u3⟩
                 · exact ⟨p, q', by omega, fz q' u2, u3⟩)
        · refine w_istore dX12_tries_70 rfl rfl ?_
          refine w_iload dX12_tries_72 rfl ?_
          refine v_if_eq 142 dX12_tries_74 (by decide) (by decide) (fun q => absurd q (by decide)) (fun _ => ?_)
          refine w_iload_n dX12_tries_77 rfl ?_
          refine w_iconst (v := iI (-1)) dX12_tries_78 rfl ?_
          refine v_icmp_ne 91 dX12_tries_79 (by decide) (by first | omega | (clear h q0; omega) | (clear h q0 q1; omega) | (clear h q0 q1 ql; omega)) (by first | omega | (clear h q0; omega) | (clear h q0 q1; omega) | (clear h q0 q1 ql; omega)) (fun c79 => ?_) (fun c79 => absurd c79 (by omega))
          refine w_aload_n dX12_tries_91 rfl ?_
          refine v_getR (j := 177) dX12_tries_92 fX12_26 ⟨by decide, rfl⟩ rfl rfl ?_
          refine w_iload_n dX12_tries_95 rfl ?_
          refine w_iconst (v := iI 1) dX12_tries_96 rfl ?_
          refine v_zast dX12_tries_97 ⟨by decide, rfl⟩ (by first | omega | (clear h q0; omega) | (clear h q0 q1; omega) | (clear h q0 q1 ql; omega)) (by first | omega | (clear h q0; omega) | (clear h q0 q1; omega) | (clear h q0 q1 ql; omega)) (by decide) (by decide) ?_
          refine w_iload_n dX12_tries_98 rfl ?_
          refine w_iconst (v := iI (-1)) dX12_tries_99 rfl ?_
          refine v_icmp_eq 116 dX12_tries_100 (by decide) (by first | omega | (clear h q0; omega) | (clear h q0 q1; omega) | (clear h q0 q1 ql; omega)) (by first | omega | (clear h q0; omega) | (clear h q0 q1; omega) | (clear h q0 q1 ql; omega)) (fun c100 => absurd c100 (by omega)) (fun c100 => ?_)
          refine w_aload_n dX12_tries_103 rfl ?_
          refine w_iload_n dX12_tries_104 rfl ?_
          refine w_iload_n dX12_tries_105 rfl ?_
          refine w_iload dX12_tries_106 rfl ?_
          refine w_iload dX12_tries_108 rfl ?_
          refine v_callV4 dX12_tries_110 lX12_193 vX12_seconds (by decide) rfl rfl ⟨by decide, rfl⟩ (by decide) rfl (Nat.le_of_ble_eq_true rfl) ?_
          rw [Int.toNat_natCast]
          have g3 : rg (wr (wr (wr I' 178 a ((p : Int) / 64 - 5)) 179 a ((p : Int) % 64 - 10)) 177 a 1) := rg_cg g2 (fun k => rd_wr_row (by decide)) (fun k => rd_wr_row (by decide))
          have s3 : sF (fun k => (k = a ∨ k = b) ∧ k ≠ a) (pl I a p) (wr (wr (wr I' 178 a ((p : Int) / 64 - 5)) 179 a ((p : Int) % 64 - 10)) 177 a 1) := sF_put hx (by omega)
          have y3 : ∀ k, ((k = a ∨ k = b) ∧ k ≠ a) → k = b := fun k g => g.1.resolve_left g.2
          have w3 : rd (wr (wr (wr I' 178 a ((p : Int) / 64 - 5)) 179 a ((p : Int) % 64 - 10)) 177 a 1) 171 12 = wn := by
            rw [s3 171 12 (by unfold S3; omega), pl_rd (by omega), if_neg (by omega), if_neg (by omega), if_neg (by omega)]; exact hw
          have z3 : ∀ k, rd (wr (wr (wr I' 178 a ((p : Int) / 64 - 5)) 179 a ((p : Int) % 64 - 10)) 177 a 1) 183 k = rd I 183 k := fun k => by
            rw [s3 183 k (by unfold S3; omega), pl_rd (by omega), if_neg (by omega), if_neg (by omega), if_neg (by omega)]
          have e3 : ∀ k, rd (wr (wr (wr I' 178 a ((p : Int) / 64 - 5)) 179 a ((p : Int) % 64 - 10)) 177 a 1) 187 k = rd I 187 k := fun k => by
            rw [s3 187 k (by unfold S3; omega), pl_rd (by omega), if_neg (by omega), if_neg (by omega), if_neg (by omega)]
          have a3 : rd (wr (wr (wr I' 178 a ((p : Int) / 64 - 5)) 179 a ((p : Int) % 64 - 10)) 177 a 1) 177 a ≠ 0 := by rw [rd_wr_eq (by omega) (by omega)]; decide
          have b3 : rd (wr (wr (wr I' 178 a ((p : Int) / 64 - 5)) 179 a ((p : Int) % 64 - 10)) 177 a 1) 177 b = 0 := by
            rw [rd_wr_ne (by omega), rd_wr_row (by decide), rd_wr_row (by decide), hx 177 b (by unfold S3; omega)]; exact hb0
          have k3 : ∀ q, fzB (wr (wr (wr I' 178 a ((p : Int) / 64 - 5)) 179 a ((p : Int) % 64 - 10)) 177 a 1) (fun k => rd (wr (wr (wr I' 178 a ((p : Int) / 64 - 5)) 179 a ((p : Int) % 64 - 10)) 177 a 1) 187 k) a b wn ((1 : Int) = 2) q ↔ fzB (pl I a p) (fun k => rd I 187 k) a b wn (tcP (fun k => rd I 187 k) (rce I a) p) q := fun q => fzB_cg (fun k _ => (e3 k).symm) s3 y3 (by
            constructor
            · intro u; first | exact q1 | omega
            · intro u; first | rfl | exact absurd u q1)
          have fz : ∀ q, fzB (wr (wr (wr I' 178 a ((p : Int) / 64 - 5)) 179 a ((p : Int) % 64 - 10)) 177 a 1) (fun k => rd (wr (wr (wr I' 178 a ((p : Int) / 64 - 5)) 179 a ((p : Int) % 64 - 10)) 177 a 1) 187 k) a b wn ((1 : Int) = 2) q → fz2 I (fun k => rd I 187 k) a b wn p q := fun q u => ⟨qn, q0, (k3 q).mp u⟩
          refine x12_seconds g3 w3 hw2 (fun w g => by rw [z3]; exact hsz w g) ha hb b3 hne a3 (by omega) (by omega) (S0 := (fun x y => ∃ p' q' : Int, p' < (p : Int) ∧ fz2 I (fun k => rd I 187 k) a b wn p' q' ∧ x = xx a b p' q' ∧ y = yy a b p' q')) (w := w) (fun q u => ?_) ?_ (fun I4 s4 g4 b4 => ?_)
          · rw [hw0 p q (fz q u)]
            exact (wA_R (sF_Rpl s3 y3 (by have := nx_bd u.1; omega))).symm
          · rw [rd_wr_row (by decide), rd_wr_row (by decide), rd_wr_row (by decide), rd_wr_row (by decide), rd_wr_row (by decide), rd_wr_row (by decide), rd_wr_row (by decide), rd_wr_row (by decide), rd_wr_row (by decide)]; exact hb1
          refine w_goto 135 dX12_tries_113 (by decide) ?_
          refine w_aload_n dX12_tries_135 rfl ?_
          refine v_getR (j := 177) dX12_tries_136 fX12_26 ⟨by decide, rfl⟩ rfl rfl ?_
          refine w_iload_n dX12_tries_139 rfl ?_
          refine w_iconst (v := iI 0) dX12_tries_140 rfl ?_
          refine v_zast dX12_tries_141 ⟨by decide, rfl⟩ (by first | omega | (clear h q0; omega) | (clear h q0 q1; omega) | (clear h q0 q1 ql; omega)) (by first | omega | (clear h q0; omega) | (clear h q0 q1; omega) | (clear h q0 q1 ql; omega)) (by decide) (by decide) ?_
          refine v_iinc dX12_tries_142 rfl rfl rfl ?_
          refine w_goto 24 dX12_tries_145 (by decide) ?_
          first
            | (rw [show (p : Int) + 1 = ((p + 1 : Nat) : Int) by omega]
               have nf : ∀ q, ¬ fz2 I (fun k => rd I 187 k) a b wn p q := fun q v => by
                 first | exact qn v.1 | exact q0 v.2.1
               refine ih (p + 1) _ (by omega) (by omega) hx hg (BS_cg hb1 (fun x y => ?_))
               constructor
               · rintro ⟨p', q', u1, u2, u3⟩
                 by_cases g : p' < p
                 · exact ⟨p', q', g, u2, u3⟩
                 · have g2 : p' = p := by omega
                   rw [g2] at u2
                   exact absurd u2 (nf q')
               · rintro ⟨p', q', u1, u2, u3⟩
                 exact ⟨p', q', by omega, u2, u3⟩)
            | (refine w_keep 5 ?_
               rw [show (p : Int) + 1 = ((p + 1 : Nat) : Int) by omega]
               have nf : ∀ q, ¬ fz2 I (fun k => rd I 187 k) a b wn p q := fun q v => by
                 first | exact qn v.1 | exact q0 v.2.1
               refine ih (p + 1) _ (by omega) (by omega) (fun id k g => by
                 have g1 : ¬ (id = 178 ∧ k = a) := fun u => g (Or.inr (Or.inr ⟨Or.inl u.1, Or.inl u.2⟩))
                 have g2 : ¬ (id = 179 ∧ k = a) := fun u => g (Or.inr (Or.inr ⟨Or.inr u.1, Or.inl u.2⟩))
                 rw [rd_wr_ne g2, rd_wr_ne g1]; exact hx id k g) g2 (BS_cg (by rw [rd_wr_row (by decide), rd_wr_row (by decide), rd_wr_row (by decide), rd_wr_row (by decide), rd_wr_row (by decide), rd_wr_row (by decide)]; exact hb1) (fun x y => ?_))
               constructor
               · rintro ⟨p', q', u1, u2, u3⟩
                 by_cases g : p' < p
                 · exact ⟨p', q', g, u2, u3⟩
                 · have g2 : p' = p := by omega
                   rw [g2] at u2
                   exact absurd u2 (nf q')
               · rintro ⟨p', q', u1, u2, u3⟩
                 exact ⟨p', q', by omega, u2, u3⟩)
            | (refine w_keep 5 ?_
               rw [Int.toNat_natCast]
               rw [show (p : Int) + 1 = ((p + 1 : Nat) : Int) by omega]
               have s5 : sF (fun k => k = b) (pl I a p) I4 := sF_tr s3 s4 y3 (fun _ g => g)
               have sO := sF_off s5 (by omega) ha0
               refine ih (p + 1) _ (by omega) (by omega) (sF_mono sO (fun k g => g.symm)) (rg_cg g4 (fun k => rd_wr_row (by decide)) (fun k => rd_wr_row (by decide))) ?_
               rw [rd_wr_row (by decide), rd_wr_row (by decide), rd_wr_row (by decide)]
               refine BS_cg b4 (fun x y => ?_)
               constructor
               · rintro ⟨p', q', u1, u2, u3⟩
                 by_cases g : p' < p
                 · exact Or.inl ⟨p', q', g, u2, u3⟩
                 · have g2 : p' = p := by omega
                   rw [g2] at u2 u3
                   exact Or.inr ⟨q', (k3 q').mpr u2.2.2, u3⟩
               · rintro (⟨p', q', u1, u2, u3⟩ | ⟨q', u2, u3⟩)
                 · exact ⟨p', q', by omega, u2, u3⟩
                 · exact ⟨p, q', by omega, fz q' u2, u3⟩)
        · refine w_istore dX12_tries_70 rfl rfl ?_
          refine w_iload dX12_tries_72 rfl ?_
          refine v_if_eq 142 dX12_tries_74 (by decide) (by decide) (fun q => absurd q (by decide)) (fun _ => ?_)
          refine w_iload_n dX12_tries_77 rfl ?_
          refine w_iconst (v := iI (-1)) dX12_tries_78 rfl ?_
          refine v_icmp_ne 91 dX12_tries_79 (by decide) (by first | omega | (clear h q0; omega) | (clear h q0 q1; omega) | (clear h q0 q1 ql; omega)) (by first | omega | (clear h q0; omega) | (clear h q0 q1; omega) | (clear h q0 q1 ql; omega)) (fun c79 => ?_) (fun c79 => absurd c79 (by omega))
          refine w_aload_n dX12_tries_91 rfl ?_
          refine v_getR (j := 177) dX12_tries_92 fX12_26 ⟨by decide, rfl⟩ rfl rfl ?_
          refine w_iload_n dX12_tries_95 rfl ?_
          refine w_iconst (v := iI 1) dX12_tries_96 rfl ?_
          refine v_zast dX12_tries_97 ⟨by decide, rfl⟩ (by first | omega | (clear h q0; omega) | (clear h q0 q1; omega) | (clear h q0 q1 ql; omega)) (by first | omega | (clear h q0; omega) | (clear h q0 q1; omega) | (clear h q0 q1 ql; omega)) (by decide) (by decide) ?_
          refine w_iload_n dX12_tries_98 rfl ?_
          refine w_iconst (v := iI (-1)) dX12_tries_99 rfl ?_
          refine v_icmp_eq 116 dX12_tries_100 (by decide) (by first | omega | (clear h q0; omega) | (clear h q0 q1; omega) | (clear h q0 q1 ql; omega)) (by first | omega | (clear h q0; omega) | (clear h q0 q1; omega) | (clear h q0 q1 ql; omega)) (fun c100 => absurd c100 (by omega)) (fun c100 => ?_)
          refine w_aload_n dX12_tries_103 rfl ?_
          refine w_iload_n dX12_tries_104 rfl ?_
          refine w_iload_n dX12_tries_105 rfl ?_
          refine w_iload dX12_tries_106 rfl ?_
          refine w_iload dX12_tries_108 rfl ?_
          refine v_callV4 dX12_tries_110 lX12_193 vX12_seconds (by decide) rfl rfl ⟨by decide, rfl⟩ (by decide) rfl (Nat.le_of_ble_eq_true rfl) ?_
          rw [Int.toNat_natCast]
          have g3 : rg (wr (wr (wr I' 178 a ((p : Int) / 64 - 5)) 179 a ((p : Int) % 64 - 10)) 177 a 1) := rg_cg g2 (fun k => rd_wr_row (by decide)) (fun k => rd_wr_row (by decide))
          have s3 : sF (fun k => (k = a ∨ k = b) ∧ k ≠ a) (pl I a p) (wr (wr (wr I' 178 a ((p : Int) / 64 - 5)) 179 a ((p : Int) % 64 - 10)) 177 a 1) := sF_put hx (by omega)
          have y3 : ∀ k, ((k = a ∨ k = b) ∧ k ≠ a) → k = b := fun k g => g.1.resolve_left g.2
          have w3 : rd (wr (wr (wr I' 178 a ((p : Int) / 64 - 5)) 179 a ((p : Int) % 64 - 10)) 177 a 1) 171 12 = wn := by
            rw [s3 171 12 (by unfold S3; omega), pl_rd (by omega), if_neg (by omega), if_neg (by omega), if_neg (by omega)]; exact hw
          have z3 : ∀ k, rd (wr (wr (wr I' 178 a ((p : Int) / 64 - 5)) 179 a ((p : Int) % 64 - 10)) 177 a 1) 183 k = rd I 183 k := fun k => by
            rw [s3 183 k (by unfold S3; omega), pl_rd (by omega), if_neg (by omega), if_neg (by omega), if_neg (by omega)]
          have e3 : ∀ k, rd (wr (wr (wr I' 178 a ((p : Int) / 64 - 5)) 179 a ((p : Int) % 64 - 10)) 177 a 1) 187 k = rd I 187 k := fun k => by
            rw [s3 187 k (by unfold S3; omega), pl_rd (by omega), if_neg (by omega), if_neg (by omega), if_neg (by omega)]
          have a3 : rd (wr (wr (wr I' 178 a ((p : Int) / 64 - 5)) 179 a ((p : Int) % 64 - 10)) 177 a 1) 177 a ≠ 0 := by rw [rd_wr_eq (by omega) (by omega)]; decide
          have b3 : rd (wr (wr (wr I' 178 a ((p : Int) / 64 - 5)) 179 a ((p : Int) % 64 - 10)) 177 a 1) 177 b = 0 := by
            rw [rd_wr_ne (by omega), rd_wr_row (by decide), rd_wr_row (by decide), hx 177 b (by unfold S3; omega)]; exact hb0
          have k3 : ∀ q, fzB (wr (wr (wr I' 178 a ((p : Int) / 64 - 5)) 179 a ((p : Int) % 64 - 10)) 177 a 1) (fun k => rd (wr (wr (wr I' 178 a ((p : Int) / 64 - 5)) 179 a ((p : Int) % 64 - 10)) 177 a 1) 187 k) a b wn ((2 : Int) = 2) q ↔ fzB (pl I a p) (fun k => rd I 187 k) a b wn (tcP (fun k => rd I 187 k) (rce I a) p) q := fun q => fzB_cg (fun k _ => (e3 k).symm) s3 y3 (by
            constructor
            · intro u; first | exact q1 | omega
            · intro u; first | rfl | exact absurd u q1)
          have fz : ∀ q, fzB (wr (wr (wr I' 178 a ((p : Int) / 64 - 5)) 179 a ((p : Int) % 64 - 10)) 177 a 1) (fun k => rd (wr (wr (wr I' 178 a ((p : Int) / 64 - 5)) 179 a ((p : Int) % 64 - 10)) 177 a 1) 187 k) a b wn ((2 : Int) = 2) q → fz2 I (fun k => rd I 187 k) a b wn p q := fun q u => ⟨qn, q0, (k3 q).mp u⟩
          refine x12_seconds g3 w3 hw2 (fun w g => by rw [z3]; exact hsz w g) ha hb b3 hne a3 (by omega) (by omega) (S0 := (fun x y => ∃ p' q' : Int, p' < (p : Int) ∧ fz2 I (fun k => rd I 187 k) a b wn p' q' ∧ x = xx a b p' q' ∧ y = yy a b p' q')) (w := w) (fun q u => ?_) ?_ (fun I4 s4 g4 b4 => ?_)
          · rw [hw0 p q (fz q u)]
            exact (wA_R (sF_Rpl s3 y3 (by have := nx_bd u.1; omega))).symm
          · rw [rd_wr_row (by decide), rd_wr_row (by decide), rd_wr_row (by decide), rd_wr_row (by decide), rd_wr_row (by decide), rd_wr_row (by decide), rd_wr_row (by decide), rd_wr_row (by decide), rd_wr_row (by decide)]; exact hb1
          refine w_goto 135 dX12_tries_113 (by decide) ?_
          refine w_aload_n dX12_tries_135 rfl ?_
          refine v_getR (j := 177) dX12_tries_136 fX12_26 ⟨by decide, rfl⟩ rfl rfl ?_
          refine w_iload_n dX12_tries_139 rfl ?_
          refine w_iconst (v := iI 0) dX12_tries_140 rfl ?_
          refine v_zast dX12_tries_141 ⟨by decide, rfl⟩ (by first | omega | (clear h q0; omega) | (clear h q0 q1; omega) | (clear h q0 q1 ql; omega)) (by first | omega | (clear h q0; omega) | (clear h q0 q1; omega) | (clear h q0 q1 ql; omega)) (by decide) (by decide) ?_
          refine v_iinc dX12_tries_142 rfl rfl rfl ?_
          refine w_goto 24 dX12_tries_145 (by decide) ?_
          first
            | (rw [show (p : Int) + 1 = ((p + 1 : Nat) : Int) by omega]
               have nf : ∀ q, ¬ fz2 I (fun k => rd I 187 k) a b wn p q := fun q v => by
                 first | exact qn v.1 | exact q0 v.2.1
               refine ih (p + 1) _ (by omega) (by omega) hx hg (BS_cg hb1 (fun x y => ?_))
               constructor
               · rintro ⟨p', q', u1, u2, u3⟩
                 by_cases g : p' < p
                 · exact ⟨p', q', g, u2, u3⟩
                 · have g2 : p' = p := by omega
                   rw [g2] at u2
                   exact absurd u2 (nf q')
               · rintro ⟨p', q', u1, u2, u3⟩
                 exact ⟨p', q', by omega, u2, u3⟩)
            | (refine w_keep 5 ?_
               rw [show (p : Int) + 1 = ((p + 1 : Nat) : Int) by omega]
               have nf : ∀ q, ¬ fz2 I (fun k => rd I 187 k) a b wn p q := fun q v => by
                 first | exact qn v.1 | exact q0 v.2.1
               refine ih (p + 1) _ (by omega) (by omega) (fun id k g => by
                 have g1 : ¬ (id = 178 ∧ k = a) := fun u => g (Or.inr (Or.inr ⟨Or.inl u.1, Or.inl u.2⟩))
                 have g2 : ¬ (id = 179 ∧ k = a) := fun u => g (Or.inr (Or.inr ⟨Or.inr u.1, Or.inl u.2⟩))
                 rw [rd_wr_ne g2, rd_wr_ne g1]; exact hx id k g) g2 (BS_cg (by rw [rd_wr_row (by decide), rd_wr_row (by decide), rd_wr_row (by decide), rd_wr_row (by decide), rd_wr_row (by decide), rd_wr_row (by decide)]; exact hb1) (fun x y => ?_))
               constructor
               · rintro ⟨p', q', u1, u2, u3⟩
                 by_cases g : p' < p
                 · exact ⟨p', q', g, u2, u3⟩
                 · have g2 : p' = p := by omega
                   rw [g2] at u2
                   exact absurd u2 (nf q')
               · rintro ⟨p', q', u1, u2, u3⟩
                 exact ⟨p', q', by omega, u2, u3⟩)
            | (refine w_keep 5 ?_
               rw [Int.toNat_natCast]
               rw [show (p : Int) + 1 = ((p + 1 : Nat) : Int) by omega]
               have s5 : sF (fun k => k = b) (pl I a p) I4 := sF_tr s3 s4 y3 (fun _ g => g)
               have sO := sF_off s5 (by omega) ha0
               refine ih (p + 1) _ (by omega) (by omega) (sF_mono sO (fun k g => g.symm)) (rg_cg g4 (fun k => rd_wr_row (by decide)) (fun k => rd_wr_row (by decide))) ?_
               rw [rd_wr_row (by decide), rd_wr_row (by decide), rd_wr_row (by decide)]
               refine BS_cg b4 (fun x y => ?_)
               constructor
               · rintro ⟨p', q', u1, u2, u3⟩
                 by_cases g : p' < p
                 · exact Or.inl ⟨p', q', g, u2, u3⟩
                 · have g2 : p' = p := by omega
                   rw [g2] at u2 u3
                   exact Or.inr ⟨q', (k3 q').mpr u2.2.2, u3⟩
               · rintro (⟨p', q', u1, u2, u3⟩ | ⟨q', u2, u3⟩)
                 · exact ⟨p', q', by omega, u2, u3⟩
                 · exact ⟨p, q', by omega, fz q' u2, u3⟩)
      · refine v_if_ne 43 dX12_tries_37 (by decide) (by decide) (fun q => absurd q (by decide)) (fun _ => ?_)
        refine w_goto 142 dX12_tries_40 (by decide) ?_
        refine v_iinc dX12_tries_142 rfl rfl rfl ?_
        refine w_goto 24 dX12_tries_145 (by decide) ?_
        first
          | (rw [show (p : Int) + 1 = ((p + 1 : Nat) : Int) by omega]
             have nf : ∀ q, ¬ fz2 I (fun k => rd I 187 k) a b wn p q := fun q v => by
               first | exact qn v.1 | exact q0 v.2.1
             refine ih (p + 1) _ (by omega) (by omega) hx hg (BS_cg hb1 (fun x y => ?_))
             constructor
             · rintro ⟨p', q', u1, u2, u3⟩
               by_cases g : p' < p
               · exact ⟨p', q', g, u2, u3⟩
               · have g2 : p' = p := by omega
                 rw [g2] at u2
                 exact absurd u2 (nf q')
             · rintro ⟨p', q', u1, u2, u3⟩
               exact ⟨p', q', by omega, u2, u3⟩)
          | (refine w_keep 5 ?_
             rw [show (p : Int) + 1 = ((p + 1 : Nat) : Int) by omega]
             have nf : ∀ q, ¬ fz2 I (fun k => rd I 187 k) a b wn p q := fun q v => by
               first | exact qn v.1 | exact q0 v.2.1
             refine ih (p + 1) _ (by omega) (by omega) (fun id k g => by
               have g1 : ¬ (id = 178 ∧ k = a) := fun u => g (Or.inr (Or.inr ⟨Or.inl u.1, Or.inl u.2⟩))
               have g2 : ¬ (id = 179 ∧ k = a) := fun u => g (Or.inr (Or.inr ⟨Or.inr u.1, Or.inl u.2⟩))
               rw [rd_wr_ne g2, rd_wr_ne g1]; exact hx id k g) g2 (BS_cg (by rw [rd_wr_row (by decide), rd_wr_row (by decide), rd_wr_row (by decide), rd_wr_row (by decide), rd_wr_row (by decide), rd_wr_row (by decide)]; exact hb1) (fun x y => ?_))
             constructor
             · rintro ⟨p', q', u1, u2, u3⟩
               by_cases g : p' < p
               · exact ⟨p', q', g, u2, u3⟩
               · have g2 : p' = p := by omega
                 rw [g2] at u2
                 exact absurd u2 (nf q')
             · rintro ⟨p', q', u1, u2, u3⟩
               exact ⟨p', q', by omega, u2, u3⟩)
          | (refine w_keep 5 ?_
             rw [Int.toNat_natCast]
             rw [show (p : Int) + 1 = ((p + 1 : Nat) : Int) by omega]
             have s5 : sF (fun k => k = b) (pl I a p) I4 := sF_tr s3 s4 y3 (fun _ g => g)
             have sO := sF_off s5 (by omega) ha0
             refine ih (p + 1) _ (by omega) (by omega) (sF_mono sO (fun k g => g.symm)) (rg_cg g4 (fun k => rd_wr_row (by decide)) (fun k => rd_wr_row (by decide))) ?_
             rw [rd_wr_row (by decide), rd_wr_row (by decide), rd_wr_row (by decide)]
             refine BS_cg b4 (fun x y => ?_)
             constructor
             · rintro ⟨p', q', u1, u2, u3⟩
               by_cases g : p' < p
               · exact Or.inl ⟨p', q', g, u2, u3⟩
               · have g2 : p' = p := by omega
                 rw [g2] at u2 u3
                 exact Or.inr ⟨q', (k3 q').mpr u2.2.2, u3⟩
             · rintro (⟨p', q', u1, u2, u3⟩ | ⟨q', u2, u3⟩)
               · exact ⟨p', q', by omega, u2, u3⟩
               · exact ⟨p, q', by omega, fz q' u2, u3⟩)
