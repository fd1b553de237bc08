/-! seconds, tries: the reference -/
theorem nqa {M : Nat → Nat → Int32} {a b wn : Nat} (hl : lyB M a ∧ lyB M b) (hne : a ≠ b) (ha : a < 10) (hb : b < 10) (h : mL M wn) : ¬ qrl M a b := by
  rcases Nat.lt_or_gt_of_ne hne with g | g
  · exact h.2.1 a b g hb hl.1 hl.2
  · intro q
    refine h.2.1 b a g ha hl.2 hl.1 ?_
    rcases q with ⟨y, y1, y2⟩ | ⟨y, y1, y2⟩
    · exact Or.inl ⟨y, y1, y2.2.1, y2.1, fun e => y2.2.2 e.symm⟩
    · exact Or.inr ⟨y, y1, y2.2.1, y2.1, fun e => y2.2.2 e.symm⟩
theorem x12_seconds_l {I : Nat → Nat → Int32} {J : Nat → Nat → Int64} {F : Option Value → zM → Prop} (hrg : rg I) {wn : Nat} (hw : rd I 171 12 = wn) (hw2 : wn ≤ 12) (hsz : ∀ w, w < wn → 1 ≤ rd I 183 w ∧ rd I 183 w ≤ 10) {a b : Nat} (ha : a < 10) (hb : b < 10) (hb0 : rd I 177 b = 0) (hne : a ≠ b) (ha1 : rd I 177 a ≠ 0) {p t : Int} (bp : -2147483648 ≤ p ∧ p < 2147483648) (htt : t = 1 ∨ t = 2) {S0 : Int → Int → Prop} {w : Int → Int → Int} (hw0 : ∀ q, fzB I (fun k => rd I 187 k) a b wn (t = 2) q → w (xx a b p q) (yy a b p q) = wA (pl I b q)) (hbs : BS (rd I 171 21) (rd I 171 22) (rd I 171 23) S0 w) (h : ∀ I', sF (fun k => k = b) I I' → rg I' → BS (rd I' 171 21) (rd I' 171 22) (rd I' 171 23) (fun x y => S0 x y ∨ ∃ q' : Int, fzB I (fun k => rd I 187 k) a b wn (t = 2) q' ∧ x = xx a b p q' ∧ y = yy a b p q') w → F none (gM I' J)) : ∀ (nz : Nat) (q : Nat) (I' : Nat → Nat → Int32), 1344 - q < nz → q ≤ 1344 → sF (fun k => k = b) I I' → rg I' → BS (rd I' 171 21) (rd I' 171 22) (rd I' 171 23) (fun x y => S0 x y ∨ ∃ q' : Int, q' < (q : Int) ∧ fzB I (fun k => rd I 187 k) a b wn (t = 2) q' ∧ x = xx a b p q' ∧ y = yy a b p q') w → Wp (sE kX12_seconds RX12) F 3 [(0, .ref 171), (1, .int (iI (a : Int))), (2, .int (iI (b : Int))), (3, .int (iI p)), (4, .int (iI t)), (5, .int (iI (q : Int)))] [] (gM I' J) := by
  intro nz
  induction nz with
  | zero =>
    intro q I' hmz hq hx hg hb1
    exact absurd hmz (Nat.not_lt_zero _)
  | succ nz ih =>
    intro q I' hmz hq hx hg hb1
    refine w_iload dX12_seconds_3 rfl ?_
    refine w_sipush (v := iI 1344) dX12_seconds_5 (by decide) ?_
    refine v_icmp_ge 132 dX12_seconds_8 (by decide) (by first | omega | (clear h q0; omega) | (clear h q0 q1; omega) | (clear h q0 q1 qm; omega) | (clear h q0 q1 qm ql; omega)) (by first | omega | (clear h q0; omega) | (clear h q0 q1; omega) | (clear h q0 q1 qm; omega) | (clear h q0 q1 qm ql; omega)) (fun c8 => ?_) (fun c8 => ?_)
    · refine v_vret dX12_seconds_132 rfl ⟨rfl, rfl⟩ ?_
      refine h I' hx hg (BS_cg hb1 (fun x y => ?_))
      constructor
      · rintro (u | ⟨q', u2, u3⟩)
        · exact Or.inl u
        · exact Or.inr ⟨q', by have := nx_bd u2.1; omega, u2, u3⟩
      · rintro (u | ⟨q', u1, u2, u3⟩)
        · exact Or.inl u
        · exact Or.inr ⟨q', u2, u3⟩
    · refine w_iload dX12_seconds_11 rfl ?_
      refine v_callS1 dX12_seconds_13 lX12_187 vX12_isNext (by decide) rfl rfl (Nat.le_of_ble_eq_true rfl) ?_
      refine x12_isNext (by omega) (fun qn => ?_) (fun qn => ?_)
      · refine v_if_ne 22 dX12_seconds_16 (by decide) (by decide) (fun _ => ?_) (fun q => absurd q (by decide))
        refine w_aload_n dX12_seconds_22 rfl ?_
        refine v_getR (j := 178) dX12_seconds_23 fX12_29 ⟨by decide, rfl⟩ rfl rfl ?_
        refine w_iload_n dX12_seconds_26 rfl ?_
        refine w_iload dX12_seconds_27 rfl ?_
        refine v_callS1 dX12_seconds_29 lX12_169 vX12_rowOf (by decide) rfl rfl (Nat.le_of_ble_eq_true rfl) ?_
        refine x12_rowOf (by omega) ?_
        refine v_iast dX12_seconds_32 ⟨by decide, rfl⟩ (by first | omega | (clear h q0; omega) | (clear h q0 q1; omega) | (clear h q0 q1 qm; omega) | (clear h q0 q1 qm ql; omega)) (by first | omega | (clear h q0; omega) | (clear h q0 q1; omega) | (clear h q0 q1 qm; omega) | (clear h q0 q1 qm ql; omega)) (by decide) ?_
        refine w_aload_n dX12_seconds_33 rfl ?_
        refine v_getR (j := 179) dX12_seconds_34 fX12_32 ⟨by decide, rfl⟩ rfl rfl ?_
        refine w_iload_n dX12_seconds_37 rfl ?_
        refine w_iload dX12_seconds_38 rfl ?_
        refine v_callS1 dX12_seconds_40 lX12_172 vX12_columnOf (by decide) rfl rfl (Nat.le_of_ble_eq_true rfl) ?_
        refine x12_columnOf (by omega) ?_
        refine v_iast dX12_seconds_43 ⟨by decide, rfl⟩ (by first | omega | (clear h q0; omega) | (clear h q0 q1; omega) | (clear h q0 q1 qm; omega) | (clear h q0 q1 qm ql; omega)) (by first | omega | (clear h q0; omega) | (clear h q0 q1; omega) | (clear h q0 q1 qm; omega) | (clear h q0 q1 qm ql; omega)) (by decide) ?_
        refine w_aload_n dX12_seconds_44 rfl ?_
        refine w_iload_n dX12_seconds_45 rfl ?_
        refine v_callV1 dX12_seconds_46 lX12_190 vX12_fits (by decide) rfl rfl ⟨by decide, rfl⟩ (by decide) rfl (Nat.le_of_ble_eq_true rfl) ?_
        rw [Int.toNat_natCast]
        have nq : -4 ≤ (q : Int) / 64 - 5 ∧ (q : Int) / 64 - 5 ≤ 15 ∧ -9 ≤ (q : Int) % 64 - 10 ∧ (q : Int) % 64 - 10 ≤ 31 := qn
        have g2 := rg_put2 (a := b) (R := ((q : Int) / 64 - 5)) (C := ((q : Int) % 64 - 10)) hg (by omega) (by omega)
        have ee : (fun k => rd (wr (wr I' 178 b ((q : Int) / 64 - 5)) 179 b ((q : Int) % 64 - 10)) 187 k) = (fun k => rd I 187 k) := funext fun k => by rw [rd_wr_row (by decide), rd_wr_row (by decide)]; exact hx _ _ (by unfold S3; omega)
        have er : rd (wr (wr I' 178 b ((q : Int) / 64 - 5)) 179 b ((q : Int) % 64 - 10)) 178 b = ((q : Int) / 64 - 5) := by rw [rd_wr_row (by decide), rd_wr_eq (by omega) (by omega)]
        have ec : rd (wr (wr I' 178 b ((q : Int) / 64 - 5)) 179 b ((q : Int) % 64 - 10)) 179 b = ((q : Int) % 64 - 10) := rd_wr_eq (by omega) (by omega)
        have ece : rce (wr (wr I' 178 b ((q : Int) / 64 - 5)) 179 b ((q : Int) % 64 - 10)) b = rce I b := funext fun k => by unfold rce; rw [rd_wr_row (by decide), rd_wr_row (by decide)]; exact hx _ _ (by unfold S3; omega)
        refine x12_fits hb (g2 b hb).1 (g2 b hb).2 (fun q0 => ?_) (fun q0 q1 => ?_) (fun q0 q1 => ?_)
        all_goals rw [ee, er, ec, ece] at q0
        all_goals (try rw [ee, er, ec, ece] at q1)
        · refine w_istore dX12_seconds_49 rfl rfl ?_
          refine w_iload dX12_seconds_51 rfl ?_
          refine v_if_eq 126 dX12_seconds_53 (by decide) (by decide) (fun _ => ?_) (fun q => absurd q (by decide))
          refine v_iinc dX12_seconds_126 rfl rfl rfl ?_
          refine w_goto 3 dX12_seconds_129 (by decide) ?_
          first
            | (rw [show (q : Int) + 1 = ((q + 1 : Nat) : Int) by omega]
               have nf : ¬ fzB I (fun k => rd I 187 k) a b wn (t = 2) q := fun v => by
                 exact qn v.1
               refine ih (q + 1) _ (by omega) (by omega) hx hg (BS_cg hb1 (fun x y => ?_))
               constructor
               · rintro (u | ⟨q', u1, u2, u3⟩)
                 · exact Or.inl u
                 · by_cases g : q' < q
                   · exact Or.inr ⟨q', g, u2, u3⟩
                   · have g2 : q' = q := by omega
                     rw [g2] at u2
                     exact absurd u2 nf
               · rintro (u | ⟨q', u1, u2, u3⟩)
                 · exact Or.inl u
                 · exact Or.inr ⟨q', by omega, u2, u3⟩)
            | (refine w_keep 6 ?_
               rw [show (q : Int) + 1 = ((q + 1 : Nat) : Int) by omega]
               have nf : ¬ fzB I (fun k => rd I 187 k) a b wn (t = 2) q := fun v => by
                 first | exact q0 v.2.1 | exact v.2.2.1.elim (fun u => by clear q0 q1 v h; omega) q1
               refine ih (q + 1) _ (by omega) (by omega) (fun id k g => by
                 have g1 : ¬ (id = 178 ∧ k = b) := fun u => g (Or.inr (Or.inr ⟨Or.inl u.1, u.2⟩))
                 have g2 : ¬ (id = 179 ∧ k = b) := fun u => g (Or.inr (Or.inr ⟨Or.inr u.1, u.2⟩))
                 rw [rd_wr_ne g2, rd_wr_ne g1]; exact hx id k g) g2 (BS_cg (by rw [rd_wr_row (by decide), rd_wr_row (by decide), rd_wr_row (by decide), rd_wr_row (by decide), rd_wr_row (by decide), rd_wr_row (by decide)]; exact hb1) (fun x y => ?_))
               constructor
               · rintro (u | ⟨q', u1, u2, u3⟩)
                 · exact Or.inl u
                 · by_cases g : q' < q
                   · exact Or.inr ⟨q', g, u2, u3⟩
                   · have g2 : q' = q := by omega
                     rw [g2] at u2
                     exact absurd u2 nf
               · rintro (u | ⟨q', u1, u2, u3⟩)
                 · exact Or.inl u
                 · exact Or.inr ⟨q', by omega, u2, u3⟩)
            | (refine w_keep 6 ?_
               rw [Int.toNat_natCast]
               have sO := sF_off s4 (by omega) hb0
               rw [show (q : Int) + 1 = ((q + 1 : Nat) : Int) by omega]
               have nf : ¬ fzB I (fun k => rd I 187 k) a b wn (t = 2) q := fun v => by
                 exact qm (by
                   rcases v.2.2.2.1 with u | u
                   · first | exact Or.inl ⟨u.1, rfl⟩ | exact absurd u.2 q1
                   · exact Or.inr ⟨nqa ⟨by show rd (pl I b q) 177 a ≠ 0; rw [pl_rd (by omega), if_neg (by omega), if_neg (by omega), if_neg (by omega)]; exact ha1, by show rd (pl I b q) 177 b ≠ 0; rw [pl_rd (by omega), if_neg (by omega), if_neg (by omega), if_pos ⟨rfl, rfl⟩]; decide⟩ hne ha hb v.2.2.2.2, v.2.2.2.2.1, u⟩)
               refine ih (q + 1) _ (by omega) (by omega) (sF_mono sO (fun k g => g.elim (fun u => u.1) id)) (rg_cg g4 (fun k => rd_wr_row (by decide)) (fun k => rd_wr_row (by decide))) (BS_cg (by rw [rd_wr_row (by decide), rd_wr_row (by decide), rd_wr_row (by decide), m4 171 21 (by unfold S3; omega), rd_wr_row (by decide), rd_wr_row (by decide), rd_wr_row (by decide), m4 171 22 (by unfold S3; omega), rd_wr_row (by decide), rd_wr_row (by decide), rd_wr_row (by decide), m4 171 23 (by unfold S3; omega), rd_wr_row (by decide), rd_wr_row (by decide), rd_wr_row (by decide)]; exact hb1) (fun x y => ?_))
               constructor
               · rintro (u | ⟨q', u1, u2, u3⟩)
                 · exact Or.inl u
                 · by_cases g : q' < q
                   · exact Or.inr ⟨q', g, u2, u3⟩
                   · have g2 : q' = q := by omega
                     rw [g2] at u2
                     exact absurd u2 nf
               · rintro (u | ⟨q', u1, u2, u3⟩)
                 · exact Or.inl u
                 · exact Or.inr ⟨q', by omega, u2, u3⟩)
            | (refine w_keep 6 ?_
               rw [Int.toNat_natCast]
               have sO := sF_off t5 (by omega) hb0
               rw [show (q : Int) + 1 = ((q + 1 : Nat) : Int) by omega]
               have nf : ¬ fzB I (fun k => rd I 187 k) a b wn (t = 2) q := fun v => by
                 exact ql v.2.2.2.2
               refine ih (q + 1) _ (by omega) (by omega) (sF_mono sO (fun k g => g.elim (fun u => u.1) id)) (rg_cg g5 (fun k => rd_wr_row (by decide)) (fun k => rd_wr_row (by decide))) (BS_cg (by rw [rd_wr_row (by decide), rd_wr_row (by decide), rd_wr_row (by decide), m5 171 21 (by unfold S3; omega), m4 171 21 (by unfold S3; omega), rd_wr_row (by decide), rd_wr_row (by decide), rd_wr_row (by decide), m5 171 22 (by unfold S3; omega), m4 171 22 (by unfold S3; omega), rd_wr_row (by decide), rd_wr_row (by decide), rd_wr_row (by decide), m5 171 23 (by unfold S3; omega), m4 171 23 (by unfold S3; omega), rd_wr_row (by decide), rd_wr_row (by decide), rd_wr_row (by decide)]; exact hb1) (fun x y => ?_))
               constructor
               · rintro (u | ⟨q', u1, u2, u3⟩)
                 · exact Or.inl u
                 · by_cases g : q' < q
                   · exact Or.inr ⟨q', g, u2, u3⟩
                   · have g2 : q' = q := by omega
                     rw [g2] at u2
                     exact absurd u2 nf
               · rintro (u | ⟨q', u1, u2, u3⟩)
                 · exact Or.inl u
                 · exact Or.inr ⟨q', by omega, u2, u3⟩)
            | (refine w_keep 6 ?_
               rw [Int.toNat_natCast]
               rw [show (q : Int) + 1 = ((q + 1 : Nat) : Int) by omega]
               have sO := sF_off t5 (by omega) hb0
               refine ih (q + 1) _ (by omega) (by omega) (sF_mono sO (fun k g => g.elim (fun u => u.1) id)) (rg_cg g5 (fun k => rd_wr_row (by decide)) (fun k => rd_wr_row (by decide))) ?_
               rw [rd_wr_row (by decide), rd_wr_row (by decide), rd_wr_row (by decide), b21, b22, b23]
               refine BS_cg (BS_no hb1 (hw0 q fz) (by rw [← wv]; exact wb.1) qh) (fun x y => ?_)
               constructor
               · rintro (u | ⟨q', u1, u2, u3⟩)
                 · exact Or.inl (Or.inl u)
                 · by_cases g : q' < q
                   · exact Or.inl (Or.inr ⟨q', g, u2, u3⟩)
                   · have g2 : q' = q := by omega
                     rw [g2] at u3
                     exact Or.inr u3
               · rintro ((u | ⟨q', u1, u2, u3⟩) | u)
                 · exact Or.inl u
                 · exact Or.inr ⟨q', by omega, u2, u3⟩
                 · exact Or.inr ⟨q, by omega, fz, u⟩)
            | (refine w_keep 6 ?_
               rw [Int.toNat_natCast]
               rw [show (q : Int) + 1 = ((q + 1 : Nat) : Int) by omega]
               have xb : -2147483648 ≤ yy a b p q ∧ yy a b p q < 2147483648 := by unfold yy; split <;> omega
               have yb : -2147483648 ≤ xx a b p q ∧ xx a b p q < 2147483648 := by unfold xx; split <;> omega
               have t6 := sF_b (v := wNow I5) (x := xx a b p q) (y := yy a b p q) t5
               have sO := sF_off t6 (by omega) hb0
               have g6 : rg (wr (wr (wr I5 171 21 (wNow I5)) 171 22 (xx a b p q)) 171 23 (yy a b p q)) := rg_cg g5 (fun k => by rw [rd_wr_row (by decide), rd_wr_row (by decide), rd_wr_row (by decide)]) (fun k => by rw [rd_wr_row (by decide), rd_wr_row (by decide), rd_wr_row (by decide)])
               have r21 : rd (wr (wr (wr (wr I5 171 21 (wNow I5)) 171 22 (xx a b p q)) 171 23 (yy a b p q)) 177 b 0) 171 21 = wNow I5 := by rw [rd_wr_row (by decide), rd_wr_ne (by decide), rd_wr_ne (by decide), rd_wr_eq (by omega) (by omega)]
               have r22 : rd (wr (wr (wr (wr I5 171 21 (wNow I5)) 171 22 (xx a b p q)) 171 23 (yy a b p q)) 177 b 0) 171 22 = xx a b p q := by rw [rd_wr_row (by decide), rd_wr_ne (by decide), rd_wr_eq yb.1 yb.2]
               have r23 : rd (wr (wr (wr (wr I5 171 21 (wNow I5)) 171 22 (xx a b p q)) 171 23 (yy a b p q)) 177 b 0) 171 23 = yy a b p q := by rw [rd_wr_row (by decide), rd_wr_eq xb.1 xb.2]
               refine ih (q + 1) _ (by omega) (by omega) (sF_mono sO (fun k g => g.elim (fun u => u.1) id)) (rg_cg g6 (fun k => rd_wr_row (by decide)) (fun k => rd_wr_row (by decide))) ?_
               rw [r21, r22, r23, wv]
               refine BS_cg (BS_yes hb1 (hw0 q fz) (by rw [← wv]; exact wb.1) qh) (fun x y => ?_)
               constructor
               · rintro (u | ⟨q', u1, u2, u3⟩)
                 · exact Or.inl (Or.inl u)
                 · by_cases g : q' < q
                   · exact Or.inl (Or.inr ⟨q', g, u2, u3⟩)
                   · have g2 : q' = q := by omega
                     rw [g2] at u3
                     exact Or.inr u3
               · rintro ((u | ⟨q', u1, u2, u3⟩) | u)
                 · exact Or.inl u
                 · exact Or.inr ⟨q', by omega, u2, u3⟩
                 · exact Or.inr ⟨q, by omega, fz, u⟩)
        · refine w_istore dX12_seconds_49 rfl rfl ?_
          refine w_iload dX12_seconds_51 rfl ?_
          refine v_if_eq 126 dX12_seconds_53 (by decide) (by decide) (fun q => absurd q (by decide)) (fun _ => ?_)
          refine w_iload dX12_seconds_56 rfl ?_
          refine w_iconst (v := iI 2) dX12_seconds_58 rfl ?_
          refine v_icmp_ge 71 dX12_seconds_59 (by decide) (by first | omega | (clear h q0; omega) | (clear h q0 q1; omega) | (clear h q0 q1 qm; omega) | (clear h q0 q1 qm ql; omega)) (by first | omega | (clear h q0; omega) | (clear h q0 q1; omega) | (clear h q0 q1 qm; omega) | (clear h q0 q1 qm ql; omega)) (fun c59 => ?_) (fun c59 => ?_)
          · refine w_aload_n dX12_seconds_71 rfl ?_
            refine v_getR (j := 177) dX12_seconds_72 fX12_26 ⟨by decide, rfl⟩ rfl rfl ?_
            refine w_iload_n dX12_seconds_75 rfl ?_
            refine w_iconst (v := iI 1) dX12_seconds_76 rfl ?_
            refine v_zast dX12_seconds_77 ⟨by decide, rfl⟩ (by first | omega | (clear h q0; omega) | (clear h q0 q1; omega) | (clear h q0 q1 qm; omega) | (clear h q0 q1 qm ql; omega)) (by first | omega | (clear h q0; omega) | (clear h q0 q1; omega) | (clear h q0 q1 qm; omega) | (clear h q0 q1 qm ql; omega)) (by decide) (by decide) ?_
            refine w_aload_n dX12_seconds_78 rfl ?_
            refine w_iload_n dX12_seconds_79 rfl ?_
            refine w_iload_n dX12_seconds_80 rfl ?_
            refine w_iload dX12_seconds_81 rfl ?_
            refine w_iload dX12_seconds_83 rfl ?_
            refine v_callV4 dX12_seconds_85 lX12_200 vX12_mayTouch (by decide) rfl rfl ⟨by decide, rfl⟩ (by decide) rfl (Nat.le_of_ble_eq_true rfl) ?_
            rw [Int.toNat_natCast]
            have g3 : rg (wr (wr (wr I' 178 b ((q : Int) / 64 - 5)) 179 b ((q : Int) % 64 - 10)) 177 b 1) := rg_cg g2 (fun k => rd_wr_row (by decide)) (fun k => rd_wr_row (by decide))
            have s3 : sF (fun k => k = b ∧ k ≠ b) (pl I b q) (wr (wr (wr I' 178 b ((q : Int) / 64 - 5)) 179 b ((q : Int) % 64 - 10)) 177 b 1) := sF_put hx (by omega)
            have r3 : fR (pl I b q) (wr (wr (wr I' 178 b ((q : Int) / 64 - 5)) 179 b ((q : Int) % 64 - 10)) 177 b 1) := sF_R s3 (fun k g => g.2 g.1)
            refine x12_mayTouch g3 ha hb (by omega) (by omega) (fun qm I4 m4 => ?_) (fun qm I4 m4 => ?_)
            all_goals rw [mT2_R r3] at qm
            all_goals have s4 := sF_3 s3 m4
            all_goals have r4 : fR (pl I b q) I4 := sF_R s4 (fun k g => g.2 g.1)
            all_goals have g4 := rg_3 g3 m4
            · refine v_if_eq 102 dX12_seconds_88 (by decide) (by decide) (fun q => absurd q (by decide)) (fun _ => ?_)
              refine w_aload_n dX12_seconds_91 rfl ?_
              refine v_callV0 dX12_seconds_92 lX12_149 vX12_mayLie (by decide) rfl rfl ⟨by decide, rfl⟩ (by decide) rfl (Nat.le_of_ble_eq_true rfl) ?_
              have w4 : rd I4 171 12 = wn := by
                rw [s4 171 12 (by unfold S3; omega), pl_rd (by omega), if_neg (by omega), if_neg (by omega), if_neg (by omega)]; exact hw
              have z4 : ∀ k, rd I4 183 k = rd I 183 k := fun k => by
                rw [s4 183 k (by unfold S3; omega), pl_rd (by omega), if_neg (by omega), if_neg (by omega), if_neg (by omega)]
              refine x12_mayLie (fun d hd => (g4 d hd).1) (fun d hd => (g4 d hd).2) w4 hw2 (fun w g => by rw [z4]; exact hsz w g) (fun ql I5 s5 m5 => ?_) (fun ql I5 m5 => ?_)
              all_goals rw [mL_R r4] at ql
              all_goals have g5 := rg_3 g4 m5
              all_goals have t5 := sF_3 s4 m5
              · refine v_if_eq 102 dX12_seconds_95 (by decide) (by decide) (fun q => absurd q (by decide)) (fun _ => ?_)
                refine w_iconst (v := iI 1) dX12_seconds_98 rfl ?_
                refine w_goto 103 dX12_seconds_99 (by decide) ?_
                refine w_istore dX12_seconds_103 rfl rfl ?_
                refine w_iload dX12_seconds_105 rfl ?_
                refine v_if_eq 119 dX12_seconds_107 (by decide) (by decide) (fun q => absurd q (by decide)) (fun _ => ?_)
                refine w_aload_n dX12_seconds_110 rfl ?_
                refine w_iload_n dX12_seconds_111 rfl ?_
                refine w_iload_n dX12_seconds_112 rfl ?_
                refine w_iload_n dX12_seconds_113 rfl ?_
                refine w_iload dX12_seconds_114 rfl ?_
                refine v_callV4 dX12_seconds_116 lX12_197 vX12_holds (by decide) rfl rfl ⟨by decide, rfl⟩ (by decide) rfl (Nat.le_of_ble_eq_true rfl) ?_
                have wv : wNow I5 = wA (pl I b q) := by rw [wNow_sh s5 m5]; exact wA_R r4
                have wb := wNow_bd I5
                have bst : ∀ k, 21 ≤ k → rd I5 171 k = rd I' 171 k := fun k g => by
                  rw [m5 _ _ (by unfold S3; omega), m4 _ _ (by unfold S3; omega), rd_wr_row (by decide), rd_wr_row (by decide), rd_wr_row (by decide)]
                have b21 := bst 21 (by decide)
                have b22 := bst 22 (by decide)
                have b23 := bst 23 (by decide)
                have fz : fzB I (fun k => rd I 187 k) a b wn (t = 2) q := ⟨qn, q0, by first | exact Or.inr q1 | exact Or.inl (by clear q1 qm ql q0 h; omega), by
                  rcases qm with u | u
                  · first | exact Or.inl ⟨u.1, q1⟩ | (exfalso; exact absurd u.2 (by decide))
                  · exact Or.inr u.2.2, ql⟩
                refine x12_holds g5 (by omega) (by omega) (by omega) (by omega) (fun qh => ?_) (fun qh => ?_)
                all_goals rw [b21, b22, b23, wv] at qh
                · refine w_aload_n dX12_seconds_119 rfl ?_
                  refine v_getR (j := 177) dX12_seconds_120 fX12_26 ⟨by decide, rfl⟩ rfl rfl ?_
                  refine w_iload_n dX12_seconds_123 rfl ?_
                  refine w_iconst (v := iI 0) dX12_seconds_124 rfl ?_
                  refine v_zast dX12_seconds_125 ⟨by decide, rfl⟩ (by first | omega | (clear h q0; omega) | (clear h q0 q1; omega) | (clear h q0 q1 qm; omega) | (clear h q0 q1 qm ql; omega)) (by first | omega | (clear h q0; omega) | (clear h q0 q1; omega) | (clear h q0 q1 qm; omega) | (clear h q0 q1 qm ql; omega)) (by decide) (by decide) ?_
                  refine v_iinc dX12_seconds_126 rfl rfl rfl ?_
                  refine w_goto 3 dX12_seconds_129 (by decide) ?_
                  first
                    | (rw [show (q : Int) + 1 = ((q + 1 : Nat) : Int) by omega]
                       have nf : ¬ fzB I (fun k => rd I 187 k) a b wn (t = 2) q := fun v => by
                         exact qn v.1
                       refine ih (q + 1) _ (by omega) (by omega) hx hg (BS_cg hb1 (fun x y => ?_))
                       constructor
                       · rintro (u | ⟨q', u1, u2, u3⟩)
                         · exact Or.inl u
                         · by_cases g : q' < q
                           · exact Or.inr ⟨q', g, u2, u3⟩
                           · have g2 : q' = q := by omega
                             rw [g2] at u2
                             exact absurd u2 nf
                       · rintro (u | ⟨q', u1, u2, u3⟩)
                         · exact Or.inl u
                         · exact Or.inr ⟨q', by omega, u2, u3⟩)
                    | (refine w_keep 6 ?_
                       rw [show (q : Int) + 1 = ((q + 1 : Nat) : Int) by omega]
                       have nf : ¬ fzB I (fun k => rd I 187 k) a b wn (t = 2) q := fun v => by
                         first | exact q0 v.2.1 | exact v.2.2.1.elim (fun u => by clear q0 q1 v h; omega) q1
                       refine ih (q + 1) _ (by omega) (by omega) (fun id k g => by
                         have g1 : ¬ (id = 178 ∧ k = b) := fun u => g (Or.inr (Or.inr ⟨Or.inl u.1, u.2⟩))
                         have g2 : ¬ (id = 179 ∧ k = b) := fun u => g (Or.inr (Or.inr ⟨Or.inr u.1, u.2⟩))
                         rw [rd_wr_ne g2, rd_wr_ne g1]; exact hx id k g) g2 (BS_cg (by rw [rd_wr_row (by decide), rd_wr_row (by decide), rd_wr_row (by decide), rd_wr_row (by decide), rd_wr_row (by decide), rd_wr_row (by decide)]; exact hb1) (fun x y => ?_))
                       constructor
                       · rintro (u | ⟨q', u1, u2, u3⟩)
                         · exact Or.inl u
                         · by_cases g : q' < q
                           · exact Or.inr ⟨q', g, u2, u3⟩
                           · have g2 : q' = q := by omega
                             rw [g2] at u2
                             exact absurd u2 nf
                       · rintro (u | ⟨q', u1, u2, u3⟩)
                         · exact Or.inl u
                         · exact Or.inr ⟨q', by omega, u2, u3⟩)
                    | (refine w_keep 6 ?_
                       rw [Int.toNat_natCast]
                       have sO := sF_off s4 (by omega) hb0
                       rw [show (q : Int) + 1 = ((q + 1 : Nat) : Int) by omega]
                       have nf : ¬ fzB I (fun k => rd I 187 k) a b wn (t = 2) q := fun v => by
                         exact qm (by
                           rcases v.2.2.2.1 with u | u
                           · first | exact Or.inl ⟨u.1, rfl⟩ | exact absurd u.2 q1
                           · exact Or.inr ⟨nqa ⟨by show rd (pl I b q) 177 a ≠ 0; rw [pl_rd (by omega), if_neg (by omega), if_neg (by omega), if_neg (by omega)]; exact ha1, by show rd (pl I b q) 177 b ≠ 0; rw [pl_rd (by omega), if_neg (by omega), if_neg (by omega), if_pos ⟨rfl, rfl⟩]; decide⟩ hne ha hb v.2.2.2.2, v.2.2.2.2.1, u⟩)
                       refine ih (q + 1) _ (by omega) (by omega) (sF_mono sO (fun k g => g.elim (fun u => u.1) id)) (rg_cg g4 (fun k => rd_wr_row (by decide)) (fun k => rd_wr_row (by decide))) (BS_cg (by rw [rd_wr_row (by decide), rd_wr_row (by decide), rd_wr_row (by decide), m4 171 21 (by unfold S3; omega), rd_wr_row (by decide), rd_wr_row (by decide), rd_wr_row (by decide), m4 171 22 (by unfold S3; omega), rd_wr_row (by decide), rd_wr_row (by decide), rd_wr_row (by decide), m4 171 23 (by unfold S3; omega), rd_wr_row (by decide), rd_wr_row (by decide), rd_wr_row (by decide)]; exact hb1) (fun x y => ?_))
                       constructor
                       · rintro (u | ⟨q', u1, u2, u3⟩)
                         · exact Or.inl u
                         · by_cases g : q' < q
                           · exact Or.inr ⟨q', g, u2, u3⟩
                           · have g2 : q' = q := by omega
                             rw [g2] at u2
                             exact absurd u2 nf
                       · rintro (u | ⟨q', u1, u2, u3⟩)
                         · exact Or.inl u
                         · exact Or.inr ⟨q', by omega, u2, u3⟩)
                    | (refine w_keep 6 ?_
                       rw [Int.toNat_natCast]
                       have sO := sF_off t5 (by omega) hb0
                       rw [show (q : Int) + 1 = ((q + 1 : Nat) : Int) by omega]
                       have nf : ¬ fzB I (fun k => rd I 187 k) a b wn (t = 2) q := fun v => by
                         exact ql v.2.2.2.2
                       refine ih (q + 1) _ (by omega) (by omega) (sF_mono sO (fun k g => g.elim (fun u => u.1) id)) (rg_cg g5 (fun k => rd_wr_row (by decide)) (fun k => rd_wr_row (by decide))) (BS_cg (by rw [rd_wr_row (by decide), rd_wr_row (by decide), rd_wr_row (by decide), m5 171 21 (by unfold S3; omega), m4 171 21 (by unfold S3; omega), rd_wr_row (by decide), rd_wr_row (by decide), rd_wr_row (by decide), m5 171 22 (by unfold S3; omega), m4 171 22 (by unfold S3; omega), rd_wr_row (by decide), rd_wr_row (by decide), rd_wr_row (by decide), m5 171 23 (by unfold S3; omega), m4 171 23 (by unfold S3; omega), rd_wr_row (by decide), rd_wr_row (by decide), rd_wr_row (by decide)]; exact hb1) (fun x y => ?_))
                       constructor
                       · rintro (u | ⟨q', u1, u2, u3⟩)
                         · exact Or.inl u
                         · by_cases g : q' < q
                           · exact Or.inr ⟨q', g, u2, u3⟩
                           · have g2 : q' = q := by omega
                             rw [g2] at u2
                             exact absurd u2 nf
                       · rintro (u | ⟨q', u1, u2, u3⟩)
                         · exact Or.inl u
                         · exact Or.inr ⟨q', by omega, u2, u3⟩)
                    | (refine w_keep 6 ?_
                       rw [Int.toNat_natCast]
                       rw [show (q : Int) + 1 = ((q + 1 : Nat) : Int) by omega]
                       have sO := sF_off t5 (by omega) hb0
                       refine ih (q + 1) _ (by omega) (by omega) (sF_mono sO (fun k g => g.elim (fun u => u.1) id)) (rg_cg g5 (fun k => rd_wr_row (by decide)) (fun k => rd_wr_row (by decide))) ?_
                       rw [rd_wr_row (by decide), rd_wr_row (by decide), rd_wr_row (by decide), b21, b22, b23]
                       refine BS_cg (BS_no hb1 (hw0 q fz) (by rw [← wv]; exact wb.1) qh) (fun x y => ?_)
                       constructor
                       · rintro (u | ⟨q', u1, u2, u3⟩)
                         · exact Or.inl (Or.inl u)
                         · by_cases g : q' < q
                           · exact Or.inl (Or.inr ⟨q', g, u2, u3⟩)
                           · have g2 : q' = q := by omega
                             rw [g2] at u3
                             exact Or.inr u3
                       · rintro ((u | ⟨q', u1, u2, u3⟩) | u)
                         · exact Or.inl u
                         · exact Or.inr ⟨q', by omega, u2, u3⟩
                         · exact Or.inr ⟨q, by omega, fz, u⟩)
                    | (refine w_keep 6 ?_
                       rw [Int.toNat_natCast]
                       rw [show (q : Int) + 1 = ((q + 1 : Nat) : Int) by omega]
                       have xb : -2147483648 ≤ yy a b p q ∧ yy a b p q < 2147483648 := by unfold yy; split <;> omega
                       have yb : -2147483648 ≤ xx a b p q ∧ xx a b p q < 2147483648 := by unfold xx; split <;> omega
                       have t6 := sF_b (v := wNow I5) (x := xx a b p q) (y := yy a b p q) t5
                       have sO := sF_off t6 (by omega) hb0
                       have g6 : rg (wr (wr (wr I5 171 21 (wNow I5)) 171 22 (xx a b p q)) 171 23 (yy a b p q)) := rg_cg g5 (fun k => by rw [rd_wr_row (by decide), rd_wr_row (by decide), rd_wr_row (by decide)]) (fun k => by rw [rd_wr_row (by decide), rd_wr_row (by decide), rd_wr_row (by decide)])
                       have r21 : rd (wr (wr (wr (wr I5 171 21 (wNow I5)) 171 22 (xx a b p q)) 171 23 (yy a b p q)) 177 b 0) 171 21 = wNow I5 := by rw [rd_wr_row (by decide), rd_wr_ne (by decide), rd_wr_ne (by decide), rd_wr_eq (by omega) (by omega)]
                       have r22 : rd (wr (wr (wr (wr I5 171 21 (wNow I5)) 171 22 (xx a b p q)) 171 23 (yy a b p q)) 177 b 0) 171 22 = xx a b p q := by rw [rd_wr_row (by decide), rd_wr_ne (by decide), rd_wr_eq yb.1 yb.2]
                       have r23 : rd (wr (wr (wr (wr I5 171 21 (wNow I5)) 171 22 (xx a b p q)) 171 23 (yy a b p q)) 177 b 0) 171 23 = yy a b p q := by rw [rd_wr_row (by decide), rd_wr_eq xb.1 xb.2]
                       refine ih (q + 1) _ (by omega) (by omega) (sF_mono sO (fun k g => g.elim (fun u => u.1) id)) (rg_cg g6 (fun k => rd_wr_row (by decide)) (fun k => rd_wr_row (by decide))) ?_
                       rw [r21, r22, r23, wv]
                       refine BS_cg (BS_yes hb1 (hw0 q fz) (by rw [← wv]; exact wb.1) qh) (fun x y => ?_)
                       constructor
                       · rintro (u | ⟨q', u1, u2, u3⟩)
                         · exact Or.inl (Or.inl u)
                         · by_cases g : q' < q
                           · exact Or.inl (Or.inr ⟨q', g, u2, u3⟩)
                           · have g2 : q' = q := by omega
                             rw [g2] at u3
                             exact Or.inr u3
                       · rintro ((u | ⟨q', u1, u2, u3⟩) | u)
                         · exact Or.inl u
                         · exact Or.inr ⟨q', by omega, u2, u3⟩
                         · exact Or.inr ⟨q, by omega, fz, u⟩)
                · refine w_aload_n dX12_seconds_119 rfl ?_
                  refine v_getR (j := 177) dX12_seconds_120 fX12_26 ⟨by decide, rfl⟩ rfl rfl ?_
                  refine w_iload_n dX12_seconds_123 rfl ?_
                  refine w_iconst (v := iI 0) dX12_seconds_124 rfl ?_
                  refine v_zast dX12_seconds_125 ⟨by decide, rfl⟩ (by first | omega | (clear h q0; omega) | (clear h q0 q1; omega) | (clear h q0 q1 qm; omega) | (clear h q0 q1 qm ql; omega)) (by first | omega | (clear h q0; omega) | (clear h q0 q1; omega) | (clear h q0 q1 qm; omega) | (clear h q0 q1 qm ql; omega)) (by decide) (by decide) ?_
                  refine v_iinc dX12_seconds_126 rfl rfl rfl ?_
                  refine w_goto 3 dX12_seconds_129 (by decide) ?_
                  first
                    | (rw [show (q : Int) + 1 = ((q + 1 : Nat) : Int) by omega]
                       have nf : ¬ fzB I (fun k => rd I 187 k) a b wn (t = 2) q := fun v => by
                         exact qn v.1
                       refine ih (q + 1) _ (by omega) (by omega) hx hg (BS_cg hb1 (fun x y => ?_))
                       constructor
                       · rintro (u | ⟨q', u1, u2, u3⟩)
                         · exact Or.inl u
                         · by_cases g : q' < q
                           · exact Or.inr ⟨q', g, u2, u3⟩
                           · have g2 : q' = q := by omega
                             rw [g2] at u2
                             exact absurd u2 nf
                       · rintro (u | ⟨q', u1, u2, u3⟩)
                         · exact Or.inl u
                         · exact Or.inr ⟨q', by omega, u2, u3⟩)
                    | (refine w_keep 6 ?_
                       rw [show (q : Int) + 1 = ((q + 1 : Nat) : Int) by omega]
                       have nf : ¬ fzB I (fun k => rd I 187 k) a b wn (t = 2) q := fun v => by
                         first | exact q0 v.2.1 | exact v.2.2.1.elim (fun u => by clear q0 q1 v h; omega) q1
                       refine ih (q + 1) _ (by omega) (by omega) (fun id k g => by
                         have g1 : ¬ (id = 178 ∧ k = b) := fun u => g (Or.inr (Or.inr ⟨Or.inl u.1, u.2⟩))
                         have g2 : ¬ (id = 179 ∧ k = b) := fun u => g (Or.inr (Or.inr ⟨Or.inr u.1, u.2⟩))
                         rw [rd_wr_ne g2, rd_wr_ne g1]; exact hx id k g) g2 (BS_cg (by rw [rd_wr_row (by decide), rd_wr_row (by decide), rd_wr_row (by decide), rd_wr_row (by decide), rd_wr_row (by decide), rd_wr_row (by decide)]; exact hb1) (fun x y => ?_))
                       constructor
                       · rintro (u | ⟨q', u1, u2, u3⟩)
                         · exact Or.inl u
                         · by_cases g : q' < q
                           · exact Or.inr ⟨q', g, u2, u3⟩
                           · have g2 : q' = q := by omega
                             rw [g2] at u2
                             exact absurd u2 nf
                       · rintro (u | ⟨q', u1, u2, u3⟩)
                         · exact Or.inl u
                         · exact Or.inr ⟨q', by omega, u2, u3⟩)
                    | (refine w_keep 6 ?_
                       rw [Int.toNat_natCast]
                       have sO := sF_off s4 (by omega) hb0
                       rw [show (q : Int) + 1 = ((q + 1 : Nat) : Int) by omega]
                       have nf : ¬ fzB I (fun k => rd I 187 k) a b wn (t = 2) q := fun v => by
                         exact qm (by
                           rcases v.2.2.2.1 with u | u
                           · first | exact Or.inl ⟨u.1, rfl⟩ | exact absurd u.2 q1
                           · exact Or.inr ⟨nqa ⟨by show rd (pl I b q) 177 a ≠ 0; rw [pl_rd (by omega), if_neg (by omega), if_neg (by omega), if_neg (by omega)]; exact ha1, by show rd (pl I b q) 177 b ≠ 0; rw [pl_rd (by omega), if_neg (by omega), if_neg (by omega), if_pos ⟨rfl, rfl⟩]; decide⟩ hne ha hb v.2.2.2.2, v.2.2.2.2.1, u⟩)
                       refine ih (q + 1) _ (by omega) (by omega) (sF_mono sO (fun k g => g.elim (fun u => u.1) id)) (rg_cg g4 (fun k => rd_wr_row (by decide)) (fun k => rd_wr_row (by decide))) (BS_cg (by rw [rd_wr_row (by decide), rd_wr_row (by decide), rd_wr_row (by decide), m4 171 21 (by unfold S3; omega), rd_wr_row (by decide), rd_wr_row (by decide), rd_wr_row (by decide), m4 171 22 (by unfold S3; omega), rd_wr_row (by decide), rd_wr_row (by decide), rd_wr_row (by decide), m4 171 23 (by unfold S3; omega), rd_wr_row (by decide), rd_wr_row (by decide), rd_wr_row (by decide)]; exact hb1) (fun x y => ?_))
                       constructor
                       · rintro (u | ⟨q', u1, u2, u3⟩)
                         · exact Or.inl u
                         · by_cases g : q' < q
                           · exact Or.inr ⟨q', g, u2, u3⟩
                           · have g2 : q' = q := by omega
                             rw [g2] at u2
                             exact absurd u2 nf
                       · rintro (u | ⟨q', u1, u2, u3⟩)
                         · exact Or.inl u
                         · exact Or.inr ⟨q', by omega, u2, u3⟩)
                    | (refine w_keep 6 ?_
                       rw [Int.toNat_natCast]
                       have sO := sF_off t5 (by omega) hb0
                       rw [show (q : Int) + 1 = ((q + 1 : Nat) : Int) by omega]
                       have nf : ¬ fzB I (fun k => rd I 187 k) a b wn (t = 2) q := fun v => by
                         exact ql v.2.2.2.2
                       refine ih (q + 1) _ (by omega) (by omega) (sF_mono sO (fun k g => g.elim (fun u => u.1) id)) (rg_cg g5 (fun k => rd_wr_row (by decide)) (fun k => rd_wr_row (by decide))) (BS_cg (by rw [rd_wr_row (by decide), rd_wr_row (by decide), rd_wr_row (by decide), m5 171 21 (by unfold S3; omega), m4 171 21 (by unfold S3; omega), rd_wr_row (by decide), rd_wr_row (by decide), rd_wr_row (by decide), m5 171 22 (by unfold S3; omega), m4 171 22 (by unfold S3; omega), rd_wr_row (by decide), rd_wr_row (by decide), rd_wr_row (by decide), m5 171 23 (by unfold S3; omega), m4 171 23 (by unfold S3; omega), rd_wr_row (by decide), rd_wr_row (by decide), rd_wr_row (by decide)]; exact hb1) (fun x y => ?_))
                       constructor
                       · rintro (u | ⟨q', u1, u2, u3⟩)
                         · exact Or.inl u
                         · by_cases g : q' < q
                           · exact Or.inr ⟨q', g, u2, u3⟩
                           · have g2 : q' = q := by omega
                             rw [g2] at u2
                             exact absurd u2 nf
                       · rintro (u | ⟨q', u1, u2, u3⟩)
                         · exact Or.inl u
                         · exact Or.inr ⟨q', by omega, u2, u3⟩)
                    | (refine w_keep 6 ?_
                       rw [Int.toNat_natCast]
                       rw [show (q : Int) + 1 = ((q + 1 : Nat) : Int) by omega]
                       have sO := sF_off t5 (by omega) hb0
                       refine ih (q + 1) _ (by omega) (by omega) (sF_mono sO (fun k g => g.elim (fun u => u.1) id)) (rg_cg g5 (fun k => rd_wr_row (by decide)) (fun k => rd_wr_row (by decide))) ?_
                       rw [rd_wr_row (by decide), rd_wr_row (by decide), rd_wr_row (by decide), b21, b22, b23]
                       refine BS_cg (BS_no hb1 (hw0 q fz) (by rw [← wv]; exact wb.1) qh) (fun x y => ?_)
                       constructor
                       · rintro (u | ⟨q', u1, u2, u3⟩)
                         · exact Or.inl (Or.inl u)
                         · by_cases g : q' < q
                           · exact Or.inl (Or.inr ⟨q', g, u2, u3⟩)
                           · have g2 : q' = q := by omega
                             rw [g2] at u3
                             exact Or.inr u3
                       · rintro ((u | ⟨q', u1, u2, u3⟩) | u)
                         · exact Or.inl u
                         · exact Or.inr ⟨q', by omega, u2, u3⟩
                         · exact Or.inr ⟨q, by omega, fz, u⟩)
                    | (refine w_keep 6 ?_
                       rw [Int.toNat_natCast]
                       rw [show (q : Int) + 1 = ((q + 1 : Nat) : Int) by omega]
                       have xb : -2147483648 ≤ yy a b p q ∧ yy a b p q < 2147483648 := by unfold yy; split <;> omega
                       have yb : -2147483648 ≤ xx a b p q ∧ xx a b p q < 2147483648 := by unfold xx; split <;> omega
                       have t6 := sF_b (v := wNow I5) (x := xx a b p q) (y := yy a b p q) t5
                       have sO := sF_off t6 (by omega) hb0
                       have g6 : rg (wr (wr (wr I5 171 21 (wNow I5)) 171 22 (xx a b p q)) 171 23 (yy a b p q)) := rg_cg g5 (fun k => by rw [rd_wr_row (by decide), rd_wr_row (by decide), rd_wr_row (by decide)]) (fun k => by rw [rd_wr_row (by decide), rd_wr_row (by decide), rd_wr_row (by decide)])
                       have r21 : rd (wr (wr (wr (wr I5 171 21 (wNow I5)) 171 22 (xx a b p q)) 171 23 (yy a b p q)) 177 b 0) 171 21 = wNow I5 := by rw [rd_wr_row (by decide), rd_wr_ne (by decide), rd_wr_ne (by decide), rd_wr_eq (by omega) (by omega)]
                       have r22 : rd (wr (wr (wr (wr I5 171 21 (wNow I5)) 171 22 (xx a b p q)) 171 23 (yy a b p q)) 177 b 0) 171 22 = xx a b p q := by rw [rd_wr_row (by decide), rd_wr_ne (by decide), rd_wr_eq yb.1 yb.2]
                       have r23 : rd (wr (wr (wr (wr I5 171 21 (wNow I5)) 171 22 (xx a b p q)) 171 23 (yy a b p q)) 177 b 0) 171 23 = yy a b p q := by rw [rd_wr_row (by decide), rd_wr_eq xb.1 xb.2]
                       refine ih (q + 1) _ (by omega) (by omega) (sF_mono sO (fun k g => g.elim (fun u => u.1) id)) (rg_cg g6 (fun k => rd_wr_row (by decide)) (fun k => rd_wr_row (by decide))) ?_
                       rw [r21, r22, r23, wv]
                       refine BS_cg (BS_yes hb1 (hw0 q fz) (by rw [← wv]; exact wb.1) qh) (fun x y => ?_)
                       constructor
                       · rintro (u | ⟨q', u1, u2, u3⟩)
                         · exact Or.inl (Or.inl u)
                         · by_cases g : q' < q
                           · exact Or.inl (Or.inr ⟨q', g, u2, u3⟩)
                           · have g2 : q' = q := by omega
                             rw [g2] at u3
                             exact Or.inr u3
                       · rintro ((u | ⟨q', u1, u2, u3⟩) | u)
                         · exact Or.inl u
                         · exact Or.inr ⟨q', by omega, u2, u3⟩
                         · exact Or.inr ⟨q, by omega, fz, u⟩)
              · refine v_if_eq 102 dX12_seconds_95 (by decide) (by decide) (fun _ => ?_) (fun q => absurd q (by decide))
                refine w_iconst (v := iI 0) dX12_seconds_102 rfl ?_
                refine w_istore dX12_seconds_103 rfl rfl ?_
                refine w_iload dX12_seconds_105 rfl ?_
                refine v_if_eq 119 dX12_seconds_107 (by decide) (by decide) (fun _ => ?_) (fun q => absurd q (by decide))
                refine w_aload_n dX12_seconds_119 rfl ?_
                refine v_getR (j := 177) dX12_seconds_120 fX12_26 ⟨by decide, rfl⟩ rfl rfl ?_
                refine w_iload_n dX12_seconds_123 rfl ?_
                refine w_iconst (v := iI 0) dX12_seconds_124 rfl ?_
                refine v_zast dX12_seconds_125 ⟨by decide, rfl⟩ (by first | omega | (clear h q0; omega) | (clear h q0 q1; omega) | (clear h q0 q1 qm; omega) | (clear h q0 q1 qm ql; omega)) (by first | omega | (clear h q0; omega) | (clear h q0 q1; omega) | (clear h q0 q1 qm; omega) | (clear h q0 q1 qm ql; omega)) (by decide) (by decide) ?_
                refine v_iinc dX12_seconds_126 rfl rfl rfl ?_
                refine w_goto 3 dX12_seconds_129 (by decide) ?_
                first
                  | (rw [show (q : Int) + 1 = ((q + 1 : Nat) : Int) by omega]
                     have nf : ¬ fzB I (fun k => rd I 187 k) a b wn (t = 2) q := fun v => by
                       exact qn v.1
                     refine ih (q + 1) _ (by omega) (by omega) hx hg (BS_cg hb1 (fun x y => ?_))
                     constructor
                     · rintro (u | ⟨q', u1, u2, u3⟩)
                       · exact Or.inl u
                       · by_cases g : q' < q
                         · exact Or.inr ⟨q', g, u2, u3⟩
                         · have g2 : q' = q := by omega
                           rw [g2] at u2
                           exact absurd u2 nf
                     · rintro (u | ⟨q', u1, u2, u3⟩)
                       · exact Or.inl u
                       · exact Or.inr ⟨q', by omega, u2, u3⟩)
                  | (refine w_keep 6 ?_
                     rw [show (q : Int) + 1 = ((q + 1 : Nat) : Int) by omega]
                     have nf : ¬ fzB I (fun k => rd I 187 k) a b wn (t = 2) q := fun v => by
                       first | exact q0 v.2.1 | exact v.2.2.1.elim (fun u => by clear q0 q1 v h; omega) q1
                     refine ih (q + 1) _ (by omega) (by omega) (fun id k g => by
                       have g1 : ¬ (id = 178 ∧ k = b) := fun u => g (Or.inr (Or.inr ⟨Or.inl u.1, u.2⟩))
                       have g2 : ¬ (id = 179 ∧ k = b) := fun u => g (Or.inr (Or.inr ⟨Or.inr u.1, u.2⟩))
                       rw [rd_wr_ne g2, rd_wr_ne g1]; exact hx id k g) g2 (BS_cg (by rw [rd_wr_row (by decide), rd_wr_row (by decide), rd_wr_row (by decide), rd_wr_row (by decide), rd_wr_row (by decide), rd_wr_row (by decide)]; exact hb1) (fun x y => ?_))
                     constructor
                     · rintro (u | ⟨q', u1, u2, u3⟩)
                       · exact Or.inl u
                       · by_cases g : q' < q
                         · exact Or.inr ⟨q', g, u2, u3⟩
                         · have g2 : q' = q := by omega
                           rw [g2] at u2
                           exact absurd u2 nf
                     · rintro (u | ⟨q', u1, u2, u3⟩)
                       · exact Or.inl u
                       · exact Or.inr ⟨q', by omega, u2, u3⟩)
                  | (refine w_keep 6 ?_
                     rw [Int.toNat_natCast]
                     have sO := sF_off s4 (by omega) hb0
                     rw [show (q : Int) + 1 = ((q + 1 : Nat) : Int) by omega]
                     have nf : ¬ fzB I (fun k => rd I 187 k) a b wn (t = 2) q := fun v => by
                       exact qm (by
                         rcases v.2.2.2.1 with u | u
                         · first | exact Or.inl ⟨u.1, rfl⟩ | exact absurd u.2 q1
                         · exact Or.inr ⟨nqa ⟨by show rd (pl I b q) 177 a ≠ 0; rw [pl_rd (by omega), if_neg (by omega), if_neg (by omega), if_neg (by omega)]; exact ha1, by show rd (pl I b q) 177 b ≠ 0; rw [pl_rd (by omega), if_neg (by omega), if_neg (by omega), if_pos ⟨rfl, rfl⟩]; decide⟩ hne ha hb v.2.2.2.2, v.2.2.2.2.1, u⟩)
                     refine ih (q + 1) _ (by omega) (by omega) (sF_mono sO (fun k g => g.elim (fun u => u.1) id)) (rg_cg g4 (fun k => rd_wr_row (by decide)) (fun k => rd_wr_row (by decide))) (BS_cg (by rw [rd_wr_row (by decide), rd_wr_row (by decide), rd_wr_row (by decide), m4 171 21 (by unfold S3; omega), rd_wr_row (by decide), rd_wr_row (by decide), rd_wr_row (by decide), m4 171 22 (by unfold S3; omega), rd_wr_row (by decide), rd_wr_row (by decide), rd_wr_row (by decide), m4 171 23 (by unfold S3; omega), rd_wr_row (by decide), rd_wr_row (by decide), rd_wr_row (by decide)]; exact hb1) (fun x y => ?_))
                     constructor
                     · rintro (u | ⟨q', u1, u2, u3⟩)
                       · exact Or.inl u
                       · by_cases g : q' < q
                         · exact Or.inr ⟨q', g, u2, u3⟩
                         · have g2 : q' = q := by omega
                           rw [g2] at u2
                           exact absurd u2 nf
                     · rintro (u | ⟨q', u1, u2, u3⟩)
                       · exact Or.inl u
                       · exact Or.inr ⟨q', by omega, u2, u3⟩)
                  | (refine w_keep 6 ?_
                     rw [Int.toNat_natCast]
                     have sO := sF_off t5 (by omega) hb0
                     rw [show (q : Int) + 1 = ((q + 1 : Nat) : Int) by omega]
                     have nf : ¬ fzB I (fun k => rd I 187 k) a b wn (t = 2) q := fun v => by
                       exact ql v.2.2.2.2
                     refine ih (q + 1) _ (by omega) (by omega) (sF_mono sO (fun k g => g.elim (fun u => u.1) id)) (rg_cg g5 (fun k => rd_wr_row (by decide)) (fun k => rd_wr_row (by decide))) (BS_cg (by rw [rd_wr_row (by decide), rd_wr_row (by decide), rd_wr_row (by decide), m5 171 21 (by unfold S3; omega), m4 171 21 (by unfold S3; omega), rd_wr_row (by decide), rd_wr_row (by decide), rd_wr_row (by decide), m5 171 22 (by unfold S3; omega), m4 171 22 (by unfold S3; omega), rd_wr_row (by decide), rd_wr_row (by decide), rd_wr_row (by decide), m5 171 23 (by unfold S3; omega), m4 171 23 (by unfold S3; omega), rd_wr_row (by decide), rd_wr_row (by decide), rd_wr_row (by decide)]; exact hb1) (fun x y => ?_))
                     constructor
                     · rintro (u | ⟨q', u1, u2, u3⟩)
                       · exact Or.inl u
                       · by_cases g : q' < q
                         · exact Or.inr ⟨q', g, u2, u3⟩
                         · have g2 : q' = q := by omega
                           rw [g2] at u2
                           exact absurd u2 nf
                     · rintro (u | ⟨q', u1, u2, u3⟩)
                       · exact Or.inl u
                       · exact Or.inr ⟨q', by omega, u2, u3⟩)
                  | (refine w_keep 6 ?_
                     rw [Int.toNat_natCast]
                     rw [show (q : Int) + 1 = ((q + 1 : Nat) : Int) by omega]
                     have sO := sF_off t5 (by omega) hb0
                     refine ih (q + 1) _ (by omega) (by omega) (sF_mono sO (fun k g => g.elim (fun u => u.1) id)) (rg_cg g5 (fun k => rd_wr_row (by decide)) (fun k => rd_wr_row (by decide))) ?_
                     rw [rd_wr_row (by decide), rd_wr_row (by decide), rd_wr_row (by decide), b21, b22, b23]
                     refine BS_cg (BS_no hb1 (hw0 q fz) (by rw [← wv]; exact wb.1) qh) (fun x y => ?_)
                     constructor
                     · rintro (u | ⟨q', u1, u2, u3⟩)
                       · exact Or.inl (Or.inl u)
                       · by_cases g : q' < q
                         · exact Or.inl (Or.inr ⟨q', g, u2, u3⟩)
                         · have g2 : q' = q := by omega
                           rw [g2] at u3
                           exact Or.inr u3
                     · rintro ((u | ⟨q', u1, u2, u3⟩) | u)
                       · exact Or.inl u
                       · exact Or.inr ⟨q', by omega, u2, u3⟩
                       · exact Or.inr ⟨q, by omega, fz, u⟩)
                  | (refine w_keep 6 ?_
                     rw [Int.toNat_natCast]
                     rw [show (q : Int) + 1 = ((q + 1 : Nat) : Int) by omega]
                     have xb : -2147483648 ≤ yy a b p q ∧ yy a b p q < 2147483648 := by unfold yy; split <;> omega
                     have yb : -2147483648 ≤ xx a b p q ∧ xx a b p q < 2147483648 := by unfold xx; split <;> omega
                     have t6 := sF_b (v := wNow I5) (x := xx a b p q) (y := yy a b p q) t5
                     have sO := sF_off t6 (by omega) hb0
                     have g6 : rg (wr (wr (wr I5 171 21 (wNow I5)) 171 22 (xx a b p q)) 171 23 (yy a b p q)) := rg_cg g5 (fun k => by rw [rd_wr_row (by decide), rd_wr_row (by decide), rd_wr_row (by decide)]) (fun k => by rw [rd_wr_row (by decide), rd_wr_row (by decide), rd_wr_row (by decide)])
                     have r21 : rd (wr (wr (wr (wr I5 171 21 (wNow I5)) 171 22 (xx a b p q)) 171 23 (yy a b p q)) 177 b 0) 171 21 = wNow I5 := by rw [rd_wr_row (by decide), rd_wr_ne (by decide), rd_wr_ne (by decide), rd_wr_eq (by omega) (by omega)]
                     have r22 : rd (wr (wr (wr (wr I5 171 21 (wNow I5)) 171 22 (xx a b p q)) 171 23 (yy a b p q)) 177 b 0) 171 22 = xx a b p q := by rw [rd_wr_row (by decide), rd_wr_ne (by decide), rd_wr_eq yb.1 yb.2]
                     have r23 : rd (wr (wr (wr (wr I5 171 21 (wNow I5)) 171 22 (xx a b p q)) 171 23 (yy a b p q)) 177 b 0) 171 23 = yy a b p q := by rw [rd_wr_row (by decide), rd_wr_eq xb.1 xb.2]
                     refine ih (q + 1) _ (by omega) (by omega) (sF_mono sO (fun k g => g.elim (fun u => u.1) id)) (rg_cg g6 (fun k => rd_wr_row (by decide)) (fun k => rd_wr_row (by decide))) ?_
                     rw [r21, r22, r23, wv]
                     refine BS_cg (BS_yes hb1 (hw0 q fz) (by rw [← wv]; exact wb.1) qh) (fun x y => ?_)
                     constructor
                     · rintro (u | ⟨q', u1, u2, u3⟩)
                       · exact Or.inl (Or.inl u)
                       · by_cases g : q' < q
                         · exact Or.inl (Or.inr ⟨q', g, u2, u3⟩)
                         · have g2 : q' = q := by omega
                           rw [g2] at u3
                           exact Or.inr u3
                     · rintro ((u | ⟨q', u1, u2, u3⟩) | u)
                       · exact Or.inl u
                       · exact Or.inr ⟨q', by omega, u2, u3⟩
                       · exact Or.inr ⟨q, by omega, fz, u⟩)
            · refine v_if_eq 102 dX12_seconds_88 (by decide) (by decide) (fun _ => ?_) (fun q => absurd q (by decide))
              refine w_iconst (v := iI 0) dX12_seconds_102 rfl ?_
              refine w_istore dX12_seconds_103 rfl rfl ?_
              refine w_iload dX12_seconds_105 rfl ?_
              refine v_if_eq 119 dX12_seconds_107 (by decide) (by decide) (fun _ => ?_) (fun q => absurd q (by decide))
              refine w_aload_n dX12_seconds_119 rfl ?_
              refine v_getR (j := 177) dX12_seconds_120 fX12_26 ⟨by decide, rfl⟩ rfl rfl ?_
              refine w_iload_n dX12_seconds_123 rfl ?_
              refine w_iconst (v := iI 0) dX12_seconds_124 rfl ?_
              refine v_zast dX12_seconds_125 ⟨by decide, rfl⟩ (by first | omega | (clear h q0; omega) | (clear h q0 q1; omega) | (clear h q0 q1 qm; omega) | (clear h q0 q1 qm ql; omega)) (by first | omega | (clear h q0; omega) | (clear h q0 q1; omega) | (clear h q0 q1 qm; omega) | (clear h q0 q1 qm ql; omega)) (by decide) (by decide) ?_
              refine v_iinc dX12_seconds_126 rfl rfl rfl ?_
              refine w_goto 3 dX12_seconds_129 (by decide) ?_
              first
                | (rw [show (q : Int) + 1 = ((q + 1 : Nat) : Int) by omega]
                   have nf : ¬ fzB I (fun k => rd I 187 k) a b wn (t = 2) q := fun v => by
                     exact qn v.1
                   refine ih (q + 1) _ (by omega) (by omega) hx hg (BS_cg hb1 (fun x y => ?_))
                   constructor
                   · rintro (u | ⟨q', u1, u2, u3⟩)
                     · exact Or.inl u
                     · by_cases g : q' < q
                       · exact Or.inr ⟨q', g, u2, u3⟩
                       · have g2 : q' = q := by omega
                         rw [g2] at u2
                         exact absurd u2 nf
                   · rintro (u | ⟨q', u1, u2, u3⟩)
                     · exact Or.inl u
                     · exact Or.inr ⟨q', by omega, u2, u3⟩)
                | (refine w_keep 6 ?_
                   rw [show (q : Int) + 1 = ((q + 1 : Nat) : Int) by omega]
                   have nf : ¬ fzB I (fun k => rd I 187 k) a b wn (t = 2) q := fun v => by
                     first | exact q0 v.2.1 | exact v.2.2.1.elim (fun u => by clear q0 q1 v h; omega) q1
                   refine ih (q + 1) _ (by omega) (by omega) (fun id k g => by
                     have g1 : ¬ (id = 178 ∧ k = b) := fun u => g (Or.inr (Or.inr ⟨Or.inl u.1, u.2⟩))
                     have g2 : ¬ (id = 179 ∧ k = b) := fun u => g (Or.inr (Or.inr ⟨Or.inr u.1, u.2⟩))
                     rw [rd_wr_ne g2, rd_wr_ne g1]; exact hx id k g) g2 (BS_cg (by rw [rd_wr_row (by decide), rd_wr_row (by decide), rd_wr_row (by decide), rd_wr_row (by decide), rd_wr_row (by decide), rd_wr_row (by decide)]; exact hb1) (fun x y => ?_))
                   constructor
                   · rintro (u | ⟨q', u1, u2, u3⟩)
                     · exact Or.inl u
                     · by_cases g : q' < q
                       · exact Or.inr ⟨q', g, u2, u3⟩
                       · have g2 : q' = q := by omega
                         rw [g2] at u2
                         exact absurd u2 nf
                   · rintro (u | ⟨q', u1, u2, u3⟩)
                     · exact Or.inl u
                     · exact Or.inr ⟨q', by omega, u2, u3⟩)
                | (refine w_keep 6 ?_
                   rw [Int.toNat_natCast]
                   have sO := sF_off s4 (by omega) hb0
                   rw [show (q : Int) + 1 = ((q + 1 : Nat) : Int) by omega]
                   have nf : ¬ fzB I (fun k => rd I 187 k) a b wn (t = 2) q := fun v => by
                     exact qm (by
                       rcases v.2.2.2.1 with u | u
                       · first | exact Or.inl ⟨u.1, rfl⟩ | exact absurd u.2 q1
                       · exact Or.inr ⟨nqa ⟨by show rd (pl I b q) 177 a ≠ 0; rw [pl_rd (by omega), if_neg (by omega), if_neg (by omega), if_neg (by omega)]; exact ha1, by show rd (pl I b q) 177 b ≠ 0; rw [pl_rd (by omega), if_neg (by omega), if_neg (by omega), if_pos ⟨rfl, rfl⟩]; decide⟩ hne ha hb v.2.2.2.2, v.2.2.2.2.1, u⟩)
                   refine ih (q + 1) _ (by omega) (by omega) (sF_mono sO (fun k g => g.elim (fun u => u.1) id)) (rg_cg g4 (fun k => rd_wr_row (by decide)) (fun k => rd_wr_row (by decide))) (BS_cg (by rw [rd_wr_row (by decide), rd_wr_row (by decide), rd_wr_row (by decide), m4 171 21 (by unfold S3; omega), rd_wr_row (by decide), rd_wr_row (by decide), rd_wr_row (by decide), m4 171 22 (by unfold S3; omega), rd_wr_row (by decide), rd_wr_row (by decide), rd_wr_row (by decide), m4 171 23 (by unfold S3; omega), rd_wr_row (by decide), rd_wr_row (by decide), rd_wr_row (by decide)]; exact hb1) (fun x y => ?_))
                   constructor
                   · rintro (u | ⟨q', u1, u2, u3⟩)
                     · exact Or.inl u
                     · by_cases g : q' < q
                       · exact Or.inr ⟨q', g, u2, u3⟩
                       · have g2 : q' = q := by omega
                         rw [g2] at u2
                         exact absurd u2 nf
                   · rintro (u | ⟨q', u1, u2, u3⟩)
                     · exact Or.inl u
                     · exact Or.inr ⟨q', by omega, u2, u3⟩)
                | (refine w_keep 6 ?_
                   rw [Int.toNat_natCast]
                   have sO := sF_off t5 (by omega) hb0
                   rw [show (q : Int) + 1 = ((q + 1 : Nat) : Int) by omega]
                   have nf : ¬ fzB I (fun k => rd I 187 k) a b wn (t = 2) q := fun v => by
                     exact ql v.2.2.2.2
                   refine ih (q + 1) _ (by omega) (by omega) (sF_mono sO (fun k g => g.elim (fun u => u.1) id)) (rg_cg g5 (fun k => rd_wr_row (by decide)) (fun k => rd_wr_row (by decide))) (BS_cg (by rw [rd_wr_row (by decide), rd_wr_row (by decide), rd_wr_row (by decide), m5 171 21 (by unfold S3; omega), m4 171 21 (by unfold S3; omega), rd_wr_row (by decide), rd_wr_row (by decide), rd_wr_row (by decide), m5 171 22 (by unfold S3; omega), m4 171 22 (by unfold S3; omega), rd_wr_row (by decide), rd_wr_row (by decide), rd_wr_row (by decide), m5 171 23 (by unfold S3; omega), m4 171 23 (by unfold S3; omega), rd_wr_row (by decide), rd_wr_row (by decide), rd_wr_row (by decide)]; exact hb1) (fun x y => ?_))
                   constructor
                   · rintro (u | ⟨q', u1, u2, u3⟩)
                     · exact Or.inl u
                     · by_cases g : q' < q
                       · exact Or.inr ⟨q', g, u2, u3⟩
                       · have g2 : q' = q := by omega
                         rw [g2] at u2
                         exact absurd u2 nf
                   · rintro (u | ⟨q', u1, u2, u3⟩)
                     · exact Or.inl u
                     · exact Or.inr ⟨q', by omega, u2, u3⟩)
                | (refine w_keep 6 ?_
                   rw [Int.toNat_natCast]
                   rw [show (q : Int) + 1 = ((q + 1 : Nat) : Int) by omega]
                   have sO := sF_off t5 (by omega) hb0
                   refine ih (q + 1) _ (by omega) (by omega) (sF_mono sO (fun k g => g.elim (fun u => u.1) id)) (rg_cg g5 (fun k => rd_wr_row (by decide)) (fun k => rd_wr_row (by decide))) ?_
                   rw [rd_wr_row (by decide), rd_wr_row (by decide), rd_wr_row (by decide), b21, b22, b23]
                   refine BS_cg (BS_no hb1 (hw0 q fz) (by rw [← wv]; exact wb.1) qh) (fun x y => ?_)
                   constructor
                   · rintro (u | ⟨q', u1, u2, u3⟩)
                     · exact Or.inl (Or.inl u)
                     · by_cases g : q' < q
                       · exact Or.inl (Or.inr ⟨q', g, u2, u3⟩)
                       · have g2 : q' = q := by omega
                         rw [g2] at u3
                         exact Or.inr u3
                   · rintro ((u | ⟨q', u1, u2, u3⟩) | u)
                     · exact Or.inl u
                     · exact Or.inr ⟨q', by omega, u2, u3⟩
                     · exact Or.inr ⟨q, by omega, fz, u⟩)
                | (refine w_keep 6 ?_
                   rw [Int.toNat_natCast]
                   rw [show (q : Int) + 1 = ((q + 1 : Nat) : Int) by omega]
                   have xb : -2147483648 ≤ yy a b p q ∧ yy a b p q < 2147483648 := by unfold yy; split <;> omega
                   have yb : -2147483648 ≤ xx a b p q ∧ xx a b p q < 2147483648 := by unfold xx; split <;> omega
                   have t6 := sF_b (v := wNow I5) (x := xx a b p q) (y := yy a b p q) t5
                   have sO := sF_off t6 (by omega) hb0
                   have g6 : rg (wr (wr (wr I5 171 21 (wNow I5)) 171 22 (xx a b p q)) 171 23 (yy a b p q)) := rg_cg g5 (fun k => by rw [rd_wr_row (by decide), rd_wr_row (by decide), rd_wr_row (by decide)]) (fun k => by rw [rd_wr_row (by decide), rd_wr_row (by decide), rd_wr_row (by decide)])
                   have r21 : rd (wr (wr (wr (wr I5 171 21 (wNow I5)) 171 22 (xx a b p q)) 171 23 (yy a b p q)) 177 b 0) 171 21 = wNow I5 := by rw [rd_wr_row (by decide), rd_wr_ne (by decide), rd_wr_ne (by decide), rd_wr_eq (by omega) (by omega)]
                   have r22 : rd (wr (wr (wr (wr I5 171 21 (wNow I5)) 171 22 (xx a b p q)) 171 23 (yy a b p q)) 177 b 0) 171 22 = xx a b p q := by rw [rd_wr_row (by decide), rd_wr_ne (by decide), rd_wr_eq yb.1 yb.2]
                   have r23 : rd (wr (wr (wr (wr I5 171 21 (wNow I5)) 171 22 (xx a b p q)) 171 23 (yy a b p q)) 177 b 0) 171 23 = yy a b p q := by rw [rd_wr_row (by decide), rd_wr_eq xb.1 xb.2]
                   refine ih (q + 1) _ (by omega) (by omega) (sF_mono sO (fun k g => g.elim (fun u => u.1) id)) (rg_cg g6 (fun k => rd_wr_row (by decide)) (fun k => rd_wr_row (by decide))) ?_
                   rw [r21, r22, r23, wv]
                   refine BS_cg (BS_yes hb1 (hw0 q fz) (by rw [← wv]; exact wb.1) qh) (fun x y => ?_)
                   constructor
                   · rintro (u | ⟨q', u1, u2, u3⟩)
                     · exact Or.inl (Or.inl u)
                     · by_cases g : q' < q
                       · exact Or.inl (Or.inr ⟨q', g, u2, u3⟩)
                       · have g2 : q' = q := by omega
                         rw [g2] at u3
                         exact Or.inr u3
                   · rintro ((u | ⟨q', u1, u2, u3⟩) | u)
                     · exact Or.inl u
                     · exact Or.inr ⟨q', by omega, u2, u3⟩
                     · exact Or.inr ⟨q, by omega, fz, u⟩)
          · refine w_iload dX12_seconds_62 rfl ?_
            refine w_iconst (v := iI 2) dX12_seconds_64 rfl ?_
            refine v_icmp_ge 71 dX12_seconds_65 (by decide) (by decide) (by decide) (fun q => absurd q (by decide)) (fun _ => ?_)
            refine w_goto 126 dX12_seconds_68 (by decide) ?_
            refine v_iinc dX12_seconds_126 rfl rfl rfl ?_
            refine w_goto 3 dX12_seconds_129 (by decide) ?_
            first
              | (rw [show (q : Int) + 1 = ((q + 1 : Nat) : Int) by omega]
                 have nf : ¬ fzB I (fun k => rd I 187 k) a b wn (t = 2) q := fun v => by
                   exact qn v.1
                 refine ih (q + 1) _ (by omega) (by omega) hx hg (BS_cg hb1 (fun x y => ?_))
                 constructor
                 · rintro (u | ⟨q', u1, u2, u3⟩)
                   · exact Or.inl u
                   · by_cases g : q' < q
                     · exact Or.inr ⟨q', g, u2, u3⟩
                     · have g2 : q' = q := by omega
                       rw [g2] at u2
                       exact absurd u2 nf
                 · rintro (u | ⟨q', u1, u2, u3⟩)
                   · exact Or.inl u
                   · exact Or.inr ⟨q', by omega, u2, u3⟩)
              | (refine w_keep 6 ?_
                 rw [show (q : Int) + 1 = ((q + 1 : Nat) : Int) by omega]
                 have nf : ¬ fzB I (fun k => rd I 187 k) a b wn (t = 2) q := fun v => by
                   first | exact q0 v.2.1 | exact v.2.2.1.elim (fun u => by clear q0 q1 v h; omega) q1
                 refine ih (q + 1) _ (by omega) (by omega) (fun id k g => by
                   have g1 : ¬ (id = 178 ∧ k = b) := fun u => g (Or.inr (Or.inr ⟨Or.inl u.1, u.2⟩))
                   have g2 : ¬ (id = 179 ∧ k = b) := fun u => g (Or.inr (Or.inr ⟨Or.inr u.1, u.2⟩))
                   rw [rd_wr_ne g2, rd_wr_ne g1]; exact hx id k g) g2 (BS_cg (by rw [rd_wr_row (by decide), rd_wr_row (by decide), rd_wr_row (by decide), rd_wr_row (by decide), rd_wr_row (by decide), rd_wr_row (by decide)]; exact hb1) (fun x y => ?_))
                 constructor
                 · rintro (u | ⟨q', u1, u2, u3⟩)
                   · exact Or.inl u
                   · by_cases g : q' < q
                     · exact Or.inr ⟨q', g, u2, u3⟩
                     · have g2 : q' = q := by omega
                       rw [g2] at u2
                       exact absurd u2 nf
                 · rintro (u | ⟨q', u1, u2, u3⟩)
                   · exact Or.inl u
                   · exact Or.inr ⟨q', by omega, u2, u3⟩)
              | (refine w_keep 6 ?_
                 rw [Int.toNat_natCast]
                 have sO := sF_off s4 (by omega) hb0
                 rw [show (q : Int) + 1 = ((q + 1 : Nat) : Int) by omega]
                 have nf : ¬ fzB I (fun k => rd I 187 k) a b wn (t = 2) q := fun v => by
                   exact qm (by
                     rcases v.2.2.2.1 with u | u
                     · first | exact Or.inl ⟨u.1, rfl⟩ | exact absurd u.2 q1
                     · exact Or.inr ⟨nqa ⟨by show rd (pl I b q) 177 a ≠ 0; rw [pl_rd (by omega), if_neg (by omega), if_neg (by omega), if_neg (by omega)]; exact ha1, by show rd (pl I b q) 177 b ≠ 0; rw [pl_rd (by omega), if_neg (by omega), if_neg (by omega), if_pos ⟨rfl, rfl⟩]; decide⟩ hne ha hb v.2.2.2.2, v.2.2.2.2.1, u⟩)
                 refine ih (q + 1) _ (by omega) (by omega) (sF_mono sO (fun k g => g.elim (fun u => u.1) id)) (rg_cg g4 (fun k => rd_wr_row (by decide)) (fun k => rd_wr_row (by decide))) (BS_cg (by rw [rd_wr_row (by decide), rd_wr_row (by decide), rd_wr_row (by decide), m4 171 21 (by unfold S3; omega), rd_wr_row (by decide), rd_wr_row (by decide), rd_wr_row (by decide), m4 171 22 (by unfold S3; omega), rd_wr_row (by decide), rd_wr_row (by decide), rd_wr_row (by decide), m4 171 23 (by unfold S3; omega), rd_wr_row (by decide), rd_wr_row (by decide), rd_wr_row (by decide)]; exact hb1) (fun x y => ?_))
                 constructor
                 · rintro (u | ⟨q', u1, u2, u3⟩)
                   · exact Or.inl u
                   · by_cases g : q' < q
                     · exact Or.inr ⟨q', g, u2, u3⟩
                     · have g2 : q' = q := by omega
                       rw [g2] at u2
                       exact absurd u2 nf
                 · rintro (u | ⟨q', u1, u2, u3⟩)
                   · exact Or.inl u
                   · exact Or.inr ⟨q', by omega, u2, u3⟩)
              | (refine w_keep 6 ?_
                 rw [Int.toNat_natCast]
                 have sO := sF_off t5 (by omega) hb0
                 rw [show (q : Int) + 1 = ((q + 1 : Nat) : Int) by omega]
                 have nf : ¬ fzB I (fun k => rd I 187 k) a b wn (t = 2) q := fun v => by
                   exact ql v.2.2.2.2
                 refine ih (q + 1) _ (by omega) (by omega) (sF_mono sO (fun k g => g.elim (fun u => u.1) id)) (rg_cg g5 (fun k => rd_wr_row (by decide)) (fun k => rd_wr_row (by decide))) (BS_cg (by rw [rd_wr_row (by decide), rd_wr_row (by decide), rd_wr_row (by decide), m5 171 21 (by unfold S3; omega), m4 171 21 (by unfold S3; omega), rd_wr_row (by decide), rd_wr_row (by decide), rd_wr_row (by decide), m5 171 22 (by unfold S3; omega), m4 171 22 (by unfold S3; omega), rd_wr_row (by decide), rd_wr_row (by decide), rd_wr_row (by decide), m5 171 23 (by unfold S3; omega), m4 171 23 (by unfold S3; omega), rd_wr_row (by decide), rd_wr_row (by decide), rd_wr_row (by decide)]; exact hb1) (fun x y => ?_))
                 constructor
                 · rintro (u | ⟨q', u1, u2, u3⟩)
                   · exact Or.inl u
                   · by_cases g : q' < q
                     · exact Or.inr ⟨q', g, u2, u3⟩
                     · have g2 : q' = q := by omega
                       rw [g2] at u2
                       exact absurd u2 nf
                 · rintro (u | ⟨q', u1, u2, u3⟩)
                   · exact Or.inl u
                   · exact Or.inr ⟨q', by omega, u2, u3⟩)
              | (refine w_keep 6 ?_
                 rw [Int.toNat_natCast]
                 rw [show (q : Int) + 1 = ((q + 1 : Nat) : Int) by omega]
                 have sO := sF_off t5 (by omega) hb0
                 refine ih (q + 1) _ (by omega) (by omega) (sF_mono sO (fun k g => g.elim (fun u => u.1) id)) (rg_cg g5 (fun k => rd_wr_row (by decide)) (fun k => rd_wr_row (by decide))) ?_
                 rw [rd_wr_row (by decide), rd_wr_row (by decide), rd_wr_row (by decide), b21, b22, b23]
                 refine BS_cg (BS_no hb1 (hw0 q fz) (by rw [← wv]; exact wb.1) qh) (fun x y => ?_)
                 constructor
                 · rintro (u | ⟨q', u1, u2, u3⟩)
                   · exact Or.inl (Or.inl u)
                   · by_cases g : q' < q
                     · exact Or.inl (Or.inr ⟨q', g, u2, u3⟩)
                     · have g2 : q' = q := by omega
                       rw [g2] at u3
                       exact Or.inr u3
                 · rintro ((u | ⟨q', u1, u2, u3⟩) | u)
                   · exact Or.inl u
                   · exact Or.inr ⟨q', by omega, u2, u3⟩
                   · exact Or.inr ⟨q, by omega, fz, u⟩)
              | (refine w_keep 6 ?_
                 rw [Int.toNat_natCast]
                 rw [show (q : Int) + 1 = ((q + 1 : Nat) : Int) by omega]
                 have xb : -2147483648 ≤ yy a b p q ∧ yy a b p q < 2147483648 := by unfold yy; split <;> omega
                 have yb : -2147483648 ≤ xx a b p q ∧ xx a b p q < 2147483648 := by unfold xx; split <;> omega
                 have t6 := sF_b (v := wNow I5) (x := xx a b p q) (y := yy a b p q) t5
                 have sO := sF_off t6 (by omega) hb0
                 have g6 : rg (wr (wr (wr I5 171 21 (wNow I5)) 171 22 (xx a b p q)) 171 23 (yy a b p q)) := rg_cg g5 (fun k => by rw [rd_wr_row (by decide), rd_wr_row (by decide), rd_wr_row (by decide)]) (fun k => by rw [rd_wr_row (by decide), rd_wr_row (by decide), rd_wr_row (by decide)])
                 have r21 : rd (wr (wr (wr (wr I5 171 21 (wNow I5)) 171 22 (xx a b p q)) 171 23 (yy a b p q)) 177 b 0) 171 21 = wNow I5 := by rw [rd_wr_row (by decide), rd_wr_ne (by decide), rd_wr_ne (by decide), rd_wr_eq (by omega) (by omega)]
                 have r22 : rd (wr (wr (wr (wr I5 171 21 (wNow I5)) 171 22 (xx a b p q)) 171 23 (yy a b p q)) 177 b 0) 171 22 = xx a b p q := by rw [rd_wr_row (by decide), rd_wr_ne (by decide), rd_wr_eq yb.1 yb.2]
                 have r23 : rd (wr (wr (wr (wr I5 171 21 (wNow I5)) 171 22 (xx a b p q)) 171 23 (yy a b p q)) 177 b 0) 171 23 = yy a b p q := by rw [rd_wr_row (by decide), rd_wr_eq xb.1 xb.2]
                 refine ih (q + 1) _ (by omega) (by omega) (sF_mono sO (fun k g => g.elim (fun u => u.1) id)) (rg_cg g6 (fun k => rd_wr_row (by decide)) (fun k => rd_wr_row (by decide))) ?_
                 rw [r21, r22, r23, wv]
                 refine BS_cg (BS_yes hb1 (hw0 q fz) (by rw [← wv]; exact wb.1) qh) (fun x y => ?_)
                 constructor
                 · rintro (u | ⟨q', u1, u2, u3⟩)
                   · exact Or.inl (Or.inl u)
                   · by_cases g : q' < q
                     · exact Or.inl (Or.inr ⟨q', g, u2, u3⟩)
                     · have g2 : q' = q := by omega
                       rw [g2] at u3
                       exact Or.inr u3
                 · rintro ((u | ⟨q', u1, u2, u3⟩) | u)
                   · exact Or.inl u
                   · exact Or.inr ⟨q', by omega, u2, u3⟩
                   · exact Or.inr ⟨q, by omega, fz, u⟩)
        · refine w_istore dX12_seconds_49 rfl rfl ?_
          refine w_iload dX12_seconds_51 rfl ?_
          refine v_if_eq 126 dX12_seconds_53 (by decide) (by decide) (fun q => absurd q (by decide)) (fun _ => ?_)
          refine w_iload dX12_seconds_56 rfl ?_
          refine w_iconst (v := iI 2) dX12_seconds_58 rfl ?_
          refine v_icmp_ge 71 dX12_seconds_59 (by decide) (by first | omega | (clear h q0; omega) | (clear h q0 q1; omega) | (clear h q0 q1 qm; omega) | (clear h q0 q1 qm ql; omega)) (by first | omega | (clear h q0; omega) | (clear h q0 q1; omega) | (clear h q0 q1 qm; omega) | (clear h q0 q1 qm ql; omega)) (fun c59 => ?_) (fun c59 => ?_)
          · refine w_aload_n dX12_seconds_71 rfl ?_
            refine v_getR (j := 177) dX12_seconds_72 fX12_26 ⟨by decide, rfl⟩ rfl rfl ?_
            refine w_iload_n dX12_seconds_75 rfl ?_
            refine w_iconst (v := iI 1) dX12_seconds_76 rfl ?_
            refine v_zast dX12_seconds_77 ⟨by decide, rfl⟩ (by first | omega | (clear h q0; omega) | (clear h q0 q1; omega) | (clear h q0 q1 qm; omega) | (clear h q0 q1 qm ql; omega)) (by first | omega | (clear h q0; omega) | (clear h q0 q1; omega) | (clear h q0 q1 qm; omega) | (clear h q0 q1 qm ql; omega)) (by decide) (by decide) ?_
            refine w_aload_n dX12_seconds_78 rfl ?_
            refine w_iload_n dX12_seconds_79 rfl ?_
            refine w_iload_n dX12_seconds_80 rfl ?_
            refine w_iload dX12_seconds_81 rfl ?_
            refine w_iload dX12_seconds_83 rfl ?_
            refine v_callV4 dX12_seconds_85 lX12_200 vX12_mayTouch (by decide) rfl rfl ⟨by decide, rfl⟩ (by decide) rfl (Nat.le_of_ble_eq_true rfl) ?_
            rw [Int.toNat_natCast]
            have g3 : rg (wr (wr (wr I' 178 b ((q : Int) / 64 - 5)) 179 b ((q : Int) % 64 - 10)) 177 b 1) := rg_cg g2 (fun k => rd_wr_row (by decide)) (fun k => rd_wr_row (by decide))
            have s3 : sF (fun k => k = b ∧ k ≠ b) (pl I b q) (wr (wr (wr I' 178 b ((q : Int) / 64 - 5)) 179 b ((q : Int) % 64 - 10)) 177 b 1) := sF_put hx (by omega)
            have r3 : fR (pl I b q) (wr (wr (wr I' 178 b ((q : Int) / 64 - 5)) 179 b ((q : Int) % 64 - 10)) 177 b 1) := sF_R s3 (fun k g => g.2 g.1)
            refine x12_mayTouch g3 ha hb (by omega) (by omega) (fun qm I4 m4 => ?_) (fun qm I4 m4 => ?_)
            all_goals rw [mT2_R r3] at qm
            all_goals have s4 := sF_3 s3 m4
            all_goals have r4 : fR (pl I b q) I4 := sF_R s4 (fun k g => g.2 g.1)
            all_goals have g4 := rg_3 g3 m4
            · refine v_if_eq 102 dX12_seconds_88 (by decide) (by decide) (fun q => absurd q (by decide)) (fun _ => ?_)
              refine w_aload_n dX12_seconds_91 rfl ?_
              refine v_callV0 dX12_seconds_92 lX12_149 vX12_mayLie (by decide) rfl rfl ⟨by decide, rfl⟩ (by decide) rfl (Nat.le_of_ble_eq_true rfl) ?_
              have w4 : rd I4 171 12 = wn := by
                rw [s4 171 12 (by unfold S3; omega), pl_rd (by omega), if_neg (by omega), if_neg (by omega), if_neg (by omega)]; exact hw
              have z4 : ∀ k, rd I4 183 k = rd I 183 k := fun k => by
                rw [s4 183 k (by unfold S3; omega), pl_rd (by omega), if_neg (by omega), if_neg (by omega), if_neg (by omega)]
              refine x12_mayLie (fun d hd => (g4 d hd).1) (fun d hd => (g4 d hd).2) w4 hw2 (fun w g => by rw [z4]; exact hsz w g) (fun ql I5 s5 m5 => ?_) (fun ql I5 m5 => ?_)
              all_goals rw [mL_R r4] at ql
              all_goals have g5 := rg_3 g4 m5
              all_goals have t5 := sF_3 s4 m5
              · refine v_if_eq 102 dX12_seconds_95 (by decide) (by decide) (fun q => absurd q (by decide)) (fun _ => ?_)
                refine w_iconst (v := iI 1) dX12_seconds_98 rfl ?_
                refine w_goto 103 dX12_seconds_99 (by decide) ?_
                refine w_istore dX12_seconds_103 rfl rfl ?_
                refine w_iload dX12_seconds_105 rfl ?_
                refine v_if_eq 119 dX12_seconds_107 (by decide) (by decide) (fun q => absurd q (by decide)) (fun _ => ?_)
                refine w_aload_n dX12_seconds_110 rfl ?_
                refine w_iload_n dX12_seconds_111 rfl ?_
                refine w_iload_n dX12_seconds_112 rfl ?_
                refine w_iload_n dX12_seconds_113 rfl ?_
                refine w_iload dX12_seconds_114 rfl ?_
                refine v_callV4 dX12_seconds_116 lX12_197 vX12_holds (by decide) rfl rfl ⟨by decide, rfl⟩ (by decide) rfl (Nat.le_of_ble_eq_true rfl) ?_
                have wv : wNow I5 = wA (pl I b q) := by rw [wNow_sh s5 m5]; exact wA_R r4
                have wb := wNow_bd I5
                have bst : ∀ k, 21 ≤ k → rd I5 171 k = rd I' 171 k := fun k g => by
                  rw [m5 _ _ (by unfold S3; omega), m4 _ _ (by unfold S3; omega), rd_wr_row (by decide), rd_wr_row (by decide), rd_wr_row (by decide)]
                have b21 := bst 21 (by decide)
                have b22 := bst 22 (by decide)
                have b23 := bst 23 (by decide)
                have fz : fzB I (fun k => rd I 187 k) a b wn (t = 2) q := ⟨qn, q0, by first | exact Or.inr q1 | exact Or.inl (by clear q1 qm ql q0 h; omega), by
                  rcases qm with u | u
                  · first | exact Or.inl ⟨u.1, q1⟩ | (exfalso; exact absurd u.2 (by decide))
                  · exact Or.inr u.2.2, ql⟩
                refine x12_holds g5 (by omega) (by omega) (by omega) (by omega) (fun qh => ?_) (fun qh => ?_)
                all_goals rw [b21, b22, b23, wv] at qh
                · refine w_aload_n dX12_seconds_119 rfl ?_
                  refine v_getR (j := 177) dX12_seconds_120 fX12_26 ⟨by decide, rfl⟩ rfl rfl ?_
                  refine w_iload_n dX12_seconds_123 rfl ?_
                  refine w_iconst (v := iI 0) dX12_seconds_124 rfl ?_
                  refine v_zast dX12_seconds_125 ⟨by decide, rfl⟩ (by first | omega | (clear h q0; omega) | (clear h q0 q1; omega) | (clear h q0 q1 qm; omega) | (clear h q0 q1 qm ql; omega)) (by first | omega | (clear h q0; omega) | (clear h q0 q1; omega) | (clear h q0 q1 qm; omega) | (clear h q0 q1 qm ql; omega)) (by decide) (by decide) ?_
                  refine v_iinc dX12_seconds_126 rfl rfl rfl ?_
                  refine w_goto 3 dX12_seconds_129 (by decide) ?_
                  first
                    | (rw [show (q : Int) + 1 = ((q + 1 : Nat) : Int) by omega]
                       have nf : ¬ fzB I (fun k => rd I 187 k) a b wn (t = 2) q := fun v => by
                         exact qn v.1
                       refine ih (q + 1) _ (by omega) (by omega) hx hg (BS_cg hb1 (fun x y => ?_))
                       constructor
                       · rintro (u | ⟨q', u1, u2, u3⟩)
                         · exact Or.inl u
                         · by_cases g : q' < q
                           · exact Or.inr ⟨q', g, u2, u3⟩
                           · have g2 : q' = q := by omega
                             rw [g2] at u2
                             exact absurd u2 nf
                       · rintro (u | ⟨q', u1, u2, u3⟩)
                         · exact Or.inl u
                         · exact Or.inr ⟨q', by omega, u2, u3⟩)
                    | (refine w_keep 6 ?_
                       rw [show (q : Int) + 1 = ((q + 1 : Nat) : Int) by omega]
                       have nf : ¬ fzB I (fun k => rd I 187 k) a b wn (t = 2) q := fun v => by
                         first | exact q0 v.2.1 | exact v.2.2.1.elim (fun u => by clear q0 q1 v h; omega) q1
                       refine ih (q + 1) _ (by omega) (by omega) (fun id k g => by
                         have g1 : ¬ (id = 178 ∧ k = b) := fun u => g (Or.inr (Or.inr ⟨Or.inl u.1, u.2⟩))
                         have g2 : ¬ (id = 179 ∧ k = b) := fun u => g (Or.inr (Or.inr ⟨Or.inr u.1, u.2⟩))
                         rw [rd_wr_ne g2, rd_wr_ne g1]; exact hx id k g) g2 (BS_cg (by rw [rd_wr_row (by decide), rd_wr_row (by decide), rd_wr_row (by decide), rd_wr_row (by decide), rd_wr_row (by decide), rd_wr_row (by decide)]; exact hb1) (fun x y => ?_))
                       constructor
                       · rintro (u | ⟨q', u1, u2, u3⟩)
                         · exact Or.inl u
                         · by_cases g : q' < q
                           · exact Or.inr ⟨q', g, u2, u3⟩
                           · have g2 : q' = q := by omega
                             rw [g2] at u2
                             exact absurd u2 nf
                       · rintro (u | ⟨q', u1, u2, u3⟩)
                         · exact Or.inl u
                         · exact Or.inr ⟨q', by omega, u2, u3⟩)
                    | (refine w_keep 6 ?_
                       rw [Int.toNat_natCast]
                       have sO := sF_off s4 (by omega) hb0
                       rw [show (q : Int) + 1 = ((q + 1 : Nat) : Int) by omega]
                       have nf : ¬ fzB I (fun k => rd I 187 k) a b wn (t = 2) q := fun v => by
                         exact qm (by
                           rcases v.2.2.2.1 with u | u
                           · first | exact Or.inl ⟨u.1, rfl⟩ | exact absurd u.2 q1
                           · exact Or.inr ⟨nqa ⟨by show rd (pl I b q) 177 a ≠ 0; rw [pl_rd (by omega), if_neg (by omega), if_neg (by omega), if_neg (by omega)]; exact ha1, by show rd (pl I b q) 177 b ≠ 0; rw [pl_rd (by omega), if_neg (by omega), if_neg (by omega), if_pos ⟨rfl, rfl⟩]; decide⟩ hne ha hb v.2.2.2.2, v.2.2.2.2.1, u⟩)
                       refine ih (q + 1) _ (by omega) (by omega) (sF_mono sO (fun k g => g.elim (fun u => u.1) id)) (rg_cg g4 (fun k => rd_wr_row (by decide)) (fun k => rd_wr_row (by decide))) (BS_cg (by rw [rd_wr_row (by decide), rd_wr_row (by decide), rd_wr_row (by decide), m4 171 21 (by unfold S3; omega), rd_wr_row (by decide), rd_wr_row (by decide), rd_wr_row (by decide), m4 171 22 (by unfold S3; omega), rd_wr_row (by decide), rd_wr_row (by decide), rd_wr_row (by decide), m4 171 23 (by unfold S3; omega), rd_wr_row (by decide), rd_wr_row (by decide), rd_wr_row (by decide)]; exact hb1) (fun x y => ?_))
                       constructor
                       · rintro (u | ⟨q', u1, u2, u3⟩)
                         · exact Or.inl u
                         · by_cases g : q' < q
                           · exact Or.inr ⟨q', g, u2, u3⟩
                           · have g2 : q' = q := by omega
                             rw [g2] at u2
                             exact absurd u2 nf
                       · rintro (u | ⟨q', u1, u2, u3⟩)
                         · exact Or.inl u
                         · exact Or.inr ⟨q', by omega, u2, u3⟩)
                    | (refine w_keep 6 ?_
                       rw [Int.toNat_natCast]
                       have sO := sF_off t5 (by omega) hb0
                       rw [show (q : Int) + 1 = ((q + 1 : Nat) : Int) by omega]
                       have nf : ¬ fzB I (fun k => rd I 187 k) a b wn (t = 2) q := fun v => by
                         exact ql v.2.2.2.2
                       refine ih (q + 1) _ (by omega) (by omega) (sF_mono sO (fun k g => g.elim (fun u => u.1) id)) (rg_cg g5 (fun k => rd_wr_row (by decide)) (fun k => rd_wr_row (by decide))) (BS_cg (by rw [rd_wr_row (by decide), rd_wr_row (by decide), rd_wr_row (by decide), m5 171 21 (by unfold S3; omega), m4 171 21 (by unfold S3; omega), rd_wr_row (by decide), rd_wr_row (by decide), rd_wr_row (by decide), m5 171 22 (by unfold S3; omega), m4 171 22 (by unfold S3; omega), rd_wr_row (by decide), rd_wr_row (by decide), rd_wr_row (by decide), m5 171 23 (by unfold S3; omega), m4 171 23 (by unfold S3; omega), rd_wr_row (by decide), rd_wr_row (by decide), rd_wr_row (by decide)]; exact hb1) (fun x y => ?_))
                       constructor
                       · rintro (u | ⟨q', u1, u2, u3⟩)
                         · exact Or.inl u
                         · by_cases g : q' < q
                           · exact Or.inr ⟨q', g, u2, u3⟩
                           · have g2 : q' = q := by omega
                             rw [g2] at u2
                             exact absurd u2 nf
                       · rintro (u | ⟨q', u1, u2, u3⟩)
                         · exact Or.inl u
                         · exact Or.inr ⟨q', by omega, u2, u3⟩)
                    | (refine w_keep 6 ?_
                       rw [Int.toNat_natCast]
                       rw [show (q : Int) + 1 = ((q + 1 : Nat) : Int) by omega]
                       have sO := sF_off t5 (by omega) hb0
                       refine ih (q + 1) _ (by omega) (by omega) (sF_mono sO (fun k g => g.elim (fun u => u.1) id)) (rg_cg g5 (fun k => rd_wr_row (by decide)) (fun k => rd_wr_row (by decide))) ?_
                       rw [rd_wr_row (by decide), rd_wr_row (by decide), rd_wr_row (by decide), b21, b22, b23]
                       refine BS_cg (BS_no hb1 (hw0 q fz) (by rw [← wv]; exact wb.1) qh) (fun x y => ?_)
                       constructor
                       · rintro (u | ⟨q', u1, u2, u3⟩)
                         · exact Or.inl (Or.inl u)
                         · by_cases g : q' < q
                           · exact Or.inl (Or.inr ⟨q', g, u2, u3⟩)
                           · have g2 : q' = q := by omega
                             rw [g2] at u3
                             exact Or.inr u3
                       · rintro ((u | ⟨q', u1, u2, u3⟩) | u)
                         · exact Or.inl u
                         · exact Or.inr ⟨q', by omega, u2, u3⟩
                         · exact Or.inr ⟨q, by omega, fz, u⟩)
                    | (refine w_keep 6 ?_
                       rw [Int.toNat_natCast]
                       rw [show (q : Int) + 1 = ((q + 1 : Nat) : Int) by omega]
                       have xb : -2147483648 ≤ yy a b p q ∧ yy a b p q < 2147483648 := by unfold yy; split <;> omega
                       have yb : -2147483648 ≤ xx a b p q ∧ xx a b p q < 2147483648 := by unfold xx; split <;> omega
                       have t6 := sF_b (v := wNow I5) (x := xx a b p q) (y := yy a b p q) t5
                       have sO := sF_off t6 (by omega) hb0
                       have g6 : rg (wr (wr (wr I5 171 21 (wNow I5)) 171 22 (xx a b p q)) 171 23 (yy a b p q)) := rg_cg g5 (fun k => by rw [rd_wr_row (by decide), rd_wr_row (by decide), rd_wr_row (by decide)]) (fun k => by rw [rd_wr_row (by decide), rd_wr_row (by decide), rd_wr_row (by decide)])
                       have r21 : rd (wr (wr (wr (wr I5 171 21 (wNow I5)) 171 22 (xx a b p q)) 171 23 (yy a b p q)) 177 b 0) 171 21 = wNow I5 := by rw [rd_wr_row (by decide), rd_wr_ne (by decide), rd_wr_ne (by decide), rd_wr_eq (by omega) (by omega)]
                       have r22 : rd (wr (wr (wr (wr I5 171 21 (wNow I5)) 171 22 (xx a b p q)) 171 23 (yy a b p q)) 177 b 0) 171 22 = xx a b p q := by rw [rd_wr_row (by decide), rd_wr_ne (by decide), rd_wr_eq yb.1 yb.2]
                       have r23 : rd (wr (wr (wr (wr I5 171 21 (wNow I5)) 171 22 (xx a b p q)) 171 23 (yy a b p q)) 177 b 0) 171 23 = yy a b p q := by rw [rd_wr_row (by decide), rd_wr_eq xb.1 xb.2]
                       refine ih (q + 1) _ (by omega) (by omega) (sF_mono sO (fun k g => g.elim (fun u => u.1) id)) (rg_cg g6 (fun k => rd_wr_row (by decide)) (fun k => rd_wr_row (by decide))) ?_
                       rw [r21, r22, r23, wv]
                       refine BS_cg (BS_yes hb1 (hw0 q fz) (by rw [← wv]; exact wb.1) qh) (fun x y => ?_)
                       constructor
                       · rintro (u | ⟨q', u1, u2, u3⟩)
                         · exact Or.inl (Or.inl u)
                         · by_cases g : q' < q
                           · exact Or.inl (Or.inr ⟨q', g, u2, u3⟩)
                           · have g2 : q' = q := by omega
                             rw [g2] at u3
                             exact Or.inr u3
                       · rintro ((u | ⟨q', u1, u2, u3⟩) | u)
                         · exact Or.inl u
                         · exact Or.inr ⟨q', by omega, u2, u3⟩
                         · exact Or.inr ⟨q, by omega, fz, u⟩)
                · refine w_aload_n dX12_seconds_119 rfl ?_
                  refine v_getR (j := 177) dX12_seconds_120 fX12_26 ⟨by decide, rfl⟩ rfl rfl ?_
                  refine w_iload_n dX12_seconds_123 rfl ?_
                  refine w_iconst (v := iI 0) dX12_seconds_124 rfl ?_
                  refine v_zast dX12_seconds_125 ⟨by decide, rfl⟩ (by first | omega | (clear h q0; omega) | (clear h q0 q1; omega) | (clear h q0 q1 qm; omega) | (clear h q0 q1 qm ql; omega)) (by first | omega | (clear h q0; omega) | (clear h q0 q1; omega) | (clear h q0 q1 qm; omega) | (clear h q0 q1 qm ql; omega)) (by decide) (by decide) ?_
                  refine v_iinc dX12_seconds_126 rfl rfl rfl ?_
                  refine w_goto 3 dX12_seconds_129 (by decide) ?_
                  first
                    | (rw [show (q : Int) + 1 = ((q + 1 : Nat) : Int) by omega]
                       have nf : ¬ fzB I (fun k => rd I 187 k) a b wn (t = 2) q := fun v => by
                         exact qn v.1
                       refine ih (q + 1) _ (by omega) (by omega) hx hg (BS_cg hb1 (fun x y => ?_))
                       constructor
                       · rintro (u | ⟨q', u1, u2, u3⟩)
                         · exact Or.inl u
                         · by_cases g : q' < q
                           · exact Or.inr ⟨q', g, u2, u3⟩
                           · have g2 : q' = q := by omega
                             rw [g2] at u2
                             exact absurd u2 nf
                       · rintro (u | ⟨q', u1, u2, u3⟩)
                         · exact Or.inl u
                         · exact Or.inr ⟨q', by omega, u2, u3⟩)
                    | (refine w_keep 6 ?_
                       rw [show (q : Int) + 1 = ((q + 1 : Nat) : Int) by omega]
                       have nf : ¬ fzB I (fun k => rd I 187 k) a b wn (t = 2) q := fun v => by
                         first | exact q0 v.2.1 | exact v.2.2.1.elim (fun u => by clear q0 q1 v h; omega) q1
                       refine ih (q + 1) _ (by omega) (by omega) (fun id k g => by
                         have g1 : ¬ (id = 178 ∧ k = b) := fun u => g (Or.inr (Or.inr ⟨Or.inl u.1, u.2⟩))
                         have g2 : ¬ (id = 179 ∧ k = b) := fun u => g (Or.inr (Or.inr ⟨Or.inr u.1, u.2⟩))
                         rw [rd_wr_ne g2, rd_wr_ne g1]; exact hx id k g) g2 (BS_cg (by rw [rd_wr_row (by decide), rd_wr_row (by decide), rd_wr_row (by decide), rd_wr_row (by decide), rd_wr_row (by decide), rd_wr_row (by decide)]; exact hb1) (fun x y => ?_))
                       constructor
                       · rintro (u | ⟨q', u1, u2, u3⟩)
                         · exact Or.inl u
                         · by_cases g : q' < q
                           · exact Or.inr ⟨q', g, u2, u3⟩
                           · have g2 : q' = q := by omega
                             rw [g2] at u2
                             exact absurd u2 nf
                       · rintro (u | ⟨q', u1, u2, u3⟩)
                         · exact Or.inl u
                         · exact Or.inr ⟨q', by omega, u2, u3⟩)
                    | (refine w_keep 6 ?_
                       rw [Int.toNat_natCast]
                       have sO := sF_off s4 (by omega) hb0
                       rw [show (q : Int) + 1 = ((q + 1 : Nat) : Int) by omega]
                       have nf : ¬ fzB I (fun k => rd I 187 k) a b wn (t = 2) q := fun v => by
                         exact qm (by
                           rcases v.2.2.2.1 with u | u
                           · first | exact Or.inl ⟨u.1, rfl⟩ | exact absurd u.2 q1
                           · exact Or.inr ⟨nqa ⟨by show rd (pl I b q) 177 a ≠ 0; rw [pl_rd (by omega), if_neg (by omega), if_neg (by omega), if_neg (by omega)]; exact ha1, by show rd (pl I b q) 177 b ≠ 0; rw [pl_rd (by omega), if_neg (by omega), if_neg (by omega), if_pos ⟨rfl, rfl⟩]; decide⟩ hne ha hb v.2.2.2.2, v.2.2.2.2.1, u⟩)
                       refine ih (q + 1) _ (by omega) (by omega) (sF_mono sO (fun k g => g.elim (fun u => u.1) id)) (rg_cg g4 (fun k => rd_wr_row (by decide)) (fun k => rd_wr_row (by decide))) (BS_cg (by rw [rd_wr_row (by decide), rd_wr_row (by decide), rd_wr_row (by decide), m4 171 21 (by unfold S3; omega), rd_wr_row (by decide), rd_wr_row (by decide), rd_wr_row (by decide), m4 171 22 (by unfold S3; omega), rd_wr_row (by decide), rd_wr_row (by decide), rd_wr_row (by decide), m4 171 23 (by unfold S3; omega), rd_wr_row (by decide), rd_wr_row (by decide), rd_wr_row (by decide)]; exact hb1) (fun x y => ?_))
                       constructor
                       · rintro (u | ⟨q', u1, u2, u3⟩)
                         · exact Or.inl u
                         · by_cases g : q' < q
                           · exact Or.inr ⟨q', g, u2, u3⟩
                           · have g2 : q' = q := by omega
                             rw [g2] at u2
                             exact absurd u2 nf
                       · rintro (u | ⟨q', u1, u2, u3⟩)
                         · exact Or.inl u
                         · exact Or.inr ⟨q', by omega, u2, u3⟩)
                    | (refine w_keep 6 ?_
                       rw [Int.toNat_natCast]
                       have sO := sF_off t5 (by omega) hb0
                       rw [show (q : Int) + 1 = ((q + 1 : Nat) : Int) by omega]
                       have nf : ¬ fzB I (fun k => rd I 187 k) a b wn (t = 2) q := fun v => by
                         exact ql v.2.2.2.2
                       refine ih (q + 1) _ (by omega) (by omega) (sF_mono sO (fun k g => g.elim (fun u => u.1) id)) (rg_cg g5 (fun k => rd_wr_row (by decide)) (fun k => rd_wr_row (by decide))) (BS_cg (by rw [rd_wr_row (by decide), rd_wr_row (by decide), rd_wr_row (by decide), m5 171 21 (by unfold S3; omega), m4 171 21 (by unfold S3; omega), rd_wr_row (by decide), rd_wr_row (by decide), rd_wr_row (by decide), m5 171 22 (by unfold S3; omega), m4 171 22 (by unfold S3; omega), rd_wr_row (by decide), rd_wr_row (by decide), rd_wr_row (by decide), m5 171 23 (by unfold S3; omega), m4 171 23 (by unfold S3; omega), rd_wr_row (by decide), rd_wr_row (by decide), rd_wr_row (by decide)]; exact hb1) (fun x y => ?_))
                       constructor
                       · rintro (u | ⟨q', u1, u2, u3⟩)
                         · exact Or.inl u
                         · by_cases g : q' < q
                           · exact Or.inr ⟨q', g, u2, u3⟩
                           · have g2 : q' = q := by omega
                             rw [g2] at u2
                             exact absurd u2 nf
                       · rintro (u | ⟨q', u1, u2, u3⟩)
                         · exact Or.inl u
                         · exact Or.inr ⟨q', by omega, u2, u3⟩)
                    | (refine w_keep 6 ?_
                       rw [Int.toNat_natCast]
                       rw [show (q : Int) + 1 = ((q + 1 : Nat) : Int) by omega]
                       have sO := sF_off t5 (by omega) hb0
                       refine ih (q + 1) _ (by omega) (by omega) (sF_mono sO (fun k g => g.elim (fun u => u.1) id)) (rg_cg g5 (fun k => rd_wr_row (by decide)) (fun k => rd_wr_row (by decide))) ?_
                       rw [rd_wr_row (by decide), rd_wr_row (by decide), rd_wr_row (by decide), b21, b22, b23]
                       refine BS_cg (BS_no hb1 (hw0 q fz) (by rw [← wv]; exact wb.1) qh) (fun x y => ?_)
                       constructor
                       · rintro (u | ⟨q', u1, u2, u3⟩)
                         · exact Or.inl (Or.inl u)
                         · by_cases g : q' < q
                           · exact Or.inl (Or.inr ⟨q', g, u2, u3⟩)
                           · have g2 : q' = q := by omega
                             rw [g2] at u3
                             exact Or.inr u3
                       · rintro ((u | ⟨q', u1, u2, u3⟩) | u)
                         · exact Or.inl u
                         · exact Or.inr ⟨q', by omega, u2, u3⟩
                         · exact Or.inr ⟨q, by omega, fz, u⟩)
                    | (refine w_keep 6 ?_
                       rw [Int.toNat_natCast]
                       rw [show (q : Int) + 1 = ((q + 1 : Nat) : Int) by omega]
                       have xb : -2147483648 ≤ yy a b p q ∧ yy a b p q < 2147483648 := by unfold yy; split <;> omega
                       have yb : -2147483648 ≤ xx a b p q ∧ xx a b p q < 2147483648 := by unfold xx; split <;> omega
                       have t6 := sF_b (v := wNow I5) (x := xx a b p q) (y := yy a b p q) t5
                       have sO := sF_off t6 (by omega) hb0
                       have g6 : rg (wr (wr (wr I5 171 21 (wNow I5)) 171 22 (xx a b p q)) 171 23 (yy a b p q)) := rg_cg g5 (fun k => by rw [rd_wr_row (by decide), rd_wr_row (by decide), rd_wr_row (by decide)]) (fun k => by rw [rd_wr_row (by decide), rd_wr_row (by decide), rd_wr_row (by decide)])
                       have r21 : rd (wr (wr (wr (wr I5 171 21 (wNow I5)) 171 22 (xx a b p q)) 171 23 (yy a b p q)) 177 b 0) 171 21 = wNow I5 := by rw [rd_wr_row (by decide), rd_wr_ne (by decide), rd_wr_ne (by decide), rd_wr_eq (by omega) (by omega)]
                       have r22 : rd (wr (wr (wr (wr I5 171 21 (wNow I5)) 171 22 (xx a b p q)) 171 23 (yy a b p q)) 177 b 0) 171 22 = xx a b p q := by rw [rd_wr_row (by decide), rd_wr_ne (by decide), rd_wr_eq yb.1 yb.2]
                       have r23 : rd (wr (wr (wr (wr I5 171 21 (wNow I5)) 171 22 (xx a b p q)) 171 23 (yy a b p q)) 177 b 0) 171 23 = yy a b p q := by rw [rd_wr_row (by decide), rd_wr_eq xb.1 xb.2]
                       refine ih (q + 1) _ (by omega) (by omega) (sF_mono sO (fun k g => g.elim (fun u => u.1) id)) (rg_cg g6 (fun k => rd_wr_row (by decide)) (fun k => rd_wr_row (by decide))) ?_
                       rw [r21, r22, r23, wv]
                       refine BS_cg (BS_yes hb1 (hw0 q fz) (by rw [← wv]; exact wb.1) qh) (fun x y => ?_)
                       constructor
                       · rintro (u | ⟨q', u1, u2, u3⟩)
                         · exact Or.inl (Or.inl u)
                         · by_cases g : q' < q
                           · exact Or.inl (Or.inr ⟨q', g, u2, u3⟩)
                           · have g2 : q' = q := by omega
                             rw [g2] at u3
                             exact Or.inr u3
                       · rintro ((u | ⟨q', u1, u2, u3⟩) | u)
                         · exact Or.inl u
                         · exact Or.inr ⟨q', by omega, u2, u3⟩
                         · exact Or.inr ⟨q, by omega, fz, u⟩)
              · refine v_if_eq 102 dX12_seconds_95 (by decide) (by decide) (fun _ => ?_) (fun q => absurd q (by decide))
                refine w_iconst (v := iI 0) dX12_seconds_102 rfl ?_
                refine w_istore dX12_seconds_103 rfl rfl ?_
                refine w_iload dX12_seconds_105 rfl ?_
                refine v_if_eq 119 dX12_seconds_107 (by decide) (by decide) (fun _ => ?_) (fun q => absurd q (by decide))
                refine w_aload_n dX12_seconds_119 rfl ?_
                refine v_getR (j := 177) dX12_seconds_120 fX12_26 ⟨by decide, rfl⟩ rfl rfl ?_
                refine w_iload_n dX12_seconds_123 rfl ?_
                refine w_iconst (v := iI 0) dX12_seconds_124 rfl ?_
                refine v_zast dX12_seconds_125 ⟨by decide, rfl⟩ (by first | omega | (clear h q0; omega) | (clear h q0 q1; omega) | (clear h q0 q1 qm; omega) | (clear h q0 q1 qm ql; omega)) (by first | omega | (clear h q0; omega) | (clear h q0 q1; omega) | (clear h q0 q1 qm; omega) | (clear h q0 q1 qm ql; omega)) (by decide) (by decide) ?_
                refine v_iinc dX12_seconds_126 rfl rfl rfl ?_
                refine w_goto 3 dX12_seconds_129 (by decide) ?_
                first
                  | (rw [show (q : Int) + 1 = ((q + 1 : Nat) : Int) by omega]
                     have nf : ¬ fzB I (fun k => rd I 187 k) a b wn (t = 2) q := fun v => by
                       exact qn v.1
                     refine ih (q + 1) _ (by omega) (by omega) hx hg (BS_cg hb1 (fun x y => ?_))
                     constructor
                     · rintro (u | ⟨q', u1, u2, u3⟩)
                       · exact Or.inl u
                       · by_cases g : q' < q
                         · exact Or.inr ⟨q', g, u2, u3⟩
                         · have g2 : q' = q := by omega
                           rw [g2] at u2
                           exact absurd u2 nf
                     · rintro (u | ⟨q', u1, u2, u3⟩)
                       · exact Or.inl u
                       · exact Or.inr ⟨q', by omega, u2, u3⟩)
                  | (refine w_keep 6 ?_
                     rw [show (q : Int) + 1 = ((q + 1 : Nat) : Int) by omega]
                     have nf : ¬ fzB I (fun k => rd I 187 k) a b wn (t = 2) q := fun v => by
                       first | exact q0 v.2.1 | exact v.2.2.1.elim (fun u => by clear q0 q1 v h; omega) q1
                     refine ih (q + 1) _ (by omega) (by omega) (fun id k g => by
                       have g1 : ¬ (id = 178 ∧ k = b) := fun u => g (Or.inr (Or.inr ⟨Or.inl u.1, u.2⟩))
                       have g2 : ¬ (id = 179 ∧ k = b) := fun u => g (Or.inr (Or.inr ⟨Or.inr u.1, u.2⟩))
                       rw [rd_wr_ne g2, rd_wr_ne g1]; exact hx id k g) g2 (BS_cg (by rw [rd_wr_row (by decide), rd_wr_row (by decide), rd_wr_row (by decide), rd_wr_row (by decide), rd_wr_row (by decide), rd_wr_row (by decide)]; exact hb1) (fun x y => ?_))
                     constructor
                     · rintro (u | ⟨q', u1, u2, u3⟩)
                       · exact Or.inl u
                       · by_cases g : q' < q
                         · exact Or.inr ⟨q', g, u2, u3⟩
                         · have g2 : q' = q := by omega
                           rw [g2] at u2
                           exact absurd u2 nf
                     · rintro (u | ⟨q', u1, u2, u3⟩)
                       · exact Or.inl u
                       · exact Or.inr ⟨q', by omega, u2, u3⟩)
                  | (refine w_keep 6 ?_
                     rw [Int.toNat_natCast]
                     have sO := sF_off s4 (by omega) hb0
                     rw [show (q : Int) + 1 = ((q + 1 : Nat) : Int) by omega]
                     have nf : ¬ fzB I (fun k => rd I 187 k) a b wn (t = 2) q := fun v => by
                       exact qm (by
                         rcases v.2.2.2.1 with u | u
                         · first | exact Or.inl ⟨u.1, rfl⟩ | exact absurd u.2 q1
                         · exact Or.inr ⟨nqa ⟨by show rd (pl I b q) 177 a ≠ 0; rw [pl_rd (by omega), if_neg (by omega), if_neg (by omega), if_neg (by omega)]; exact ha1, by show rd (pl I b q) 177 b ≠ 0; rw [pl_rd (by omega), if_neg (by omega), if_neg (by omega), if_pos ⟨rfl, rfl⟩]; decide⟩ hne ha hb v.2.2.2.2, v.2.2.2.2.1, u⟩)
                     refine ih (q + 1) _ (by omega) (by omega) (sF_mono sO (fun k g => g.elim (fun u => u.1) id)) (rg_cg g4 (fun k => rd_wr_row (by decide)) (fun k => rd_wr_row (by decide))) (BS_cg (by rw [rd_wr_row (by decide), rd_wr_row (by decide), rd_wr_row (by decide), m4 171 21 (by unfold S3; omega), rd_wr_row (by decide), rd_wr_row (by decide), rd_wr_row (by decide), m4 171 22 (by unfold S3; omega), rd_wr_row (by decide), rd_wr_row (by decide), rd_wr_row (by decide), m4 171 23 (by unfold S3; omega), rd_wr_row (by decide), rd_wr_row (by decide), rd_wr_row (by decide)]; exact hb1) (fun x y => ?_))
                     constructor
                     · rintro (u | ⟨q', u1, u2, u3⟩)
                       · exact Or.inl u
                       · by_cases g : q' < q
                         · exact Or.inr ⟨q', g, u2, u3⟩
                         · have g2 : q' = q := by omega
                           rw [g2] at u2
                           exact absurd u2 nf
                     · rintro (u | ⟨q', u1, u2, u3⟩)
                       · exact Or.inl u
                       · exact Or.inr ⟨q', by omega, u2, u3⟩)
                  | (refine w_keep 6 ?_
                     rw [Int.toNat_natCast]
                     have sO := sF_off t5 (by omega) hb0
                     rw [show (q : Int) + 1 = ((q + 1 : Nat) : Int) by omega]
                     have nf : ¬ fzB I (fun k => rd I 187 k) a b wn (t = 2) q := fun v => by
                       exact ql v.2.2.2.2
                     refine ih (q + 1) _ (by omega) (by omega) (sF_mono sO (fun k g => g.elim (fun u => u.1) id)) (rg_cg g5 (fun k => rd_wr_row (by decide)) (fun k => rd_wr_row (by decide))) (BS_cg (by rw [rd_wr_row (by decide), rd_wr_row (by decide), rd_wr_row (by decide), m5 171 21 (by unfold S3; omega), m4 171 21 (by unfold S3; omega), rd_wr_row (by decide), rd_wr_row (by decide), rd_wr_row (by decide), m5 171 22 (by unfold S3; omega), m4 171 22 (by unfold S3; omega), rd_wr_row (by decide), rd_wr_row (by decide), rd_wr_row (by decide), m5 171 23 (by unfold S3; omega), m4 171 23 (by unfold S3; omega), rd_wr_row (by decide), rd_wr_row (by decide), rd_wr_row (by decide)]; exact hb1) (fun x y => ?_))
                     constructor
                     · rintro (u | ⟨q', u1, u2, u3⟩)
                       · exact Or.inl u
                       · by_cases g : q' < q
                         · exact Or.inr ⟨q', g, u2, u3⟩
                         · have g2 : q' = q := by omega
                           rw [g2] at u2
                           exact absurd u2 nf
                     · rintro (u | ⟨q', u1, u2, u3⟩)
                       · exact Or.inl u
                       · exact Or.inr ⟨q', by omega, u2, u3⟩)
                  | (refine w_keep 6 ?_
                     rw [Int.toNat_natCast]
                     rw [show (q : Int) + 1 = ((q + 1 : Nat) : Int) by omega]
                     have sO := sF_off t5 (by omega) hb0
                     refine ih (q + 1) _ (by omega) (by omega) (sF_mono sO (fun k g => g.elim (fun u => u.1) id)) (rg_cg g5 (fun k => rd_wr_row (by decide)) (fun k => rd_wr_row (by decide))) ?_
                     rw [rd_wr_row (by decide), rd_wr_row (by decide), rd_wr_row (by decide), b21, b22, b23]
                     refine BS_cg (BS_no hb1 (hw0 q fz) (by rw [← wv]; exact wb.1) qh) (fun x y => ?_)
                     constructor
                     · rintro (u | ⟨q', u1, u2, u3⟩)
                       · exact Or.inl (Or.inl u)
                       · by_cases g : q' < q
                         · exact Or.inl (Or.inr ⟨q', g, u2, u3⟩)
                         · have g2 : q' = q := by omega
                           rw [g2] at u3
                           exact Or.inr u3
                     · rintro ((u | ⟨q', u1, u2, u3⟩) | u)
                       · exact Or.inl u
                       · exact Or.inr ⟨q', by omega, u2, u3⟩
                       · exact Or.inr ⟨q, by omega, fz, u⟩)
                  | (refine w_keep 6 ?_
                     rw [Int.toNat_natCast]
                     rw [show (q : Int) + 1 = ((q + 1 : Nat) : Int) by omega]
                     have xb : -2147483648 ≤ yy a b p q ∧ yy a b p q < 2147483648 := by unfold yy; split <;> omega
                     have yb : -2147483648 ≤ xx a b p q ∧ xx a b p q < 2147483648 := by unfold xx; split <;> omega
                     have t6 := sF_b (v := wNow I5) (x := xx a b p q) (y := yy a b p q) t5
                     have sO := sF_off t6 (by omega) hb0
                     have g6 : rg (wr (wr (wr I5 171 21 (wNow I5)) 171 22 (xx a b p q)) 171 23 (yy a b p q)) := rg_cg g5 (fun k => by rw [rd_wr_row (by decide), rd_wr_row (by decide), rd_wr_row (by decide)]) (fun k => by rw [rd_wr_row (by decide), rd_wr_row (by decide), rd_wr_row (by decide)])
                     have r21 : rd (wr (wr (wr (wr I5 171 21 (wNow I5)) 171 22 (xx a b p q)) 171 23 (yy a b p q)) 177 b 0) 171 21 = wNow I5 := by rw [rd_wr_row (by decide), rd_wr_ne (by decide), rd_wr_ne (by decide), rd_wr_eq (by omega) (by omega)]
                     have r22 : rd (wr (wr (wr (wr I5 171 21 (wNow I5)) 171 22 (xx a b p q)) 171 23 (yy a b p q)) 177 b 0) 171 22 = xx a b p q := by rw [rd_wr_row (by decide), rd_wr_ne (by decide), rd_wr_eq yb.1 yb.2]
                     have r23 : rd (wr (wr (wr (wr I5 171 21 (wNow I5)) 171 22 (xx a b p q)) 171 23 (yy a b p q)) 177 b 0) 171 23 = yy a b p q := by rw [rd_wr_row (by decide), rd_wr_eq xb.1 xb.2]
                     refine ih (q + 1) _ (by omega) (by omega) (sF_mono sO (fun k g => g.elim (fun u => u.1) id)) (rg_cg g6 (fun k => rd_wr_row (by decide)) (fun k => rd_wr_row (by decide))) ?_
                     rw [r21, r22, r23, wv]
                     refine BS_cg (BS_yes hb1 (hw0 q fz) (by rw [← wv]; exact wb.1) qh) (fun x y => ?_)
                     constructor
                     · rintro (u | ⟨q', u1, u2, u3⟩)
                       · exact Or.inl (Or.inl u)
                       · by_cases g : q' < q
                         · exact Or.inl (Or.inr ⟨q', g, u2, u3⟩)
                         · have g2 : q' = q := by omega
                           rw [g2] at u3
                           exact Or.inr u3
                     · rintro ((u | ⟨q', u1, u2, u3⟩) | u)
                       · exact Or.inl u
                       · exact Or.inr ⟨q', by omega, u2, u3⟩
                       · exact Or.inr ⟨q, by omega, fz, u⟩)
            · refine v_if_eq 102 dX12_seconds_88 (by decide) (by decide) (fun _ => ?_) (fun q => absurd q (by decide))
              refine w_iconst (v := iI 0) dX12_seconds_102 rfl ?_
              refine w_istore dX12_seconds_103 rfl rfl ?_
              refine w_iload dX12_seconds_105 rfl ?_
              refine v_if_eq 119 dX12_seconds_107 (by decide) (by decide) (fun _ => ?_) (fun q => absurd q (by decide))
              refine w_aload_n dX12_seconds_119 rfl ?_
              refine v_getR (j := 177) dX12_seconds_120 fX12_26 ⟨by decide, rfl⟩ rfl rfl ?_
              refine w_iload_n dX12_seconds_123 rfl ?_
              refine w_iconst (v := iI 0) dX12_seconds_124 rfl ?_
              refine v_zast dX12_seconds_125 ⟨by decide, rfl⟩ (by first | omega | (clear h q0; omega) | (clear h q0 q1; omega) | (clear h q0 q1 qm; omega) | (clear h q0 q1 qm ql; omega)) (by first | omega | (clear h q0; omega) | (clear h q0 q1; omega) | (clear h q0 q1 qm; omega) | (clear h q0 q1 qm ql; omega)) (by decide) (by decide) ?_
              refine v_iinc dX12_seconds_126 rfl rfl rfl ?_
              refine w_goto 3 dX12_seconds_129 (by decide) ?_
              first
                | (rw [show (q : Int) + 1 = ((q + 1 : Nat) : Int) by omega]
                   have nf : ¬ fzB I (fun k => rd I 187 k) a b wn (t = 2) q := fun v => by
                     exact qn v.1
                   refine ih (q + 1) _ (by omega) (by omega) hx hg (BS_cg hb1 (fun x y => ?_))
                   constructor
                   · rintro (u | ⟨q', u1, u2, u3⟩)
                     · exact Or.inl u
                     · by_cases g : q' < q
                       · exact Or.inr ⟨q', g, u2, u3⟩
                       · have g2 : q' = q := by omega
                         rw [g2] at u2
                         exact absurd u2 nf
                   · rintro (u | ⟨q', u1, u2, u3⟩)
                     · exact Or.inl u
                     · exact Or.inr ⟨q', by omega, u2, u3⟩)
                | (refine w_keep 6 ?_
                   rw [show (q : Int) + 1 = ((q + 1 : Nat) : Int) by omega]
                   have nf : ¬ fzB I (fun k => rd I 187 k) a b wn (t = 2) q := fun v => by
                     first | exact q0 v.2.1 | exact v.2.2.1.elim (fun u => by clear q0 q1 v h; omega) q1
                   refine ih (q + 1) _ (by omega) (by omega) (fun id k g => by
                     have g1 : ¬ (id = 178 ∧ k = b) := fun u => g (Or.inr (Or.inr ⟨Or.inl u.1, u.2⟩))
                     have g2 : ¬ (id = 179 ∧ k = b) := fun u => g (Or.inr (Or.inr ⟨Or.inr u.1, u.2⟩))
                     rw [rd_wr_ne g2, rd_wr_ne g1]; exact hx id k g) g2 (BS_cg (by rw [rd_wr_row (by decide), rd_wr_row (by decide), rd_wr_row (by decide), rd_wr_row (by decide), rd_wr_row (by decide), rd_wr_row (by decide)]; exact hb1) (fun x y => ?_))
                   constructor
                   · rintro (u | ⟨q', u1, u2, u3⟩)
                     · exact Or.inl u
                     · by_cases g : q' < q
                       · exact Or.inr ⟨q', g, u2, u3⟩
                       · have g2 : q' = q := by omega
                         rw [g2] at u2
                         exact absurd u2 nf
                   · rintro (u | ⟨q', u1, u2, u3⟩)
                     · exact Or.inl u
                     · exact Or.inr ⟨q', by omega, u2, u3⟩)
                | (refine w_keep 6 ?_
                   rw [Int.toNat_natCast]
                   have sO := sF_off s4 (by omega) hb0
                   rw [show (q : Int) + 1 = ((q + 1 : Nat) : Int) by omega]
                   have nf : ¬ fzB I (fun k => rd I 187 k) a b wn (t = 2) q := fun v => by
                     exact qm (by
                       rcases v.2.2.2.1 with u | u
                       · first | exact Or.inl ⟨u.1, rfl⟩ | exact absurd u.2 q1
                       · exact Or.inr ⟨nqa ⟨by show rd (pl I b q) 177 a ≠ 0; rw [pl_rd (by omega), if_neg (by omega), if_neg (by omega), if_neg (by omega)]; exact ha1, by show rd (pl I b q) 177 b ≠ 0; rw [pl_rd (by omega), if_neg (by omega), if_neg (by omega), if_pos ⟨rfl, rfl⟩]; decide⟩ hne ha hb v.2.2.2.2, v.2.2.2.2.1, u⟩)
                   refine ih (q + 1) _ (by omega) (by omega) (sF_mono sO (fun k g => g.elim (fun u => u.1) id)) (rg_cg g4 (fun k => rd_wr_row (by decide)) (fun k => rd_wr_row (by decide))) (BS_cg (by rw [rd_wr_row (by decide), rd_wr_row (by decide), rd_wr_row (by decide), m4 171 21 (by unfold S3; omega), rd_wr_row (by decide), rd_wr_row (by decide), rd_wr_row (by decide), m4 171 22 (by unfold S3; omega), rd_wr_row (by decide), rd_wr_row (by decide), rd_wr_row (by decide), m4 171 23 (by unfold S3; omega), rd_wr_row (by decide), rd_wr_row (by decide), rd_wr_row (by decide)]; exact hb1) (fun x y => ?_))
                   constructor
                   · rintro (u | ⟨q', u1, u2, u3⟩)
                     · exact Or.inl u
                     · by_cases g : q' < q
                       · exact Or.inr ⟨q', g, u2, u3⟩
                       · have g2 : q' = q := by omega
                         rw [g2] at u2
                         exact absurd u2 nf
                   · rintro (u | ⟨q', u1, u2, u3⟩)
                     · exact Or.inl u
                     · exact Or.inr ⟨q', by omega, u2, u3⟩)
                | (refine w_keep 6 ?_
                   rw [Int.toNat_natCast]
                   have sO := sF_off t5 (by omega) hb0
                   rw [show (q : Int) + 1 = ((q + 1 : Nat) : Int) by omega]
                   have nf : ¬ fzB I (fun k => rd I 187 k) a b wn (t = 2) q := fun v => by
                     exact ql v.2.2.2.2
                   refine ih (q + 1) _ (by omega) (by omega) (sF_mono sO (fun k g => g.elim (fun u => u.1) id)) (rg_cg g5 (fun k => rd_wr_row (by decide)) (fun k => rd_wr_row (by decide))) (BS_cg (by rw [rd_wr_row (by decide), rd_wr_row (by decide), rd_wr_row (by decide), m5 171 21 (by unfold S3; omega), m4 171 21 (by unfold S3; omega), rd_wr_row (by decide), rd_wr_row (by decide), rd_wr_row (by decide), m5 171 22 (by unfold S3; omega), m4 171 22 (by unfold S3; omega), rd_wr_row (by decide), rd_wr_row (by decide), rd_wr_row (by decide), m5 171 23 (by unfold S3; omega), m4 171 23 (by unfold S3; omega), rd_wr_row (by decide), rd_wr_row (by decide), rd_wr_row (by decide)]; exact hb1) (fun x y => ?_))
                   constructor
                   · rintro (u | ⟨q', u1, u2, u3⟩)
                     · exact Or.inl u
                     · by_cases g : q' < q
                       · exact Or.inr ⟨q', g, u2, u3⟩
                       · have g2 : q' = q := by omega
                         rw [g2] at u2
                         exact absurd u2 nf
                   · rintro (u | ⟨q', u1, u2, u3⟩)
                     · exact Or.inl u
                     · exact Or.inr ⟨q', by omega, u2, u3⟩)
                | (refine w_keep 6 ?_
                   rw [Int.toNat_natCast]
                   rw [show (q : Int) + 1 = ((q + 1 : Nat) : Int) by omega]
                   have sO := sF_off t5 (by omega) hb0
                   refine ih (q + 1) _ (by omega) (by omega) (sF_mono sO (fun k g => g.elim (fun u => u.1) id)) (rg_cg g5 (fun k => rd_wr_row (by decide)) (fun k => rd_wr_row (by decide))) ?_
                   rw [rd_wr_row (by decide), rd_wr_row (by decide), rd_wr_row (by decide), b21, b22, b23]
                   refine BS_cg (BS_no hb1 (hw0 q fz) (by rw [← wv]; exact wb.1) qh) (fun x y => ?_)
                   constructor
                   · rintro (u | ⟨q', u1, u2, u3⟩)
                     · exact Or.inl (Or.inl u)
                     · by_cases g : q' < q
                       · exact Or.inl (Or.inr ⟨q', g, u2, u3⟩)
                       · have g2 : q' = q := by omega
                         rw [g2] at u3
                         exact Or.inr u3
                   · rintro ((u | ⟨q', u1, u2, u3⟩) | u)
                     · exact Or.inl u
                     · exact Or.inr ⟨q', by omega, u2, u3⟩
                     · exact Or.inr ⟨q, by omega, fz, u⟩)
                | (refine w_keep 6 ?_
                   rw [Int.toNat_natCast]
                   rw [show (q : Int) + 1 = ((q + 1 : Nat) : Int) by omega]
                   have xb : -2147483648 ≤ yy a b p q ∧ yy a b p q < 2147483648 := by unfold yy; split <;> omega
                   have yb : -2147483648 ≤ xx a b p q ∧ xx a b p q < 2147483648 := by unfold xx; split <;> omega
                   have t6 := sF_b (v := wNow I5) (x := xx a b p q) (y := yy a b p q) t5
                   have sO := sF_off t6 (by omega) hb0
                   have g6 : rg (wr (wr (wr I5 171 21 (wNow I5)) 171 22 (xx a b p q)) 171 23 (yy a b p q)) := rg_cg g5 (fun k => by rw [rd_wr_row (by decide), rd_wr_row (by decide), rd_wr_row (by decide)]) (fun k => by rw [rd_wr_row (by decide), rd_wr_row (by decide), rd_wr_row (by decide)])
                   have r21 : rd (wr (wr (wr (wr I5 171 21 (wNow I5)) 171 22 (xx a b p q)) 171 23 (yy a b p q)) 177 b 0) 171 21 = wNow I5 := by rw [rd_wr_row (by decide), rd_wr_ne (by decide), rd_wr_ne (by decide), rd_wr_eq (by omega) (by omega)]
                   have r22 : rd (wr (wr (wr (wr I5 171 21 (wNow I5)) 171 22 (xx a b p q)) 171 23 (yy a b p q)) 177 b 0) 171 22 = xx a b p q := by rw [rd_wr_row (by decide), rd_wr_ne (by decide), rd_wr_eq yb.1 yb.2]
                   have r23 : rd (wr (wr (wr (wr I5 171 21 (wNow I5)) 171 22 (xx a b p q)) 171 23 (yy a b p q)) 177 b 0) 171 23 = yy a b p q := by rw [rd_wr_row (by decide), rd_wr_eq xb.1 xb.2]
                   refine ih (q + 1) _ (by omega) (by omega) (sF_mono sO (fun k g => g.elim (fun u => u.1) id)) (rg_cg g6 (fun k => rd_wr_row (by decide)) (fun k => rd_wr_row (by decide))) ?_
                   rw [r21, r22, r23, wv]
                   refine BS_cg (BS_yes hb1 (hw0 q fz) (by rw [← wv]; exact wb.1) qh) (fun x y => ?_)
                   constructor
                   · rintro (u | ⟨q', u1, u2, u3⟩)
                     · exact Or.inl (Or.inl u)
                     · by_cases g : q' < q
                       · exact Or.inl (Or.inr ⟨q', g, u2, u3⟩)
                       · have g2 : q' = q := by omega
                         rw [g2] at u3
                         exact Or.inr u3
                   · rintro ((u | ⟨q', u1, u2, u3⟩) | u)
                     · exact Or.inl u
                     · exact Or.inr ⟨q', by omega, u2, u3⟩
                     · exact Or.inr ⟨q, by omega, fz, u⟩)
          · refine w_iload dX12_seconds_62 rfl ?_
            refine w_iconst (v := iI 2) dX12_seconds_64 rfl ?_
            refine v_icmp_ge 71 dX12_seconds_65 (by decide) (by decide) (by decide) (fun _ => ?_) (fun q => absurd q (by decide))
            refine w_aload_n dX12_seconds_71 rfl ?_
            refine v_getR (j := 177) dX12_seconds_72 fX12_26 ⟨by decide, rfl⟩ rfl rfl ?_
            refine w_iload_n dX12_seconds_75 rfl ?_
            refine w_iconst (v := iI 1) dX12_seconds_76 rfl ?_
            refine v_zast dX12_seconds_77 ⟨by decide, rfl⟩ (by first | omega | (clear h q0; omega) | (clear h q0 q1; omega) | (clear h q0 q1 qm; omega) | (clear h q0 q1 qm ql; omega)) (by first | omega | (clear h q0; omega) | (clear h q0 q1; omega) | (clear h q0 q1 qm; omega) | (clear h q0 q1 qm ql; omega)) (by decide) (by decide) ?_
            refine w_aload_n dX12_seconds_78 rfl ?_
            refine w_iload_n dX12_seconds_79 rfl ?_
            refine w_iload_n dX12_seconds_80 rfl ?_
            refine w_iload dX12_seconds_81 rfl ?_
            refine w_iload dX12_seconds_83 rfl ?_
            refine v_callV4 dX12_seconds_85 lX12_200 vX12_mayTouch (by decide) rfl rfl ⟨by decide, rfl⟩ (by decide) rfl (Nat.le_of_ble_eq_true rfl) ?_
            rw [Int.toNat_natCast]
            have g3 : rg (wr (wr (wr I' 178 b ((q : Int) / 64 - 5)) 179 b ((q : Int) % 64 - 10)) 177 b 1) := rg_cg g2 (fun k => rd_wr_row (by decide)) (fun k => rd_wr_row (by decide))
            have s3 : sF (fun k => k = b ∧ k ≠ b) (pl I b q) (wr (wr (wr I' 178 b ((q : Int) / 64 - 5)) 179 b ((q : Int) % 64 - 10)) 177 b 1) := sF_put hx (by omega)
            have r3 : fR (pl I b q) (wr (wr (wr I' 178 b ((q : Int) / 64 - 5)) 179 b ((q : Int) % 64 - 10)) 177 b 1) := sF_R s3 (fun k g => g.2 g.1)
            refine x12_mayTouch g3 ha hb (by omega) (by omega) (fun qm I4 m4 => ?_) (fun qm I4 m4 => ?_)
            all_goals rw [mT2_R r3] at qm
            all_goals have s4 := sF_3 s3 m4
            all_goals have r4 : fR (pl I b q) I4 := sF_R s4 (fun k g => g.2 g.1)
            all_goals have g4 := rg_3 g3 m4
            · refine v_if_eq 102 dX12_seconds_88 (by decide) (by decide) (fun q => absurd q (by decide)) (fun _ => ?_)
              refine w_aload_n dX12_seconds_91 rfl ?_
              refine v_callV0 dX12_seconds_92 lX12_149 vX12_mayLie (by decide) rfl rfl ⟨by decide, rfl⟩ (by decide) rfl (Nat.le_of_ble_eq_true rfl) ?_
              have w4 : rd I4 171 12 = wn := by
                rw [s4 171 12 (by unfold S3; omega), pl_rd (by omega), if_neg (by omega), if_neg (by omega), if_neg (by omega)]; exact hw
              have z4 : ∀ k, rd I4 183 k = rd I 183 k := fun k => by
                rw [s4 183 k (by unfold S3; omega), pl_rd (by omega), if_neg (by omega), if_neg (by omega), if_neg (by omega)]
              refine x12_mayLie (fun d hd => (g4 d hd).1) (fun d hd => (g4 d hd).2) w4 hw2 (fun w g => by rw [z4]; exact hsz w g) (fun ql I5 s5 m5 => ?_) (fun ql I5 m5 => ?_)
              all_goals rw [mL_R r4] at ql
              all_goals have g5 := rg_3 g4 m5
              all_goals have t5 := sF_3 s4 m5
              · refine v_if_eq 102 dX12_seconds_95 (by decide) (by decide) (fun q => absurd q (by decide)) (fun _ => ?_)
                refine w_iconst (v := iI 1) dX12_seconds_98 rfl ?_
                refine w_goto 103 dX12_seconds_99 (by decide) ?_
                refine w_istore dX12_seconds_103 rfl rfl ?_
                refine w_iload dX12_seconds_105 rfl ?_
                refine v_if_eq 119 dX12_seconds_107 (by decide) (by decide) (fun q => absurd q (by decide)) (fun _ => ?_)
                refine w_aload_n dX12_seconds_110 rfl ?_
                refine w_iload_n dX12_seconds_111 rfl ?_
                refine w_iload_n dX12_seconds_112 rfl ?_
                refine w_iload_n dX12_seconds_113 rfl ?_
                refine w_iload dX12_seconds_114 rfl ?_
                refine v_callV4 dX12_seconds_116 lX12_197 vX12_holds (by decide) rfl rfl ⟨by decide, rfl⟩ (by decide) rfl (Nat.le_of_ble_eq_true rfl) ?_
                have wv : wNow I5 = wA (pl I b q) := by rw [wNow_sh s5 m5]; exact wA_R r4
                have wb := wNow_bd I5
                have bst : ∀ k, 21 ≤ k → rd I5 171 k = rd I' 171 k := fun k g => by
                  rw [m5 _ _ (by unfold S3; omega), m4 _ _ (by unfold S3; omega), rd_wr_row (by decide), rd_wr_row (by decide), rd_wr_row (by decide)]
                have b21 := bst 21 (by decide)
                have b22 := bst 22 (by decide)
                have b23 := bst 23 (by decide)
                have fz : fzB I (fun k => rd I 187 k) a b wn (t = 2) q := ⟨qn, q0, by first | exact Or.inr q1 | exact Or.inl (by clear q1 qm ql q0 h; omega), by
                  rcases qm with u | u
                  · first | exact Or.inl ⟨u.1, q1⟩ | (exfalso; exact absurd u.2 (by decide))
                  · exact Or.inr u.2.2, ql⟩
                refine x12_holds g5 (by omega) (by omega) (by omega) (by omega) (fun qh => ?_) (fun qh => ?_)
                all_goals rw [b21, b22, b23, wv] at qh
                · refine w_aload_n dX12_seconds_119 rfl ?_
                  refine v_getR (j := 177) dX12_seconds_120 fX12_26 ⟨by decide, rfl⟩ rfl rfl ?_
                  refine w_iload_n dX12_seconds_123 rfl ?_
                  refine w_iconst (v := iI 0) dX12_seconds_124 rfl ?_
                  refine v_zast dX12_seconds_125 ⟨by decide, rfl⟩ (by first | omega | (clear h q0; omega) | (clear h q0 q1; omega) | (clear h q0 q1 qm; omega) | (clear h q0 q1 qm ql; omega)) (by first | omega | (clear h q0; omega) | (clear h q0 q1; omega) | (clear h q0 q1 qm; omega) | (clear h q0 q1 qm ql; omega)) (by decide) (by decide) ?_
                  refine v_iinc dX12_seconds_126 rfl rfl rfl ?_
                  refine w_goto 3 dX12_seconds_129 (by decide) ?_
                  first
                    | (rw [show (q : Int) + 1 = ((q + 1 : Nat) : Int) by omega]
                       have nf : ¬ fzB I (fun k => rd I 187 k) a b wn (t = 2) q := fun v => by
                         exact qn v.1
                       refine ih (q + 1) _ (by omega) (by omega) hx hg (BS_cg hb1 (fun x y => ?_))
                       constructor
                       · rintro (u | ⟨q', u1, u2, u3⟩)
                         · exact Or.inl u
                         · by_cases g : q' < q
                           · exact Or.inr ⟨q', g, u2, u3⟩
                           · have g2 : q' = q := by omega
                             rw [g2] at u2
                             exact absurd u2 nf
                       · rintro (u | ⟨q', u1, u2, u3⟩)
                         · exact Or.inl u
                         · exact Or.inr ⟨q', by omega, u2, u3⟩)
                    | (refine w_keep 6 ?_
                       rw [show (q : Int) + 1 = ((q + 1 : Nat) : Int) by omega]
                       have nf : ¬ fzB I (fun k => rd I 187 k) a b wn (t = 2) q := fun v => by
                         first | exact q0 v.2.1 | exact v.2.2.1.elim (fun u => by clear q0 q1 v h; omega) q1
                       refine ih (q + 1) _ (by omega) (by omega) (fun id k g => by
                         have g1 : ¬ (id = 178 ∧ k = b) := fun u => g (Or.inr (Or.inr ⟨Or.inl u.1, u.2⟩))
                         have g2 : ¬ (id = 179 ∧ k = b) := fun u => g (Or.inr (Or.inr ⟨Or.inr u.1, u.2⟩))
                         rw [rd_wr_ne g2, rd_wr_ne g1]; exact hx id k g) g2 (BS_cg (by rw [rd_wr_row (by decide), rd_wr_row (by decide), rd_wr_row (by decide), rd_wr_row (by decide), rd_wr_row (by decide), rd_wr_row (by decide)]; exact hb1) (fun x y => ?_))
                       constructor
                       · rintro (u | ⟨q', u1, u2, u3⟩)
                         · exact Or.inl u
                         · by_cases g : q' < q
                           · exact Or.inr ⟨q', g, u2, u3⟩
                           · have g2 : q' = q := by omega
                             rw [g2] at u2
                             exact absurd u2 nf
                       · rintro (u | ⟨q', u1, u2, u3⟩)
                         · exact Or.inl u
                         · exact Or.inr ⟨q', by omega, u2, u3⟩)
                    | (refine w_keep 6 ?_
                       rw [Int.toNat_natCast]
                       have sO := sF_off s4 (by omega) hb0
                       rw [show (q : Int) + 1 = ((q + 1 : Nat) : Int) by omega]
                       have nf : ¬ fzB I (fun k => rd I 187 k) a b wn (t = 2) q := fun v => by
                         exact qm (by
                           rcases v.2.2.2.1 with u | u
                           · first | exact Or.inl ⟨u.1, rfl⟩ | exact absurd u.2 q1
                           · exact Or.inr ⟨nqa ⟨by show rd (pl I b q) 177 a ≠ 0; rw [pl_rd (by omega), if_neg (by omega), if_neg (by omega), if_neg (by omega)]; exact ha1, by show rd (pl I b q) 177 b ≠ 0; rw [pl_rd (by omega), if_neg (by omega), if_neg (by omega), if_pos ⟨rfl, rfl⟩]; decide⟩ hne ha hb v.2.2.2.2, v.2.2.2.2.1, u⟩)
                       refine ih (q + 1) _ (by omega) (by omega) (sF_mono sO (fun k g => g.elim (fun u => u.1) id)) (rg_cg g4 (fun k => rd_wr_row (by decide)) (fun k => rd_wr_row (by decide))) (BS_cg (by rw [rd_wr_row (by decide), rd_wr_row (by decide), rd_wr_row (by decide), m4 171 21 (by unfold S3; omega), rd_wr_row (by decide), rd_wr_row (by decide), rd_wr_row (by decide), m4 171 22 (by unfold S3; omega), rd_wr_row (by decide), rd_wr_row (by decide), rd_wr_row (by decide), m4 171 23 (by unfold S3; omega), rd_wr_row (by decide), rd_wr_row (by decide), rd_wr_row (by decide)]; exact hb1) (fun x y => ?_))
                       constructor
                       · rintro (u | ⟨q', u1, u2, u3⟩)
                         · exact Or.inl u
                         · by_cases g : q' < q
                           · exact Or.inr ⟨q', g, u2, u3⟩
                           · have g2 : q' = q := by omega
                             rw [g2] at u2
                             exact absurd u2 nf
                       · rintro (u | ⟨q', u1, u2, u3⟩)
                         · exact Or.inl u
                         · exact Or.inr ⟨q', by omega, u2, u3⟩)
                    | (refine w_keep 6 ?_
                       rw [Int.toNat_natCast]
                       have sO := sF_off t5 (by omega) hb0
                       rw [show (q : Int) + 1 = ((q + 1 : Nat) : Int) by omega]
                       have nf : ¬ fzB I (fun k => rd I 187 k) a b wn (t = 2) q := fun v => by
                         exact ql v.2.2.2.2
                       refine ih (q + 1) _ (by omega) (by omega) (sF_mono sO (fun k g => g.elim (fun u => u.1) id)) (rg_cg g5 (fun k => rd_wr_row (by decide)) (fun k => rd_wr_row (by decide))) (BS_cg (by rw [rd_wr_row (by decide), rd_wr_row (by decide), rd_wr_row (by decide), m5 171 21 (by unfold S3; omega), m4 171 21 (by unfold S3; omega), rd_wr_row (by decide), rd_wr_row (by decide), rd_wr_row (by decide), m5 171 22 (by unfold S3; omega), m4 171 22 (by unfold S3; omega), rd_wr_row (by decide), rd_wr_row (by decide), rd_wr_row (by decide), m5 171 23 (by unfold S3; omega), m4 171 23 (by unfold S3; omega), rd_wr_row (by decide), rd_wr_row (by decide), rd_wr_row (by decide)]; exact hb1) (fun x y => ?_))
                       constructor
                       · rintro (u | ⟨q', u1, u2, u3⟩)
                         · exact Or.inl u
                         · by_cases g : q' < q
                           · exact Or.inr ⟨q', g, u2, u3⟩
                           · have g2 : q' = q := by omega
                             rw [g2] at u2
                             exact absurd u2 nf
                       · rintro (u | ⟨q', u1, u2, u3⟩)
                         · exact Or.inl u
                         · exact Or.inr ⟨q', by omega, u2, u3⟩)
                    | (refine w_keep 6 ?_
                       rw [Int.toNat_natCast]
                       rw [show (q : Int) + 1 = ((q + 1 : Nat) : Int) by omega]
                       have sO := sF_off t5 (by omega) hb0
                       refine ih (q + 1) _ (by omega) (by omega) (sF_mono sO (fun k g => g.elim (fun u => u.1) id)) (rg_cg g5 (fun k => rd_wr_row (by decide)) (fun k => rd_wr_row (by decide))) ?_
                       rw [rd_wr_row (by decide), rd_wr_row (by decide), rd_wr_row (by decide), b21, b22, b23]
                       refine BS_cg (BS_no hb1 (hw0 q fz) (by rw [← wv]; exact wb.1) qh) (fun x y => ?_)
                       constructor
                       · rintro (u | ⟨q', u1, u2, u3⟩)
                         · exact Or.inl (Or.inl u)
                         · by_cases g : q' < q
                           · exact Or.inl (Or.inr ⟨q', g, u2, u3⟩)
                           · have g2 : q' = q := by omega
                             rw [g2] at u3
                             exact Or.inr u3
                       · rintro ((u | ⟨q', u1, u2, u3⟩) | u)
                         · exact Or.inl u
                         · exact Or.inr ⟨q', by omega, u2, u3⟩
                         · exact Or.inr ⟨q, by omega, fz, u⟩)
                    | (refine w_keep 6 ?_
                       rw [Int.toNat_natCast]
                       rw [show (q : Int) + 1 = ((q + 1 : Nat) : Int) by omega]
                       have xb : -2147483648 ≤ yy a b p q ∧ yy a b p q < 2147483648 := by unfold yy; split <;> omega
                       have yb : -2147483648 ≤ xx a b p q ∧ xx a b p q < 2147483648 := by unfold xx; split <;> omega
                       have t6 := sF_b (v := wNow I5) (x := xx a b p q) (y := yy a b p q) t5
                       have sO := sF_off t6 (by omega) hb0
                       have g6 : rg (wr (wr (wr I5 171 21 (wNow I5)) 171 22 (xx a b p q)) 171 23 (yy a b p q)) := rg_cg g5 (fun k => by rw [rd_wr_row (by decide), rd_wr_row (by decide), rd_wr_row (by decide)]) (fun k => by rw [rd_wr_row (by decide), rd_wr_row (by decide), rd_wr_row (by decide)])
                       have r21 : rd (wr (wr (wr (wr I5 171 21 (wNow I5)) 171 22 (xx a b p q)) 171 23 (yy a b p q)) 177 b 0) 171 21 = wNow I5 := by rw [rd_wr_row (by decide), rd_wr_ne (by decide), rd_wr_ne (by decide), rd_wr_eq (by omega) (by omega)]
                       have r22 : rd (wr (wr (wr (wr I5 171 21 (wNow I5)) 171 22 (xx a b p q)) 171 23 (yy a b p q)) 177 b 0) 171 22 = xx a b p q := by rw [rd_wr_row (by decide), rd_wr_ne (by decide), rd_wr_eq yb.1 yb.2]
                       have r23 : rd (wr (wr (wr (wr I5 171 21 (wNow I5)) 171 22 (xx a b p q)) 171 23 (yy a b p q)) 177 b 0) 171 23 = yy a b p q := by rw [rd_wr_row (by decide), rd_wr_eq xb.1 xb.2]
                       refine ih (q + 1) _ (by omega) (by omega) (sF_mono sO (fun k g => g.elim (fun u => u.1) id)) (rg_cg g6 (fun k => rd_wr_row (by decide)) (fun k => rd_wr_row (by decide))) ?_
                       rw [r21, r22, r23, wv]
                       refine BS_cg (BS_yes hb1 (hw0 q fz) (by rw [← wv]; exact wb.1) qh) (fun x y => ?_)
                       constructor
                       · rintro (u | ⟨q', u1, u2, u3⟩)
                         · exact Or.inl (Or.inl u)
                         · by_cases g : q' < q
                           · exact Or.inl (Or.inr ⟨q', g, u2, u3⟩)
                           · have g2 : q' = q := by omega
                             rw [g2] at u3
                             exact Or.inr u3
                       · rintro ((u | ⟨q', u1, u2, u3⟩) | u)
                         · exact Or.inl u
                         · exact Or.inr ⟨q', by omega, u2, u3⟩
                         · exact Or.inr ⟨q, by omega, fz, u⟩)
                · refine w_aload_n dX12_seconds_119 rfl ?_
                  refine v_getR (j := 177) dX12_seconds_120 fX12_26 ⟨by decide, rfl⟩ rfl rfl ?_
                  refine w_iload_n dX12_seconds_123 rfl ?_
                  refine w_iconst (v := iI 0) dX12_seconds_124 rfl ?_
                  refine v_zast dX12_seconds_125 ⟨by decide, rfl⟩ (by first | omega | (clear h q0; omega) | (clear h q0 q1; omega) | (clear h q0 q1 qm; omega) | (clear h q0 q1 qm ql; omega)) (by first | omega | (clear h q0; omega) | (clear h q0 q1; omega) | (clear h q0 q1 qm; omega) | (clear h q0 q1 qm ql; omega)) (by decide) (by decide) ?_
                  refine v_iinc dX12_seconds_126 rfl rfl rfl ?_
                  refine w_goto 3 dX12_seconds_129 (by decide) ?_
                  first
                    | (rw [show (q : Int) + 1 = ((q + 1 : Nat) : Int) by omega]
                       have nf : ¬ fzB I (fun k => rd I 187 k) a b wn (t = 2) q := fun v => by
                         exact qn v.1
                       refine ih (q + 1) _ (by omega) (by omega) hx hg (BS_cg hb1 (fun x y => ?_))
                       constructor
                       · rintro (u | ⟨q', u1, u2, u3⟩)
                         · exact Or.inl u
                         · by_cases g : q' < q
                           · exact Or.inr ⟨q', g, u2, u3⟩
                           · have g2 : q' = q := by omega
                             rw [g2] at u2
                             exact absurd u2 nf
                       · rintro (u | ⟨q', u1, u2, u3⟩)
                         · exact Or.inl u
                         · exact Or.inr ⟨q', by omega, u2, u3⟩)
                    | (refine w_keep 6 ?_
                       rw [show (q : Int) + 1 = ((q + 1 : Nat) : Int) by omega]
                       have nf : ¬ fzB I (fun k => rd I 187 k) a b wn (t = 2) q := fun v => by
                         first | exact q0 v.2.1 | exact v.2.2.1.elim (fun u => by clear q0 q1 v h; omega) q1
                       refine ih (q + 1) _ (by omega) (by omega) (fun id k g => by
                         have g1 : ¬ (id = 178 ∧ k = b) := fun u => g (Or.inr (Or.inr ⟨Or.inl u.1, u.2⟩))
                         have g2 : ¬ (id = 179 ∧ k = b) := fun u => g (Or.inr (Or.inr ⟨Or.inr u.1, u.2⟩))
                         rw [rd_wr_ne g2, rd_wr_ne g1]; exact hx id k g) g2 (BS_cg (by rw [rd_wr_row (by decide), rd_wr_row (by decide), rd_wr_row (by decide), rd_wr_row (by decide), rd_wr_row (by decide), rd_wr_row (by decide)]; exact hb1) (fun x y => ?_))
                       constructor
                       · rintro (u | ⟨q', u1, u2, u3⟩)
                         · exact Or.inl u
                         · by_cases g : q' < q
                           · exact Or.inr ⟨q', g, u2, u3⟩
                           · have g2 : q' = q := by omega
                             rw [g2] at u2
                             exact absurd u2 nf
                       · rintro (u | ⟨q', u1, u2, u3⟩)
                         · exact Or.inl u
                         · exact Or.inr ⟨q', by omega, u2, u3⟩)
                    | (refine w_keep 6 ?_
                       rw [Int.toNat_natCast]
                       have sO := sF_off s4 (by omega) hb0
                       rw [show (q : Int) + 1 = ((q + 1 : Nat) : Int) by omega]
                       have nf : ¬ fzB I (fun k => rd I 187 k) a b wn (t = 2) q := fun v => by
                         exact qm (by
                           rcases v.2.2.2.1 with u | u
                           · first | exact Or.inl ⟨u.1, rfl⟩ | exact absurd u.2 q1
                           · exact Or.inr ⟨nqa ⟨by show rd (pl I b q) 177 a ≠ 0; rw [pl_rd (by omega), if_neg (by omega), if_neg (by omega), if_neg (by omega)]; exact ha1, by show rd (pl I b q) 177 b ≠ 0; rw [pl_rd (by omega), if_neg (by omega), if_neg (by omega), if_pos ⟨rfl, rfl⟩]; decide⟩ hne ha hb v.2.2.2.2, v.2.2.2.2.1, u⟩)
                       refine ih (q + 1) _ (by omega) (by omega) (sF_mono sO (fun k g => g.elim (fun u => u.1) id)) (rg_cg g4 (fun k => rd_wr_row (by decide)) (fun k => rd_wr_row (by decide))) (BS_cg (by rw [rd_wr_row (by decide), rd_wr_row (by decide), rd_wr_row (by decide), m4 171 21 (by unfold S3; omega), rd_wr_row (by decide), rd_wr_row (by decide), rd_wr_row (by decide), m4 171 22 (by unfold S3; omega), rd_wr_row (by decide), rd_wr_row (by decide), rd_wr_row (by decide), m4 171 23 (by unfold S3; omega), rd_wr_row (by decide), rd_wr_row (by decide), rd_wr_row (by decide)]; exact hb1) (fun x y => ?_))
                       constructor
                       · rintro (u | ⟨q', u1, u2, u3⟩)
                         · exact Or.inl u
                         · by_cases g : q' < q
                           · exact Or.inr ⟨q', g, u2, u3⟩
                           · have g2 : q' = q := by omega
                             rw [g2] at u2
                             exact absurd u2 nf
                       · rintro (u | ⟨q', u1, u2, u3⟩)
                         · exact Or.inl u
                         · exact Or.inr ⟨q', by omega, u2, u3⟩)
                    | (refine w_keep 6 ?_
                       rw [Int.toNat_natCast]
                       have sO := sF_off t5 (by omega) hb0
                       rw [show (q : Int) + 1 = ((q + 1 : Nat) : Int) by omega]
                       have nf : ¬ fzB I (fun k => rd I 187 k) a b wn (t = 2) q := fun v => by
                         exact ql v.2.2.2.2
                       refine ih (q + 1) _ (by omega) (by omega) (sF_mono sO (fun k g => g.elim (fun u => u.1) id)) (rg_cg g5 (fun k => rd_wr_row (by decide)) (fun k => rd_wr_row (by decide))) (BS_cg (by rw [rd_wr_row (by decide), rd_wr_row (by decide), rd_wr_row (by decide), m5 171 21 (by unfold S3; omega), m4 171 21 (by unfold S3; omega), rd_wr_row (by decide), rd_wr_row (by decide), rd_wr_row (by decide), m5 171 22 (by unfold S3; omega), m4 171 22 (by unfold S3; omega), rd_wr_row (by decide), rd_wr_row (by decide), rd_wr_row (by decide), m5 171 23 (by unfold S3; omega), m4 171 23 (by unfold S3; omega), rd_wr_row (by decide), rd_wr_row (by decide), rd_wr_row (by decide)]; exact hb1) (fun x y => ?_))
                       constructor
                       · rintro (u | ⟨q', u1, u2, u3⟩)
                         · exact Or.inl u
                         · by_cases g : q' < q
                           · exact Or.inr ⟨q', g, u2, u3⟩
                           · have g2 : q' = q := by omega
                             rw [g2] at u2
                             exact absurd u2 nf
                       · rintro (u | ⟨q', u1, u2, u3⟩)
                         · exact Or.inl u
                         · exact Or.inr ⟨q', by omega, u2, u3⟩)
                    | (refine w_keep 6 ?_
                       rw [Int.toNat_natCast]
                       rw [show (q : Int) + 1 = ((q + 1 : Nat) : Int) by omega]
                       have sO := sF_off t5 (by omega) hb0
                       refine ih (q + 1) _ (by omega) (by omega) (sF_mono sO (fun k g => g.elim (fun u => u.1) id)) (rg_cg g5 (fun k => rd_wr_row (by decide)) (fun k => rd_wr_row (by decide))) ?_
                       rw [rd_wr_row (by decide), rd_wr_row (by decide), rd_wr_row (by decide), b21, b22, b23]
                       refine BS_cg (BS_no hb1 (hw0 q fz) (by rw [← wv]; exact wb.1) qh) (fun x y => ?_)
                       constructor
                       · rintro (u | ⟨q', u1, u2, u3⟩)
                         · exact Or.inl (Or.inl u)
                         · by_cases g : q' < q
                           · exact Or.inl (Or.inr ⟨q', g, u2, u3⟩)
                           · have g2 : q' = q := by omega
                             rw [g2] at u3
                             exact Or.inr u3
                       · rintro ((u | ⟨q', u1, u2, u3⟩) | u)
                         · exact Or.inl u
                         · exact Or.inr ⟨q', by omega, u2, u3⟩
                         · exact Or.inr ⟨q, by omega, fz, u⟩)
                    | (refine w_keep 6 ?_
                       rw [Int.toNat_natCast]
                       rw [show (q : Int) + 1 = ((q + 1 : Nat) : Int) by omega]
                       have xb : -2147483648 ≤ yy a b p q ∧ yy a b p q < 2147483648 := by unfold yy; split <;> omega
                       have yb : -2147483648 ≤ xx a b p q ∧ xx a b p q < 2147483648 := by unfold xx; split <;> omega
                       have t6 := sF_b (v := wNow I5) (x := xx a b p q) (y := yy a b p q) t5
                       have sO := sF_off t6 (by omega) hb0
                       have g6 : rg (wr (wr (wr I5 171 21 (wNow I5)) 171 22 (xx a b p q)) 171 23 (yy a b p q)) := rg_cg g5 (fun k => by rw [rd_wr_row (by decide), rd_wr_row (by decide), rd_wr_row (by decide)]) (fun k => by rw [rd_wr_row (by decide), rd_wr_row (by decide), rd_wr_row (by decide)])
                       have r21 : rd (wr (wr (wr (wr I5 171 21 (wNow I5)) 171 22 (xx a b p q)) 171 23 (yy a b p q)) 177 b 0) 171 21 = wNow I5 := by rw [rd_wr_row (by decide), rd_wr_ne (by decide), rd_wr_ne (by decide), rd_wr_eq (by omega) (by omega)]
                       have r22 : rd (wr (wr (wr (wr I5 171 21 (wNow I5)) 171 22 (xx a b p q)) 171 23 (yy a b p q)) 177 b 0) 171 22 = xx a b p q := by rw [rd_wr_row (by decide), rd_wr_ne (by decide), rd_wr_eq yb.1 yb.2]
                       have r23 : rd (wr (wr (wr (wr I5 171 21 (wNow I5)) 171 22 (xx a b p q)) 171 23 (yy a b p q)) 177 b 0) 171 23 = yy a b p q := by rw [rd_wr_row (by decide), rd_wr_eq xb.1 xb.2]
                       refine ih (q + 1) _ (by omega) (by omega) (sF_mono sO (fun k g => g.elim (fun u => u.1) id)) (rg_cg g6 (fun k => rd_wr_row (by decide)) (fun k => rd_wr_row (by decide))) ?_
                       rw [r21, r22, r23, wv]
                       refine BS_cg (BS_yes hb1 (hw0 q fz) (by rw [← wv]; exact wb.1) qh) (fun x y => ?_)
                       constructor
                       · rintro (u | ⟨q', u1, u2, u3⟩)
                         · exact Or.inl (Or.inl u)
                         · by_cases g : q' < q
                           · exact Or.inl (Or.inr ⟨q', g, u2, u3⟩)
                           · have g2 : q' = q := by omega
                             rw [g2] at u3
                             exact Or.inr u3
                       · rintro ((u | ⟨q', u1, u2, u3⟩) | u)
                         · exact Or.inl u
                         · exact Or.inr ⟨q', by omega, u2, u3⟩
                         · exact Or.inr ⟨q, by omega, fz, u⟩)
              · refine v_if_eq 102 dX12_seconds_95 (by decide) (by decide) (fun _ => ?_) (fun q => absurd q (by decide))
                refine w_iconst (v := iI 0) dX12_seconds_102 rfl ?_
                refine w_istore dX12_seconds_103 rfl rfl ?_
                refine w_iload dX12_seconds_105 rfl ?_
                refine v_if_eq 119 dX12_seconds_107 (by decide) (by decide) (fun _ => ?_) (fun q => absurd q (by decide))
                refine w_aload_n dX12_seconds_119 rfl ?_
                refine v_getR (j := 177) dX12_seconds_120 fX12_26 ⟨by decide, rfl⟩ rfl rfl ?_
                refine w_iload_n dX12_seconds_123 rfl ?_
                refine w_iconst (v := iI 0) dX12_seconds_124 rfl ?_
                refine v_zast dX12_seconds_125 ⟨by decide, rfl⟩ (by first | omega | (clear h q0; omega) | (clear h q0 q1; omega) | (clear h q0 q1 qm; omega) | (clear h q0 q1 qm ql; omega)) (by first | omega | (clear h q0; omega) | (clear h q0 q1; omega) | (clear h q0 q1 qm; omega) | (clear h q0 q1 qm ql; omega)) (by decide) (by decide) ?_
                refine v_iinc dX12_seconds_126 rfl rfl rfl ?_
                refine w_goto 3 dX12_seconds_129 (by decide) ?_
                first
                  | (rw [show (q : Int) + 1 = ((q + 1 : Nat) : Int) by omega]
                     have nf : ¬ fzB I (fun k => rd I 187 k) a b wn (t = 2) q := fun v => by
                       exact qn v.1
                     refine ih (q + 1) _ (by omega) (by omega) hx hg (BS_cg hb1 (fun x y => ?_))
                     constructor
                     · rintro (u | ⟨q', u1, u2, u3⟩)
                       · exact Or.inl u
                       · by_cases g : q' < q
                         · exact Or.inr ⟨q', g, u2, u3⟩
                         · have g2 : q' = q := by omega
                           rw [g2] at u2
                           exact absurd u2 nf
                     · rintro (u | ⟨q', u1, u2, u3⟩)
                       · exact Or.inl u
                       · exact Or.inr ⟨q', by omega, u2, u3⟩)
                  | (refine w_keep 6 ?_
                     rw [show (q : Int) + 1 = ((q + 1 : Nat) : Int) by omega]
                     have nf : ¬ fzB I (fun k => rd I 187 k) a b wn (t = 2) q := fun v => by
                       first | exact q0 v.2.1 | exact v.2.2.1.elim (fun u => by clear q0 q1 v h; omega) q1
                     refine ih (q + 1) _ (by omega) (by omega) (fun id k g => by
                       have g1 : ¬ (id = 178 ∧ k = b) := fun u => g (Or.inr (Or.inr ⟨Or.inl u.1, u.2⟩))
                       have g2 : ¬ (id = 179 ∧ k = b) := fun u => g (Or.inr (Or.inr ⟨Or.inr u.1, u.2⟩))
                       rw [rd_wr_ne g2, rd_wr_ne g1]; exact hx id k g) g2 (BS_cg (by rw [rd_wr_row (by decide), rd_wr_row (by decide), rd_wr_row (by decide), rd_wr_row (by decide), rd_wr_row (by decide), rd_wr_row (by decide)]; exact hb1) (fun x y => ?_))
                     constructor
                     · rintro (u | ⟨q', u1, u2, u3⟩)
                       · exact Or.inl u
                       · by_cases g : q' < q
                         · exact Or.inr ⟨q', g, u2, u3⟩
                         · have g2 : q' = q := by omega
                           rw [g2] at u2
                           exact absurd u2 nf
                     · rintro (u | ⟨q', u1, u2, u3⟩)
                       · exact Or.inl u
                       · exact Or.inr ⟨q', by omega, u2, u3⟩)
                  | (refine w_keep 6 ?_
                     rw [Int.toNat_natCast]
                     have sO := sF_off s4 (by omega) hb0
                     rw [show (q : Int) + 1 = ((q + 1 : Nat) : Int) by omega]
                     have nf : ¬ fzB I (fun k => rd I 187 k) a b wn (t = 2) q := fun v => by
                       exact qm (by
                         rcases v.2.2.2.1 with u | u
                         · first | exact Or.inl ⟨u.1, rfl⟩ | exact absurd u.2 q1
                         · exact Or.inr ⟨nqa ⟨by show rd (pl I b q) 177 a ≠ 0; rw [pl_rd (by omega), if_neg (by omega), if_neg (by omega), if_neg (by omega)]; exact ha1, by show rd (pl I b q) 177 b ≠ 0; rw [pl_rd (by omega), if_neg (by omega), if_neg (by omega), if_pos ⟨rfl, rfl⟩]; decide⟩ hne ha hb v.2.2.2.2, v.2.2.2.2.1, u⟩)
                     refine ih (q + 1) _ (by omega) (by omega) (sF_mono sO (fun k g => g.elim (fun u => u.1) id)) (rg_cg g4 (fun k => rd_wr_row (by decide)) (fun k => rd_wr_row (by decide))) (BS_cg (by rw [rd_wr_row (by decide), rd_wr_row (by decide), rd_wr_row (by decide), m4 171 21 (by unfold S3; omega), rd_wr_row (by decide), rd_wr_row (by decide), rd_wr_row (by decide), m4 171 22 (by unfold S3; omega), rd_wr_row (by decide), rd_wr_row (by decide), rd_wr_row (by decide), m4 171 23 (by unfold S3; omega), rd_wr_row (by decide), rd_wr_row (by decide), rd_wr_row (by decide)]; exact hb1) (fun x y => ?_))
                     constructor
                     · rintro (u | ⟨q', u1, u2, u3⟩)
                       · exact Or.inl u
                       · by_cases g : q' < q
                         · exact Or.inr ⟨q', g, u2, u3⟩
                         · have g2 : q' = q := by omega
                           rw [g2] at u2
                           exact absurd u2 nf
                     · rintro (u | ⟨q', u1, u2, u3⟩)
                       · exact Or.inl u
                       · exact Or.inr ⟨q', by omega, u2, u3⟩)
                  | (refine w_keep 6 ?_
                     rw [Int.toNat_natCast]
                     have sO := sF_off t5 (by omega) hb0
                     rw [show (q : Int) + 1 = ((q + 1 : Nat) : Int) by omega]
                     have nf : ¬ fzB I (fun k => rd I 187 k) a b wn (t = 2) q := fun v => by
                       exact ql v.2.2.2.2
                     refine ih (q + 1) _ (by omega) (by omega) (sF_mono sO (fun k g => g.elim (fun u => u.1) id)) (rg_cg g5 (fun k => rd_wr_row (by decide)) (fun k => rd_wr_row (by decide))) (BS_cg (by rw [rd_wr_row (by decide), rd_wr_row (by decide), rd_wr_row (by decide), m5 171 21 (by unfold S3; omega), m4 171 21 (by unfold S3; omega), rd_wr_row (by decide), rd_wr_row (by decide), rd_wr_row (by decide), m5 171 22 (by unfold S3; omega), m4 171 22 (by unfold S3; omega), rd_wr_row (by decide), rd_wr_row (by decide), rd_wr_row (by decide), m5 171 23 (by unfold S3; omega), m4 171 23 (by unfold S3; omega), rd_wr_row (by decide), rd_wr_row (by decide), rd_wr_row (by decide)]; exact hb1) (fun x y => ?_))
                     constructor
                     · rintro (u | ⟨q', u1, u2, u3⟩)
                       · exact Or.inl u
                       · by_cases g : q' < q
                         · exact Or.inr ⟨q', g, u2, u3⟩
                         · have g2 : q' = q := by omega
                           rw [g2] at u2
                           exact absurd u2 nf
                     · rintro (u | ⟨q', u1, u2, u3⟩)
                       · exact Or.inl u
                       · exact Or.inr ⟨q', by omega, u2, u3⟩)
                  | (refine w_keep 6 ?_
                     rw [Int.toNat_natCast]
                     rw [show (q : Int) + 1 = ((q + 1 : Nat) : Int) by omega]
                     have sO := sF_off t5 (by omega) hb0
                     refine ih (q + 1) _ (by omega) (by omega) (sF_mono sO (fun k g => g.elim (fun u => u.1) id)) (rg_cg g5 (fun k => rd_wr_row (by decide)) (fun k => rd_wr_row (by decide))) ?_
                     rw [rd_wr_row (by decide), rd_wr_row (by decide), rd_wr_row (by decide), b21, b22, b23]
                     refine BS_cg (BS_no hb1 (hw0 q fz) (by rw [← wv]; exact wb.1) qh) (fun x y => ?_)
                     constructor
                     · rintro (u | ⟨q', u1, u2, u3⟩)
                       · exact Or.inl (Or.inl u)
                       · by_cases g : q' < q
                         · exact Or.inl (Or.inr ⟨q', g, u2, u3⟩)
                         · have g2 : q' = q := by omega
                           rw [g2] at u3
                           exact Or.inr u3
                     · rintro ((u | ⟨q', u1, u2, u3⟩) | u)
                       · exact Or.inl u
                       · exact Or.inr ⟨q', by omega, u2, u3⟩
                       · exact Or.inr ⟨q, by omega, fz, u⟩)
                  | (refine w_keep 6 ?_
                     rw [Int.toNat_natCast]
                     rw [show (q : Int) + 1 = ((q + 1 : Nat) : Int) by omega]
                     have xb : -2147483648 ≤ yy a b p q ∧ yy a b p q < 2147483648 := by unfold yy; split <;> omega
                     have yb : -2147483648 ≤ xx a b p q ∧ xx a b p q < 2147483648 := by unfold xx; split <;> omega
                     have t6 := sF_b (v := wNow I5) (x := xx a b p q) (y := yy a b p q) t5
                     have sO := sF_off t6 (by omega) hb0
                     have g6 : rg (wr (wr (wr I5 171 21 (wNow I5)) 171 22 (xx a b p q)) 171 23 (yy a b p q)) := rg_cg g5 (fun k => by rw [rd_wr_row (by decide), rd_wr_row (by decide), rd_wr_row (by decide)]) (fun k => by rw [rd_wr_row (by decide), rd_wr_row (by decide), rd_wr_row (by decide)])
                     have r21 : rd (wr (wr (wr (wr I5 171 21 (wNow I5)) 171 22 (xx a b p q)) 171 23 (yy a b p q)) 177 b 0) 171 21 = wNow I5 := by rw [rd_wr_row (by decide), rd_wr_ne (by decide), rd_wr_ne (by decide), rd_wr_eq (by omega) (by omega)]
                     have r22 : rd (wr (wr (wr (wr I5 171 21 (wNow I5)) 171 22 (xx a b p q)) 171 23 (yy a b p q)) 177 b 0) 171 22 = xx a b p q := by rw [rd_wr_row (by decide), rd_wr_ne (by decide), rd_wr_eq yb.1 yb.2]
                     have r23 : rd (wr (wr (wr (wr I5 171 21 (wNow I5)) 171 22 (xx a b p q)) 171 23 (yy a b p q)) 177 b 0) 171 23 = yy a b p q := by rw [rd_wr_row (by decide), rd_wr_eq xb.1 xb.2]
                     refine ih (q + 1) _ (by omega) (by omega) (sF_mono sO (fun k g => g.elim (fun u => u.1) id)) (rg_cg g6 (fun k => rd_wr_row (by decide)) (fun k => rd_wr_row (by decide))) ?_
                     rw [r21, r22, r23, wv]
                     refine BS_cg (BS_yes hb1 (hw0 q fz) (by rw [← wv]; exact wb.1) qh) (fun x y => ?_)
                     constructor
                     · rintro (u | ⟨q', u1, u2, u3⟩)
                       · exact Or.inl (Or.inl u)
                       · by_cases g : q' < q
                         · exact Or.inl (Or.inr ⟨q', g, u2, u3⟩)
                         · have g2 : q' = q := by omega
                           rw [g2] at u3
                           exact Or.inr u3
                     · rintro ((u | ⟨q', u1, u2, u3⟩) | u)
                       · exact Or.inl u
                       · exact Or.inr ⟨q', by omega, u2, u3⟩
                       · exact Or.inr ⟨q, by omega, fz, u⟩)
            · refine v_if_eq 102 dX12_seconds_88 (by decide) (by decide) (fun _ => ?_) (fun q => absurd q (by decide))
              refine w_iconst (v := iI 0) dX12_seconds_102 rfl ?_
              refine w_istore dX12_seconds_103 rfl rfl ?_
              refine w_iload dX12_seconds_105 rfl ?_
              refine v_if_eq 119 dX12_seconds_107 (by decide) (by decide) (fun _ => ?_) (fun q => absurd q (by decide))
              refine w_aload_n dX12_seconds_119 rfl ?_
              refine v_getR (j := 177) dX12_seconds_120 fX12_26 ⟨by decide, rfl⟩ rfl rfl ?_
              refine w_iload_n dX12_seconds_123 rfl ?_
              refine w_iconst (v := iI 0) dX12_seconds_124 rfl ?_
              refine v_zast dX12_seconds_125 ⟨by decide, rfl⟩ (by first | omega | (clear h q0; omega) | (clear h q0 q1; omega) | (clear h q0 q1 qm; omega) | (clear h q0 q1 qm ql; omega)) (by first | omega | (clear h q0; omega) | (clear h q0 q1; omega) | (clear h q0 q1 qm; omega) | (clear h q0 q1 qm ql; omega)) (by decide) (by decide) ?_
              refine v_iinc dX12_seconds_126 rfl rfl rfl ?_
              refine w_goto 3 dX12_seconds_129 (by decide) ?_
              first
                | (rw [show (q : Int) + 1 = ((q + 1 : Nat) : Int) by omega]
                   have nf : ¬ fzB I (fun k => rd I 187 k) a b wn (t = 2) q := fun v => by
                     exact qn v.1
                   refine ih (q + 1) _ (by omega) (by omega) hx hg (BS_cg hb1 (fun x y => ?_))
                   constructor
                   · rintro (u | ⟨q', u1, u2, u3⟩)
                     · exact Or.inl u
                     · by_cases g : q' < q
                       · exact Or.inr ⟨q', g, u2, u3⟩
                       · have g2 : q' = q := by omega
                         rw [g2] at u2
                         exact absurd u2 nf
                   · rintro (u | ⟨q', u1, u2, u3⟩)
                     · exact Or.inl u
                     · exact Or.inr ⟨q', by omega, u2, u3⟩)
                | (refine w_keep 6 ?_
                   rw [show (q : Int) + 1 = ((q + 1 : Nat) : Int) by omega]
                   have nf : ¬ fzB I (fun k => rd I 187 k) a b wn (t = 2) q := fun v => by
                     first | exact q0 v.2.1 | exact v.2.2.1.elim (fun u => by clear q0 q1 v h; omega) q1
                   refine ih (q + 1) _ (by omega) (by omega) (fun id k g => by
                     have g1 : ¬ (id = 178 ∧ k = b) := fun u => g (Or.inr (Or.inr ⟨Or.inl u.1, u.2⟩))
                     have g2 : ¬ (id = 179 ∧ k = b) := fun u => g (Or.inr (Or.inr ⟨Or.inr u.1, u.2⟩))
                     rw [rd_wr_ne g2, rd_wr_ne g1]; exact hx id k g) g2 (BS_cg (by rw [rd_wr_row (by decide), rd_wr_row (by decide), rd_wr_row (by decide), rd_wr_row (by decide), rd_wr_row (by decide), rd_wr_row (by decide)]; exact hb1) (fun x y => ?_))
                   constructor
                   · rintro (u | ⟨q', u1, u2, u3⟩)
                     · exact Or.inl u
                     · by_cases g : q' < q
                       · exact Or.inr ⟨q', g, u2, u3⟩
                       · have g2 : q' = q := by omega
                         rw [g2] at u2
                         exact absurd u2 nf
                   · rintro (u | ⟨q', u1, u2, u3⟩)
                     · exact Or.inl u
                     · exact Or.inr ⟨q', by omega, u2, u3⟩)
                | (refine w_keep 6 ?_
                   rw [Int.toNat_natCast]
                   have sO := sF_off s4 (by omega) hb0
                   rw [show (q : Int) + 1 = ((q + 1 : Nat) : Int) by omega]
                   have nf : ¬ fzB I (fun k => rd I 187 k) a b wn (t = 2) q := fun v => by
                     exact qm (by
                       rcases v.2.2.2.1 with u | u
                       · first | exact Or.inl ⟨u.1, rfl⟩ | exact absurd u.2 q1
                       · exact Or.inr ⟨nqa ⟨by show rd (pl I b q) 177 a ≠ 0; rw [pl_rd (by omega), if_neg (by omega), if_neg (by omega), if_neg (by omega)]; exact ha1, by show rd (pl I b q) 177 b ≠ 0; rw [pl_rd (by omega), if_neg (by omega), if_neg (by omega), if_pos ⟨rfl, rfl⟩]; decide⟩ hne ha hb v.2.2.2.2, v.2.2.2.2.1, u⟩)
                   refine ih (q + 1) _ (by omega) (by omega) (sF_mono sO (fun k g => g.elim (fun u => u.1) id)) (rg_cg g4 (fun k => rd_wr_row (by decide)) (fun k => rd_wr_row (by decide))) (BS_cg (by rw [rd_wr_row (by decide), rd_wr_row (by decide), rd_wr_row (by decide), m4 171 21 (by unfold S3; omega), rd_wr_row (by decide), rd_wr_row (by decide), rd_wr_row (by decide), m4 171 22 (by unfold S3; omega), rd_wr_row (by decide), rd_wr_row (by decide), rd_wr_row (by decide), m4 171 23 (by unfold S3; omega), rd_wr_row (by decide), rd_wr_row (by decide), rd_wr_row (by decide)]; exact hb1) (fun x y => ?_))
                   constructor
                   · rintro (u | ⟨q', u1, u2, u3⟩)
                     · exact Or.inl u
                     · by_cases g : q' < q
                       · exact Or.inr ⟨q', g, u2, u3⟩
                       · have g2 : q' = q := by omega
                         rw [g2] at u2
                         exact absurd u2 nf
                   · rintro (u | ⟨q', u1, u2, u3⟩)
                     · exact Or.inl u
                     · exact Or.inr ⟨q', by omega, u2, u3⟩)
                | (refine w_keep 6 ?_
                   rw [Int.toNat_natCast]
                   have sO := sF_off t5 (by omega) hb0
                   rw [show (q : Int) + 1 = ((q + 1 : Nat) : Int) by omega]
                   have nf : ¬ fzB I (fun k => rd I 187 k) a b wn (t = 2) q := fun v => by
                     exact ql v.2.2.2.2
                   refine ih (q + 1) _ (by omega) (by omega) (sF_mono sO (fun k g => g.elim (fun u => u.1) id)) (rg_cg g5 (fun k => rd_wr_row (by decide)) (fun k => rd_wr_row (by decide))) (BS_cg (by rw [rd_wr_row (by decide), rd_wr_row (by decide), rd_wr_row (by decide), m5 171 21 (by unfold S3; omega), m4 171 21 (by unfold S3; omega), rd_wr_row (by decide), rd_wr_row (by decide), rd_wr_row (by decide), m5 171 22 (by unfold S3; omega), m4 171 22 (by unfold S3; omega), rd_wr_row (by decide), rd_wr_row (by decide), rd_wr_row (by decide), m5 171 23 (by unfold S3; omega), m4 171 23 (by unfold S3; omega), rd_wr_row (by decide), rd_wr_row (by decide), rd_wr_row (by decide)]; exact hb1) (fun x y => ?_))
                   constructor
                   · rintro (u | ⟨q', u1, u2, u3⟩)
                     · exact Or.inl u
                     · by_cases g : q' < q
                       · exact Or.inr ⟨q', g, u2, u3⟩
                       · have g2 : q' = q := by omega
                         rw [g2] at u2
                         exact absurd u2 nf
                   · rintro (u | ⟨q', u1, u2, u3⟩)
                     · exact Or.inl u
                     · exact Or.inr ⟨q', by omega, u2, u3⟩)
                | (refine w_keep 6 ?_
                   rw [Int.toNat_natCast]
                   rw [show (q : Int) + 1 = ((q + 1 : Nat) : Int) by omega]
                   have sO := sF_off t5 (by omega) hb0
                   refine ih (q + 1) _ (by omega) (by omega) (sF_mono sO (fun k g => g.elim (fun u => u.1) id)) (rg_cg g5 (fun k => rd_wr_row (by decide)) (fun k => rd_wr_row (by decide))) ?_
                   rw [rd_wr_row (by decide), rd_wr_row (by decide), rd_wr_row (by decide), b21, b22, b23]
                   refine BS_cg (BS_no hb1 (hw0 q fz) (by rw [← wv]; exact wb.1) qh) (fun x y => ?_)
                   constructor
                   · rintro (u | ⟨q', u1, u2, u3⟩)
                     · exact Or.inl (Or.inl u)
                     · by_cases g : q' < q
                       · exact Or.inl (Or.inr ⟨q', g, u2, u3⟩)
                       · have g2 : q' = q := by omega
                         rw [g2] at u3
                         exact Or.inr u3
                   · rintro ((u | ⟨q', u1, u2, u3⟩) | u)
                     · exact Or.inl u
                     · exact Or.inr ⟨q', by omega, u2, u3⟩
                     · exact Or.inr ⟨q, by omega, fz, u⟩)
                | (refine w_keep 6 ?_
                   rw [Int.toNat_natCast]
                   rw [show (q : Int) + 1 = ((q + 1 : Nat) : Int) by omega]
                   have xb : -2147483648 ≤ yy a b p q ∧ yy a b p q < 2147483648 := by unfold yy; split <;> omega
                   have yb : -2147483648 ≤ xx a b p q ∧ xx a b p q < 2147483648 := by unfold xx; split <;> omega
                   have t6 := sF_b (v := wNow I5) (x := xx a b p q) (y := yy a b p q) t5
                   have sO := sF_off t6 (by omega) hb0
                   have g6 : rg (wr (wr (wr I5 171 21 (wNow I5)) 171 22 (xx a b p q)) 171 23 (yy a b p q)) := rg_cg g5 (fun k => by rw [rd_wr_row (by decide), rd_wr_row (by decide), rd_wr_row (by decide)]) (fun k => by rw [rd_wr_row (by decide), rd_wr_row (by decide), rd_wr_row (by decide)])
                   have r21 : rd (wr (wr (wr (wr I5 171 21 (wNow I5)) 171 22 (xx a b p q)) 171 23 (yy a b p q)) 177 b 0) 171 21 = wNow I5 := by rw [rd_wr_row (by decide), rd_wr_ne (by decide), rd_wr_ne (by decide), rd_wr_eq (by omega) (by omega)]
                   have r22 : rd (wr (wr (wr (wr I5 171 21 (wNow I5)) 171 22 (xx a b p q)) 171 23 (yy a b p q)) 177 b 0) 171 22 = xx a b p q := by rw [rd_wr_row (by decide), rd_wr_ne (by decide), rd_wr_eq yb.1 yb.2]
                   have r23 : rd (wr (wr (wr (wr I5 171 21 (wNow I5)) 171 22 (xx a b p q)) 171 23 (yy a b p q)) 177 b 0) 171 23 = yy a b p q := by rw [rd_wr_row (by decide), rd_wr_eq xb.1 xb.2]
                   refine ih (q + 1) _ (by omega) (by omega) (sF_mono sO (fun k g => g.elim (fun u => u.1) id)) (rg_cg g6 (fun k => rd_wr_row (by decide)) (fun k => rd_wr_row (by decide))) ?_
                   rw [r21, r22, r23, wv]
                   refine BS_cg (BS_yes hb1 (hw0 q fz) (by rw [← wv]; exact wb.1) qh) (fun x y => ?_)
                   constructor
                   · rintro (u | ⟨q', u1, u2, u3⟩)
                     · exact Or.inl (Or.inl u)
                     · by_cases g : q' < q
                       · exact Or.inl (Or.inr ⟨q', g, u2, u3⟩)
                       · have g2 : q' = q := by omega
                         rw [g2] at u3
                         exact Or.inr u3
                   · rintro ((u | ⟨q', u1, u2, u3⟩) | u)
                     · exact Or.inl u
                     · exact Or.inr ⟨q', by omega, u2, u3⟩
                     · exact Or.inr ⟨q, by omega, fz, u⟩)
      · refine v_if_ne 22 dX12_seconds_16 (by decide) (by decide) (fun q => absurd q (by decide)) (fun _ => ?_)
        refine w_goto 126 dX12_seconds_19 (by decide) ?_
        refine v_iinc dX12_seconds_126 rfl rfl rfl ?_
        refine w_goto 3 dX12_seconds_129 (by decide) ?_
        first
          | (rw [show (q : Int) + 1 = ((q + 1 : Nat) : Int) by omega]
             have nf : ¬ fzB I (fun k => rd I 187 k) a b wn (t = 2) q := fun v => by
               exact qn v.1
             refine ih (q + 1) _ (by omega) (by omega) hx hg (BS_cg hb1 (fun x y => ?_))
             constructor
             · rintro (u | ⟨q', u1, u2, u3⟩)
               · exact Or.inl u
               · by_cases g : q' < q
                 · exact Or.inr ⟨q', g, u2, u3⟩
                 · have g2 : q' = q := by omega
                   rw [g2] at u2
                   exact absurd u2 nf
             · rintro (u | ⟨q', u1, u2, u3⟩)
               · exact Or.inl u
               · exact Or.inr ⟨q', by omega, u2, u3⟩)
          | (refine w_keep 6 ?_
             rw [show (q : Int) + 1 = ((q + 1 : Nat) : Int) by omega]
             have nf : ¬ fzB I (fun k => rd I 187 k) a b wn (t = 2) q := fun v => by
               first | exact q0 v.2.1 | exact v.2.2.1.elim (fun u => by clear q0 q1 v h; omega) q1
             refine ih (q + 1) _ (by omega) (by omega) (fun id k g => by
               have g1 : ¬ (id = 178 ∧ k = b) := fun u => g (Or.inr (Or.inr ⟨Or.inl u.1, u.2⟩))
               have g2 : ¬ (id = 179 ∧ k = b) := fun u => g (Or.inr (Or.inr ⟨Or.inr u.1, u.2⟩))
               rw [rd_wr_ne g2, rd_wr_ne g1]; exact hx id k g) g2 (BS_cg (by rw [rd_wr_row (by decide), rd_wr_row (by decide), rd_wr_row (by decide), rd_wr_row (by decide), rd_wr_row (by decide), rd_wr_row (by decide)]; exact hb1) (fun x y => ?_))
             constructor
             · rintro (u | ⟨q', u1, u2, u3⟩)
               · exact Or.inl u
               · by_cases g : q' < q
                 · exact Or.inr ⟨q', g, u2, u3⟩
                 · have g2 : q' = q := by omega
                   rw [g2] at u2
                   exact absurd u2 nf
             · rintro (u | ⟨q', u1, u2, u3⟩)
               · exact Or.inl u
               · exact Or.inr ⟨q', by omega, u2, u3⟩)
          | (refine w_keep 6 ?_
             rw [Int.toNat_natCast]
             have sO := sF_off s4 (by omega) hb0
             rw [show (q : Int) + 1 = ((q + 1 : Nat) : Int) by omega]
             have nf : ¬ fzB I (fun k => rd I 187 k) a b wn (t = 2) q := fun v => by
               exact qm (by
                 rcases v.2.2.2.1 with u | u
                 · first | exact Or.inl ⟨u.1, rfl⟩ | exact absurd u.2 q1
                 · exact Or.inr ⟨nqa ⟨by show rd (pl I b q) 177 a ≠ 0; rw [pl_rd (by omega), if_neg (by omega), if_neg (by omega), if_neg (by omega)]; exact ha1, by show rd (pl I b q) 177 b ≠ 0; rw [pl_rd (by omega), if_neg (by omega), if_neg (by omega), if_pos ⟨rfl, rfl⟩]; decide⟩ hne ha hb v.2.2.2.2, v.2.2.2.2.1, u⟩)
             refine ih (q + 1) _ (by omega) (by omega) (sF_mono sO (fun k g => g.elim (fun u => u.1) id)) (rg_cg g4 (fun k => rd_wr_row (by decide)) (fun k => rd_wr_row (by decide))) (BS_cg (by rw [rd_wr_row (by decide), rd_wr_row (by decide), rd_wr_row (by decide), m4 171 21 (by unfold S3; omega), rd_wr_row (by decide), rd_wr_row (by decide), rd_wr_row (by decide), m4 171 22 (by unfold S3; omega), rd_wr_row (by decide), rd_wr_row (by decide), rd_wr_row (by decide), m4 171 23 (by unfold S3; omega), rd_wr_row (by decide), rd_wr_row (by decide), rd_wr_row (by decide)]; exact hb1) (fun x y => ?_))
             constructor
             · rintro (u | ⟨q', u1, u2, u3⟩)
               · exact Or.inl u
               · by_cases g : q' < q
                 · exact Or.inr ⟨q', g, u2, u3⟩
                 · have g2 : q' = q := by omega
                   rw [g2] at u2
                   exact absurd u2 nf
             · rintro (u | ⟨q', u1, u2, u3⟩)
               · exact Or.inl u
               · exact Or.inr ⟨q', by omega, u2, u3⟩)
          | (refine w_keep 6 ?_
             rw [Int.toNat_natCast]
             have sO := sF_off t5 (by omega) hb0
             rw [show (q : Int) + 1 = ((q + 1 : Nat) : Int) by omega]
             have nf : ¬ fzB I (fun k => rd I 187 k) a b wn (t = 2) q := fun v => by
               exact ql v.2.2.2.2
             refine ih (q + 1) _ (by omega) (by omega) (sF_mono sO (fun k g => g.elim (fun u => u.1) id)) (rg_cg g5 (fun k => rd_wr_row (by decide)) (fun k => rd_wr_row (by decide))) (BS_cg (by rw [rd_wr_row (by decide), rd_wr_row (by decide), rd_wr_row (by decide), m5 171 21 (by unfold S3; omega), m4 171 21 (by unfold S3; omega), rd_wr_row (by decide), rd_wr_row (by decide), rd_wr_row (by decide), m5 171 22 (by unfold S3; omega), m4 171 22 (by unfold S3; omega), rd_wr_row (by decide), rd_wr_row (by decide), rd_wr_row (by decide), m5 171 23 (by unfold S3; omega), m4 171 23 (by unfold S3; omega), rd_wr_row (by decide), rd_wr_row (by decide), rd_wr_row (by decide)]; exact hb1) (fun x y => ?_))
             constructor
             · rintro (u | ⟨q', u1, u2, u3⟩)
               · exact Or.inl u
               · by_cases g : q' < q
                 · exact Or.inr ⟨q', g, u2, u3⟩
                 · have g2 : q' = q := by omega
                   rw [g2] at u2
                   exact absurd u2 nf
             · rintro (u | ⟨q', u1, u2, u3⟩)
               · exact Or.inl u
               · exact Or.inr ⟨q', by omega, u2, u3⟩)
          | (refine w_keep 6 ?_
             rw [Int.toNat_natCast]
             rw [show (q : Int) + 1 = ((q + 1 : Nat) : Int) by omega]
             have sO := sF_off t5 (by omega) hb0
             refine ih (q + 1) _ (by omega) (by omega) (sF_mono sO (fun k g => g.elim (fun u => u.1) id)) (rg_cg g5 (fun k => rd_wr_row (by decide)) (fun k => rd_wr_row (by decide))) ?_
             rw [rd_wr_row (by decide), rd_wr_row (by decide), rd_wr_row (by decide), b21, b22, b23]
             refine BS_cg (BS_no hb1 (hw0 q fz) (by rw [← wv]; exact wb.1) qh) (fun x y => ?_)
             constructor
             · rintro (u | ⟨q', u1, u2, u3⟩)
               · exact Or.inl (Or.inl u)
               · by_cases g : q' < q
                 · exact Or.inl (Or.inr ⟨q', g, u2, u3⟩)
                 · have g2 : q' = q := by omega
                   rw [g2] at u3
                   exact Or.inr u3
             · rintro ((u | ⟨q', u1, u2, u3⟩) | u)
               · exact Or.inl u
               · exact Or.inr ⟨q', by omega, u2, u3⟩
               · exact Or.inr ⟨q, by omega, fz, u⟩)
          | (refine w_keep 6 ?_
             rw [Int.toNat_natCast]
             rw [show (q : Int) + 1 = ((q + 1 : Nat) : Int) by omega]
             have xb : -2147483648 ≤ yy a b p q ∧ yy a b p q < 2147483648 := by unfold yy; split <;> omega
             have yb : -2147483648 ≤ xx a b p q ∧ xx a b p q < 2147483648 := by unfold xx; split <;> omega
             have t6 := sF_b (v := wNow I5) (x := xx a b p q) (y := yy a b p q) t5
             have sO := sF_off t6 (by omega) hb0
             have g6 : rg (wr (wr (wr I5 171 21 (wNow I5)) 171 22 (xx a b p q)) 171 23 (yy a b p q)) := rg_cg g5 (fun k => by rw [rd_wr_row (by decide), rd_wr_row (by decide), rd_wr_row (by decide)]) (fun k => by rw [rd_wr_row (by decide), rd_wr_row (by decide), rd_wr_row (by decide)])
             have r21 : rd (wr (wr (wr (wr I5 171 21 (wNow I5)) 171 22 (xx a b p q)) 171 23 (yy a b p q)) 177 b 0) 171 21 = wNow I5 := by rw [rd_wr_row (by decide), rd_wr_ne (by decide), rd_wr_ne (by decide), rd_wr_eq (by omega) (by omega)]
             have r22 : rd (wr (wr (wr (wr I5 171 21 (wNow I5)) 171 22 (xx a b p q)) 171 23 (yy a b p q)) 177 b 0) 171 22 = xx a b p q := by rw [rd_wr_row (by decide), rd_wr_ne (by decide), rd_wr_eq yb.1 yb.2]
             have r23 : rd (wr (wr (wr (wr I5 171 21 (wNow I5)) 171 22 (xx a b p q)) 171 23 (yy a b p q)) 177 b 0) 171 23 = yy a b p q := by rw [rd_wr_row (by decide), rd_wr_eq xb.1 xb.2]
             refine ih (q + 1) _ (by omega) (by omega) (sF_mono sO (fun k g => g.elim (fun u => u.1) id)) (rg_cg g6 (fun k => rd_wr_row (by decide)) (fun k => rd_wr_row (by decide))) ?_
             rw [r21, r22, r23, wv]
             refine BS_cg (BS_yes hb1 (hw0 q fz) (by rw [← wv]; exact wb.1) qh) (fun x y => ?_)
             constructor
             · rintro (u | ⟨q', u1, u2, u3⟩)
               · exact Or.inl (Or.inl u)
               · by_cases g : q' < q
                 · exact Or.inl (Or.inr ⟨q', g, u2, u3⟩)
                 · have g2 : q' = q := by omega
                   rw [g2] at u3
                   exact Or.inr u3
             · rintro ((u | ⟨q', u1, u2, u3⟩) | u)
               · exact Or.inl u
               · exact Or.inr ⟨q', by omega, u2, u3⟩
               · exact Or.inr ⟨q, by omega, fz, u⟩)
theorem x12_seconds {I : Nat → Nat → Int32} {J : Nat → Nat → Int64} {F : Option Value → zM → Prop} (hrg : rg I) {wn : Nat} (hw : rd I 171 12 = wn) (hw2 : wn ≤ 12) (hsz : ∀ w, w < wn → 1 ≤ rd I 183 w ∧ rd I 183 w ≤ 10) {a b : Nat} (ha : a < 10) (hb : b < 10) (hb0 : rd I 177 b = 0) (hne : a ≠ b) (ha1 : rd I 177 a ≠ 0) {p t : Int} (bp : -2147483648 ≤ p ∧ p < 2147483648) (htt : t = 1 ∨ t = 2) {S0 : Int → Int → Prop} {w : Int → Int → Int} (hw0 : ∀ q, fzB I (fun k => rd I 187 k) a b wn (t = 2) q → w (xx a b p q) (yy a b p q) = wA (pl I b q)) (hbs : BS (rd I 171 21) (rd I 171 22) (rd I 171 23) S0 w) (h : ∀ I', sF (fun k => k = b) I I' → rg I' → BS (rd I' 171 21) (rd I' 171 22) (rd I' 171 23) (fun x y => S0 x y ∨ ∃ q' : Int, fzB I (fun k => rd I 187 k) a b wn (t = 2) q' ∧ x = xx a b p q' ∧ y = yy a b p q') w → F none (gM I' J)) : Cl yX12_seconds kX12_seconds [.ref 171, .int (iI (a : Int)), .int (iI (b : Int)), .int (iI p), .int (iI t)] (gM I J) F := by
  refine cl_s (by decide) (by decide) (Nat.le_of_ble_eq_true rfl) rt_v ?_
  show Wp _ F 0 [(0, .ref 171), (1, .int (iI (a : Int))), (2, .int (iI (b : Int))), (3, .int (iI p)), (4, .int (iI t))] [] _
  refine w_iconst (v := iI 0) dX12_seconds_0 rfl ?_
  refine w_istore dX12_seconds_1 rfl rfl ?_
  refine x12_seconds_l hrg hw hw2 hsz ha hb hb0 hne ha1 bp htt hw0 hbs h 1345 0 I (by omega) (by omega) (fun _ _ _ => rfl) hrg (BS_cg hbs (fun x y => ?_))
  constructor
  · rintro (u | ⟨q', u1, u2, u3⟩)
    · exact u
    · have := nx_bd u2.1; omega
  · exact Or.inl
