/-! a BIT of the class becomes what the tape tells -/
def AC (I I' : Nat → Nat → Int32) (b n r c : Nat) (s : Int) : Prop := (∀ k, rd I' (bI b 1) k = if k = 10 * r + c then s else rd I (bI b 1) k) ∧ (∀ k, rd I' (bI b 2) k = if k = n then (r : Int) else rd I (bI b 2) k) ∧ (∀ k, rd I' (bI b 3) k = if k = n then (c : Int) else rd I (bI b 3) k) ∧ (∀ k, rd I' (bI b 4) k = if k = r ∧ rd I (bI b 4) r = -1 then (c : Int) else rd I (bI b 4) k) ∧ (∀ k, rd I' (bI b 5) k = if k = r then (c : Int) else rd I (bI b 5) k) ∧ (∀ k, rd I' (bI b 8) k = if k = r then 1 else rd I (bI b 8) k) ∧ (∀ k, rd I' (bI b 11) k = if k = c then 1 else rd I (bI b 11) k) ∧ rd I' (bI b 0) 4 = (n : Int) + 1 ∧ rd I' (bI b 0) 7 = (if isTx s ∧ rd I (bI b 0) 7 = -1 then (n : Int) else rd I (bI b 0) 7) ∧ rd I' (bI b 0) 8 = (if isTx s ∧ rd I (bI b 0) 8 < c then (c : Int) else rd I (bI b 0) 8) ∧ fq (fun id k => id = bI b 1 ∨ id = bI b 2 ∨ id = bI b 3 ∨ id = bI b 4 ∨ id = bI b 5 ∨ id = bI b 8 ∨ id = bI b 11 ∨ (id = bI b 0 ∧ (k = 4 ∨ k = 7 ∨ k = 8))) I I'

theorem x0_isSign {I : Nat → Nat → Int32} {J : Nat → Nat → Int64} {F : Option Value → zM → Prop} {s : Int} (bs : -2147483648 ≤ s ∧ s < 2147483648) (hy : isSg s ∨ s = 59 → F (some (.int (iI 1))) (gM I J)) (hn : ¬ (isSg s ∨ s = 59) → F (some (.int (iI 0))) (gM I J)) : Cl yX0_isSign kX0_isSign [.int (iI s)] (gM I J) F := by
  refine cl_s (by decide) (by decide) (Nat.le_of_ble_eq_true rfl) rt_z ?_
  show Wp _ F 0 [(0, .int (iI s))] [] _
  refine w_iload_n dX0_isSign_0 rfl ?_
  refine v_callSN1 dX0_isSign_1 lX0_58 vX11_isText (by decide) rfl rfl (Nat.le_of_ble_eq_true rfl) ?_
  refine x11_isText (by omega) (fun q1 => ?_) (fun q1 => ?_)
  · refine v_if_ne 25 dX0_isSign_4 (by decide) (by decide) (fun _ => ?_) (fun q => absurd q (by decide))
    refine w_iconst (v := iI 1) dX0_isSign_25 rfl ?_
    refine w_goto 30 dX0_isSign_26 (by decide) ?_
    refine v_zret dX0_isSign_30 rfl ⟨rfl, rfl⟩ (by decide) ?_
    first | exact hy (by omega) | exact hn (by omega)
  · refine v_if_ne 25 dX0_isSign_4 (by decide) (by decide) (fun q => absurd q (by decide)) (fun _ => ?_)
    refine w_iload_n dX0_isSign_7 rfl ?_
    refine w_bipush (v := iI 44) dX0_isSign_8 (by decide) ?_
    refine v_icmp_eq 25 dX0_isSign_10 (by decide) (by omega) (by omega) (fun c10 => ?_) (fun c10 => ?_)
    · refine w_iconst (v := iI 1) dX0_isSign_25 rfl ?_
      refine w_goto 30 dX0_isSign_26 (by decide) ?_
      refine v_zret dX0_isSign_30 rfl ⟨rfl, rfl⟩ (by decide) ?_
      first | exact hy (by omega) | exact hn (by omega)
    · refine w_iload_n dX0_isSign_13 rfl ?_
      refine w_bipush (v := iI 95) dX0_isSign_14 (by decide) ?_
      refine v_icmp_eq 25 dX0_isSign_16 (by decide) (by omega) (by omega) (fun c16 => ?_) (fun c16 => ?_)
      · refine w_iconst (v := iI 1) dX0_isSign_25 rfl ?_
        refine w_goto 30 dX0_isSign_26 (by decide) ?_
        refine v_zret dX0_isSign_30 rfl ⟨rfl, rfl⟩ (by decide) ?_
        first | exact hy (by omega) | exact hn (by omega)
      · refine w_iload_n dX0_isSign_19 rfl ?_
        refine w_bipush (v := iI 59) dX0_isSign_20 (by decide) ?_
        refine v_icmp_ne 29 dX0_isSign_22 (by decide) (by omega) (by omega) (fun c22 => ?_) (fun c22 => ?_)
        · refine w_iconst (v := iI 0) dX0_isSign_29 rfl ?_
          refine v_zret dX0_isSign_30 rfl ⟨rfl, rfl⟩ (by decide) ?_
          first | exact hy (by omega) | exact hn (by omega)
        · refine w_iconst (v := iI 1) dX0_isSign_25 rfl ?_
          refine w_goto 30 dX0_isSign_26 (by decide) ?_
          refine v_zret dX0_isSign_30 rfl ⟨rfl, rfl⟩ (by decide) ?_
          first | exact hy (by omega) | exact hn (by omega)
theorem x0_cellsTold_l {I : Nat → Nat → Int32} {J : Nat → Nat → Int64} {F : Option Value → zM → Prop} {t : Nat} (ht : rd I 1 1 = t) (ht2 : t ≤ 200) (hn : ¬ ((∀ j, j < t → pB (fun k => rd I 2 k) j) ∧ 0 < pM (fun k => rd I 2 k) t) → F (some (.int (iI (-1)))) (gM I J)) (hy : (∀ j, j < t → pB (fun k => rd I 2 k) j) → 0 < pM (fun k => rd I 2 k) t → F (some (.int (iI (pM (fun k => rd I 2 k) t : Int)))) (gM I J)) : ∀ (nz : Nat) (j : Nat), t - j < nz → j ≤ t → (∀ i, i < j → pB (fun k => rd I 2 k) i) → Wp (sE kX0_cellsTold RX0) F 9 [(0, .ref 1), (1, .int (iI (pR (fun k => rd I 2 k) j : Int))), (2, .int (iI (pK (fun k => rd I 2 k) j : Int))), (3, .int (iI (pM (fun k => rd I 2 k) j : Int))), (4, .int (iI (j : Int)))] [] (gM I J) := by
  intro nz
  induction nz with
  | zero =>
    intro j hmz hj hok
    exact absurd hmz (Nat.not_lt_zero _)
  | succ nz ih =>
    intro j hmz hj hok
    have pb := pOk_bd hok
    refine w_iload dX0_cellsTold_9 rfl ?_
    refine w_aload_n dX0_cellsTold_11 rfl ?_
    refine v_getI dX0_cellsTold_12 fX0_46 ⟨by decide, rfl⟩ (Or.inl rfl) (fun z12 e12 b12 => ?_)
    have f12 : z12 = t := by rw [e12]; exact ht
    refine v_icmp_ge 82 dX0_cellsTold_15 (by decide) (by omega) (by omega) (fun c15 => ?_) (fun c15 => ?_)
    · refine w_iload_n dX0_cellsTold_82 rfl ?_
      refine v_if_le 90 dX0_cellsTold_83 (by decide) (by omega) (fun c83 => ?_) (fun c83 => ?_)
      · refine w_iconst (v := iI (-1)) dX0_cellsTold_90 rfl ?_
        refine v_iret dX0_cellsTold_91 rfl ⟨rfl, rfl⟩ ?_
        have g : j = t := by omega
        subst g
        first | exact hn (fun g => by omega) | exact hy hok (by omega)
      · refine w_iload_n dX0_cellsTold_86 rfl ?_
        refine w_goto 91 dX0_cellsTold_87 (by decide) ?_
        refine v_iret dX0_cellsTold_91 rfl ⟨rfl, rfl⟩ ?_
        have g : j = t := by omega
        subst g
        first | exact hn (fun g => by omega) | exact hy hok (by omega)
    · refine w_aload_n dX0_cellsTold_18 rfl ?_
      refine v_getR (j := 2) dX0_cellsTold_19 fX0_51 ⟨by decide, rfl⟩ rfl rfl ?_
      refine w_iload dX0_cellsTold_22 rfl ?_
      refine v_iald dX0_cellsTold_24 ⟨by decide, rfl⟩ (by omega) (by omega) (by decide) (fun z24 e24 b24 => ?_)
      have f24 : z24 = rd I 2 j := by rw [e24]; congr 1
      refine w_istore dX0_cellsTold_25 rfl rfl ?_
      refine w_iload dX0_cellsTold_27 rfl ?_
      refine w_bipush (v := iI 59) dX0_cellsTold_29 (by decide) ?_
      refine v_icmp_ne 42 dX0_cellsTold_31 (by decide) (by omega) (by omega) (fun c31 => ?_) (fun c31 => ?_)
      · refine v_iinc dX0_cellsTold_42 rfl rfl rfl ?_
        refine w_iload dX0_cellsTold_45 rfl ?_
        refine w_bipush (v := iI 95) dX0_cellsTold_47 (by decide) ?_
        refine v_icmp_eq 55 dX0_cellsTold_49 (by decide) (by omega) (by omega) (fun c49 => ?_) (fun c49 => ?_)
        · refine w_iload_n dX0_cellsTold_55 rfl ?_
          refine w_iconst (v := iI 5) dX0_cellsTold_56 rfl ?_
          refine v_icmp_ge 74 dX0_cellsTold_57 (by decide) (by omega) (by omega) (fun c57 => ?_) (fun c57 => ?_)
          · refine w_iconst (v := iI (-1)) dX0_cellsTold_74 rfl ?_
            refine v_iret dX0_cellsTold_75 rfl ⟨rfl, rfl⟩ ?_
            refine hn (fun g => ?_)
            have g1 := g.1 j (by omega)
            unfold pB at g1
            (try dsimp only at g1)
            rw [← f24] at g1
            omega
          · refine w_iload_n dX0_cellsTold_60 rfl ?_
            refine w_bipush (v := iI 10) dX0_cellsTold_61 (by decide) ?_
            refine v_icmp_gt 74 dX0_cellsTold_63 (by decide) (by omega) (by omega) (fun c63 => ?_) (fun c63 => ?_)
            · refine w_iconst (v := iI (-1)) dX0_cellsTold_74 rfl ?_
              refine v_iret dX0_cellsTold_75 rfl ⟨rfl, rfl⟩ ?_
              refine hn (fun g => ?_)
              have g1 := g.1 j (by omega)
              unfold pB at g1
              (try dsimp only at g1)
              rw [← f24] at g1
              omega
            · refine w_iload dX0_cellsTold_66 rfl ?_
              refine v_callS1 dX0_cellsTold_68 lX0_54 vX0_isSign (by decide) rfl rfl (Nat.le_of_ble_eq_true rfl) ?_
              refine x0_isSign (by omega) (fun q68 => ?_) (fun q68 => ?_)
              · refine v_if_ne 76 dX0_cellsTold_71 (by decide) (by decide) (fun _ => ?_) (fun q => absurd q (by decide))
                refine v_iinc dX0_cellsTold_76 rfl rfl rfl ?_
                refine w_goto 9 dX0_cellsTold_79 (by decide) ?_
                refine w_keep 5 ?_
                have hb1 : pB (fun k => rd I 2 k) j := by
                  unfold pB
                  (try dsimp only)
                  rw [← f24]
                  omega
                have hok' : ∀ i, i < j + 1 → pB (fun k => rd I 2 k) i := fun i hi => by
                  rcases Nat.lt_succ_iff_lt_or_eq.mp hi with g | g
                  · exact hok i g
                  · subst g; exact hb1
                have L := ih (j + 1) (by omega) (by omega) hok'
                have u1 : (pR (fun k => rd I 2 k) (j + 1) : Int) = if z24 = 59 then (pR (fun k => rd I 2 k) j : Int) + 1 else pR (fun k => rd I 2 k) j := by
                  rw [pR, f24]; split <;> rfl
                have u2 : (pK (fun k => rd I 2 k) (j + 1) : Int) = if z24 = 59 then 0 else (pK (fun k => rd I 2 k) j : Int) + 1 := by
                  rw [pK, f24]; split <;> rfl
                have u3 : (pM (fun k => rd I 2 k) (j + 1) : Int) = if z24 = 59 ∨ z24 = 95 then (pM (fun k => rd I 2 k) j : Int) else pM (fun k => rd I 2 k) j + 1 := by
                  rw [pM, f24]; split <;> rfl
                rw [u1, u2, u3] at L
                first
                  | (rw [if_pos (by omega), if_pos (by omega), if_pos (by omega)] at L; exact L)
                  | (rw [if_neg (by omega), if_neg (by omega), if_pos (by omega)] at L; exact L)
                  | (rw [if_neg (by omega), if_neg (by omega), if_neg (by omega)] at L; exact L)
              · refine v_if_ne 76 dX0_cellsTold_71 (by decide) (by decide) (fun q => absurd q (by decide)) (fun _ => ?_)
                refine w_iconst (v := iI (-1)) dX0_cellsTold_74 rfl ?_
                refine v_iret dX0_cellsTold_75 rfl ⟨rfl, rfl⟩ ?_
                refine hn (fun g => ?_)
                have g1 := g.1 j (by omega)
                unfold pB at g1
                (try dsimp only at g1)
                rw [← f24] at g1
                omega
        · refine v_iinc dX0_cellsTold_52 rfl rfl rfl ?_
          refine w_iload_n dX0_cellsTold_55 rfl ?_
          refine w_iconst (v := iI 5) dX0_cellsTold_56 rfl ?_
          refine v_icmp_ge 74 dX0_cellsTold_57 (by decide) (by omega) (by omega) (fun c57 => ?_) (fun c57 => ?_)
          · refine w_iconst (v := iI (-1)) dX0_cellsTold_74 rfl ?_
            refine v_iret dX0_cellsTold_75 rfl ⟨rfl, rfl⟩ ?_
            refine hn (fun g => ?_)
            have g1 := g.1 j (by omega)
            unfold pB at g1
            (try dsimp only at g1)
            rw [← f24] at g1
            omega
          · refine w_iload_n dX0_cellsTold_60 rfl ?_
            refine w_bipush (v := iI 10) dX0_cellsTold_61 (by decide) ?_
            refine v_icmp_gt 74 dX0_cellsTold_63 (by decide) (by omega) (by omega) (fun c63 => ?_) (fun c63 => ?_)
            · refine w_iconst (v := iI (-1)) dX0_cellsTold_74 rfl ?_
              refine v_iret dX0_cellsTold_75 rfl ⟨rfl, rfl⟩ ?_
              refine hn (fun g => ?_)
              have g1 := g.1 j (by omega)
              unfold pB at g1
              (try dsimp only at g1)
              rw [← f24] at g1
              omega
            · refine w_iload dX0_cellsTold_66 rfl ?_
              refine v_callS1 dX0_cellsTold_68 lX0_54 vX0_isSign (by decide) rfl rfl (Nat.le_of_ble_eq_true rfl) ?_
              refine x0_isSign (by omega) (fun q68 => ?_) (fun q68 => ?_)
              · refine v_if_ne 76 dX0_cellsTold_71 (by decide) (by decide) (fun _ => ?_) (fun q => absurd q (by decide))
                refine v_iinc dX0_cellsTold_76 rfl rfl rfl ?_
                refine w_goto 9 dX0_cellsTold_79 (by decide) ?_
                refine w_keep 5 ?_
                have hb1 : pB (fun k => rd I 2 k) j := by
                  unfold pB
                  (try dsimp only)
                  rw [← f24]
                  omega
                have hok' : ∀ i, i < j + 1 → pB (fun k => rd I 2 k) i := fun i hi => by
                  rcases Nat.lt_succ_iff_lt_or_eq.mp hi with g | g
                  · exact hok i g
                  · subst g; exact hb1
                have L := ih (j + 1) (by omega) (by omega) hok'
                have u1 : (pR (fun k => rd I 2 k) (j + 1) : Int) = if z24 = 59 then (pR (fun k => rd I 2 k) j : Int) + 1 else pR (fun k => rd I 2 k) j := by
                  rw [pR, f24]; split <;> rfl
                have u2 : (pK (fun k => rd I 2 k) (j + 1) : Int) = if z24 = 59 then 0 else (pK (fun k => rd I 2 k) j : Int) + 1 := by
                  rw [pK, f24]; split <;> rfl
                have u3 : (pM (fun k => rd I 2 k) (j + 1) : Int) = if z24 = 59 ∨ z24 = 95 then (pM (fun k => rd I 2 k) j : Int) else pM (fun k => rd I 2 k) j + 1 := by
                  rw [pM, f24]; split <;> rfl
                rw [u1, u2, u3] at L
                first
                  | (rw [if_pos (by omega), if_pos (by omega), if_pos (by omega)] at L; exact L)
                  | (rw [if_neg (by omega), if_neg (by omega), if_pos (by omega)] at L; exact L)
                  | (rw [if_neg (by omega), if_neg (by omega), if_neg (by omega)] at L; exact L)
              · refine v_if_ne 76 dX0_cellsTold_71 (by decide) (by decide) (fun q => absurd q (by decide)) (fun _ => ?_)
                refine w_iconst (v := iI (-1)) dX0_cellsTold_74 rfl ?_
                refine v_iret dX0_cellsTold_75 rfl ⟨rfl, rfl⟩ ?_
                refine hn (fun g => ?_)
                have g1 := g.1 j (by omega)
                unfold pB at g1
                (try dsimp only at g1)
                rw [← f24] at g1
                omega
      · refine v_iinc dX0_cellsTold_34 rfl rfl rfl ?_
        refine w_iconst (v := iI 0) dX0_cellsTold_37 rfl ?_
        refine w_istore_n dX0_cellsTold_38 rfl rfl ?_
        refine w_goto 55 dX0_cellsTold_39 (by decide) ?_
        refine w_iload_n dX0_cellsTold_55 rfl ?_
        refine w_iconst (v := iI 5) dX0_cellsTold_56 rfl ?_
        refine v_icmp_ge 74 dX0_cellsTold_57 (by decide) (by omega) (by omega) (fun c57 => ?_) (fun c57 => ?_)
        · refine w_iconst (v := iI (-1)) dX0_cellsTold_74 rfl ?_
          refine v_iret dX0_cellsTold_75 rfl ⟨rfl, rfl⟩ ?_
          refine hn (fun g => ?_)
          have g1 := g.1 j (by omega)
          unfold pB at g1
          (try dsimp only at g1)
          rw [← f24] at g1
          omega
        · refine w_iload_n dX0_cellsTold_60 rfl ?_
          refine w_bipush (v := iI 10) dX0_cellsTold_61 (by decide) ?_
          refine v_icmp_gt 74 dX0_cellsTold_63 (by decide) (by decide) (by decide) (fun q => absurd q (by decide)) (fun _ => ?_)
          refine w_iload dX0_cellsTold_66 rfl ?_
          refine v_callS1 dX0_cellsTold_68 lX0_54 vX0_isSign (by decide) rfl rfl (Nat.le_of_ble_eq_true rfl) ?_
          refine x0_isSign (by omega) (fun q68 => ?_) (fun q68 => ?_)
          · refine v_if_ne 76 dX0_cellsTold_71 (by decide) (by decide) (fun _ => ?_) (fun q => absurd q (by decide))
            refine v_iinc dX0_cellsTold_76 rfl rfl rfl ?_
            refine w_goto 9 dX0_cellsTold_79 (by decide) ?_
            refine w_keep 5 ?_
            have hb1 : pB (fun k => rd I 2 k) j := by
              unfold pB
              (try dsimp only)
              rw [← f24]
              omega
            have hok' : ∀ i, i < j + 1 → pB (fun k => rd I 2 k) i := fun i hi => by
              rcases Nat.lt_succ_iff_lt_or_eq.mp hi with g | g
              · exact hok i g
              · subst g; exact hb1
            have L := ih (j + 1) (by omega) (by omega) hok'
            have u1 : (pR (fun k => rd I 2 k) (j + 1) : Int) = if z24 = 59 then (pR (fun k => rd I 2 k) j : Int) + 1 else pR (fun k => rd I 2 k) j := by
              rw [pR, f24]; split <;> rfl
            have u2 : (pK (fun k => rd I 2 k) (j + 1) : Int) = if z24 = 59 then 0 else (pK (fun k => rd I 2 k) j : Int) + 1 := by
              rw [pK, f24]; split <;> rfl
            have u3 : (pM (fun k => rd I 2 k) (j + 1) : Int) = if z24 = 59 ∨ z24 = 95 then (pM (fun k => rd I 2 k) j : Int) else pM (fun k => rd I 2 k) j + 1 := by
              rw [pM, f24]; split <;> rfl
            rw [u1, u2, u3] at L
            first
              | (rw [if_pos (by omega), if_pos (by omega), if_pos (by omega)] at L; exact L)
              | (rw [if_neg (by omega), if_neg (by omega), if_pos (by omega)] at L; exact L)
              | (rw [if_neg (by omega), if_neg (by omega), if_neg (by omega)] at L; exact L)
          · refine v_if_ne 76 dX0_cellsTold_71 (by decide) (by decide) (fun q => absurd q (by decide)) (fun _ => ?_)
            refine w_iconst (v := iI (-1)) dX0_cellsTold_74 rfl ?_
            refine v_iret dX0_cellsTold_75 rfl ⟨rfl, rfl⟩ ?_
            refine hn (fun g => ?_)
            have g1 := g.1 j (by omega)
            unfold pB at g1
            (try dsimp only at g1)
            rw [← f24] at g1
            omega
theorem x0_cellsTold {I : Nat → Nat → Int32} {J : Nat → Nat → Int64} {F : Option Value → zM → Prop} {t : Nat} (ht : rd I 1 1 = t) (ht2 : t ≤ 200) (hn : ¬ ((∀ j, j < t → pB (fun k => rd I 2 k) j) ∧ 0 < pM (fun k => rd I 2 k) t) → F (some (.int (iI (-1)))) (gM I J)) (hy : (∀ j, j < t → pB (fun k => rd I 2 k) j) → 0 < pM (fun k => rd I 2 k) t → F (some (.int (iI (pM (fun k => rd I 2 k) t : Int)))) (gM I J)) : Cl yX0_cellsTold kX0_cellsTold [.ref 1] (gM I J) F := by
  refine cl_s (by decide) (by decide) (Nat.le_of_ble_eq_true rfl) rt_i ?_
  show Wp _ F 0 [(0, .ref 1)] [] _
  refine w_iconst (v := iI 0) dX0_cellsTold_0 rfl ?_
  refine w_istore_n dX0_cellsTold_1 rfl rfl ?_
  refine w_iconst (v := iI 0) dX0_cellsTold_2 rfl ?_
  refine w_istore_n dX0_cellsTold_3 rfl rfl ?_
  refine w_iconst (v := iI 0) dX0_cellsTold_4 rfl ?_
  refine w_istore_n dX0_cellsTold_5 rfl rfl ?_
  refine w_iconst (v := iI 0) dX0_cellsTold_6 rfl ?_
  refine w_istore dX0_cellsTold_7 rfl rfl ?_
  exact x0_cellsTold_l ht ht2 hn hy (t + 1) 0 (by omega) (by omega) (fun i hi => by omega)
theorem x0_clear_2 {I : Nat → Nat → Int32} {J : Nat → Nat → Int64} {F : Option Value → zM → Prop} {b : Nat} (hb : b < 10) (hy : ∀ I', ((∀ k, k < 50 → rd I' (bI b 1) k = 95) ∧ (∀ k, k < 5 → rd I' (bI b 4) k = -1 ∧ rd I' (bI b 5) k = -1 ∧ rd I' (bI b 7) k = 0 ∧ rd I' (bI b 8) k = 0) ∧ (∀ k, k < 10 → rd I' (bI b 10) k = 0 ∧ rd I' (bI b 11) k = 0) ∧ rd I' (bI b 0) 4 = 0 ∧ rd I' (bI b 0) 7 = -1 ∧ rd I' (bI b 0) 8 = -1 ∧ rd I' (bI b 0) 12 = 0 ∧ fq (fun id k => id = bI b 1 ∨ id = bI b 4 ∨ id = bI b 5 ∨ id = bI b 7 ∨ id = bI b 8 ∨ id = bI b 10 ∨ id = bI b 11 ∨ (id = bI b 0 ∧ (k = 4 ∨ k = 7 ∨ k = 8 ∨ k = 12))) I I') → F none (gM I' J)) : ∀ (nz : Nat) (k : Nat) (I' : Nat → Nat → Int32), 5 - k < nz → k ≤ 5 → (∀ j, j < 50 → rd I' (bI b 1) j = 95) → (∀ j, j < k → rd I' (bI b 4) j = -1 ∧ rd I' (bI b 5) j = -1) → fq (fun id k => id = bI b 1 ∨ id = bI b 4 ∨ id = bI b 5) I I' → Wp (sE kX0_clear RX0) F 24 [(0, .ref (bI b 0)), (1, .int (iI (k : Int)))] [] (gM I' J) := by
  intro nz
  induction nz with
  | zero =>
    intro k I' hmz hk h1 h2 hx
    exact absurd hmz (Nat.not_lt_zero _)
  | succ nz ih =>
    intro k I' hmz hk h1 h2 hx
    refine w_iload_n dX0_clear_24 rfl ?_
    refine w_iconst (v := iI 5) dX0_clear_25 rfl ?_
    refine v_icmp_ge 49 dX0_clear_26 (by decide) (by omega) (by omega) (fun c26 => ?_) (fun c26 => ?_)
    · refine w_aload_n dX0_clear_49 rfl ?_
      refine w_iconst (v := iI 0) dX0_clear_50 rfl ?_
      refine v_putI dX0_clear_51 fX0_68 (sO_b hb (by decide) rfl) rfl (Or.inl rfl) ?_
      refine w_aload_n dX0_clear_54 rfl ?_
      refine w_iconst (v := iI (-1)) dX0_clear_55 rfl ?_
      refine v_putI dX0_clear_56 fX0_71 (sO_b hb (by decide) rfl) rfl (Or.inl rfl) ?_
      refine w_aload_n dX0_clear_59 rfl ?_
      refine w_iconst (v := iI (-1)) dX0_clear_60 rfl ?_
      refine v_putI dX0_clear_61 fX0_74 (sO_b hb (by decide) rfl) rfl (Or.inl rfl) ?_
      refine w_aload_n dX0_clear_64 rfl ?_
      refine v_getR (j := bI b 6) dX0_clear_65 fX0_32 (sO_b hb (by decide) rfl) rfl (r0_b hb (by decide)) ?_
      refine v_callV0 dX0_clear_68 lX0_77 vX1_clear (by decide) rfl rfl (sO_b hb (by decide) rfl) (by decide) rfl (Nat.le_of_ble_eq_true rfl) ?_
      refine x1_clear_a hb (fun I2 g2 => ?_)
      refine w_aload_n dX0_clear_71 rfl ?_
      refine v_getR (j := bI b 9) dX0_clear_72 fX0_36 (sO_b hb (by decide) rfl) rfl (r0_b hb (by decide)) ?_
      refine v_callV0 dX0_clear_75 lX0_77 vX1_clear (by decide) rfl rfl (sO_b hb (by decide) rfl) (by decide) rfl (Nat.le_of_ble_eq_true rfl) ?_
      refine x1_clear_d hb (fun I3 g3 => ?_)
      refine w_aload_n dX0_clear_78 rfl ?_
      refine w_iconst (v := iI 0) dX0_clear_79 rfl ?_
      refine v_putI dX0_clear_80 fX0_78 (sO_b hb (by decide) rfl) rfl (Or.inl rfl) ?_
      refine v_vret dX0_clear_83 rfl ⟨rfl, rfl⟩ ?_
      have hne : ∀ r s, r ≠ s → bI b r ≠ bI b s := fun r s h => by unfold bI; omega
      have hu : ∀ id j, id ≠ bI b 0 → id ≠ bI b 7 → id ≠ bI b 8 → id ≠ bI b 10 → id ≠ bI b 11 → rd (wr I3 (bI b 0) 12 0) id j = rd I' id j := fun id j a0 a1 a2 a3 a4 => by
        rw [rd_wr_row a0, g3, if_neg (fun z => z.1.elim a3 a4), g2, if_neg (fun z => z.1.elim a1 a2), rd_wr_row a0, rd_wr_row a0, rd_wr_row a0]
      refine hy _ ⟨fun j hj => ?_, fun j hj => ⟨?_, ?_, ?_, ?_⟩, fun j hj => ⟨?_, ?_⟩, ?_, ?_, ?_, ?_, fun id j hj => ?_⟩
      · rw [hu _ _ (hne _ _ (by decide)) (hne _ _ (by decide)) (hne _ _ (by decide)) (hne _ _ (by decide)) (hne _ _ (by decide))]; exact h1 j hj
      · rw [hu _ _ (hne _ _ (by decide)) (hne _ _ (by decide)) (hne _ _ (by decide)) (hne _ _ (by decide)) (hne _ _ (by decide))]; exact (h2 j (by omega)).1
      · rw [hu _ _ (hne _ _ (by decide)) (hne _ _ (by decide)) (hne _ _ (by decide)) (hne _ _ (by decide)) (hne _ _ (by decide))]; exact (h2 j (by omega)).2
      · rw [rd_wr_row (hne _ _ (by decide)), g3, if_neg (fun z => z.1.elim (hne _ _ (by decide)) (hne _ _ (by decide))), g2, if_pos ⟨Or.inl rfl, hj⟩]
      · rw [rd_wr_row (hne _ _ (by decide)), g3, if_neg (fun z => z.1.elim (hne _ _ (by decide)) (hne _ _ (by decide))), g2, if_pos ⟨Or.inr rfl, hj⟩]
      · rw [rd_wr_row (hne _ _ (by decide)), g3, if_pos ⟨Or.inl rfl, hj⟩]
      · rw [rd_wr_row (hne _ _ (by decide)), g3, if_pos ⟨Or.inr rfl, hj⟩]
      · rw [rd_wr_ne (by omega), g3, if_neg (fun z => z.1.elim (hne _ _ (by decide)) (hne _ _ (by decide))), g2, if_neg (fun z => z.1.elim (hne _ _ (by decide)) (hne _ _ (by decide))), rd_wr_ne (by omega), rd_wr_ne (by omega)]; exact rd_wr_eq (by omega) (by omega)
      · rw [rd_wr_ne (by omega), g3, if_neg (fun z => z.1.elim (hne _ _ (by decide)) (hne _ _ (by decide))), g2, if_neg (fun z => z.1.elim (hne _ _ (by decide)) (hne _ _ (by decide))), rd_wr_ne (by omega)]; exact rd_wr_eq (by omega) (by omega)
      · rw [rd_wr_ne (by omega), g3, if_neg (fun z => z.1.elim (hne _ _ (by decide)) (hne _ _ (by decide))), g2, if_neg (fun z => z.1.elim (hne _ _ (by decide)) (hne _ _ (by decide)))]; exact rd_wr_eq (by omega) (by omega)
      · exact rd_wr_eq (by omega) (by omega)
      · (try dsimp only at hj)
        rw [rd_wr_ne (by omega), g3, if_neg (by omega), g2, if_neg (by omega), rd_wr_ne (by omega), rd_wr_ne (by omega), rd_wr_ne (by omega)]
        exact hx id j (by (try dsimp only); omega)
    · refine w_aload_n dX0_clear_29 rfl ?_
      refine v_getR (j := bI b 4) dX0_clear_30 fX0_21 (sO_b hb (by decide) rfl) rfl (r0_b hb (by decide)) ?_
      refine w_iload_n dX0_clear_33 rfl ?_
      refine w_iconst (v := iI (-1)) dX0_clear_34 rfl ?_
      refine v_iast dX0_clear_35 (sA_b hb (by decide) rfl) (by omega) (by omega) (by decide) ?_
      refine w_aload_n dX0_clear_36 rfl ?_
      refine v_getR (j := bI b 5) dX0_clear_37 fX0_24 (sO_b hb (by decide) rfl) rfl (r0_b hb (by decide)) ?_
      refine w_iload_n dX0_clear_40 rfl ?_
      refine w_iconst (v := iI (-1)) dX0_clear_41 rfl ?_
      refine v_iast dX0_clear_42 (sA_b hb (by decide) rfl) (by omega) (by omega) (by decide) ?_
      refine v_iinc dX0_clear_43 rfl rfl rfl ?_
      refine w_goto 24 dX0_clear_46 (by decide) ?_
      refine ih (k + 1) _ (by omega) (by omega) (fun j hj => ?_) (fun j hj => ?_) (fun id j hj => ?_)
      · rw [rd_wr_row (by unfold bI; omega), rd_wr_row (by unfold bI; omega)]; exact h1 j hj
      · by_cases g : j = k
        · subst g
          rw [rd_wr_row (by unfold bI; omega), Int.toNat_natCast, rd_wr_eq (by omega) (by omega), rd_wr_eq (by omega) (by omega)]
          exact ⟨rfl, rfl⟩
        · rw [rd_wr_row (by unfold bI; omega), rd_wr_ne (by omega), rd_wr_ne (by omega), rd_wr_row (by unfold bI; omega)]
          exact h2 j (by omega)
      · (try dsimp only at hj)
        rw [rd_wr_row (by omega), rd_wr_row (by omega)]
        exact hx id j hj
theorem x0_clear_1 {I : Nat → Nat → Int32} {J : Nat → Nat → Int64} {F : Option Value → zM → Prop} {b : Nat} (hb : b < 10) (hy : ∀ I', ((∀ k, k < 50 → rd I' (bI b 1) k = 95) ∧ (∀ k, k < 5 → rd I' (bI b 4) k = -1 ∧ rd I' (bI b 5) k = -1 ∧ rd I' (bI b 7) k = 0 ∧ rd I' (bI b 8) k = 0) ∧ (∀ k, k < 10 → rd I' (bI b 10) k = 0 ∧ rd I' (bI b 11) k = 0) ∧ rd I' (bI b 0) 4 = 0 ∧ rd I' (bI b 0) 7 = -1 ∧ rd I' (bI b 0) 8 = -1 ∧ rd I' (bI b 0) 12 = 0 ∧ fq (fun id k => id = bI b 1 ∨ id = bI b 4 ∨ id = bI b 5 ∨ id = bI b 7 ∨ id = bI b 8 ∨ id = bI b 10 ∨ id = bI b 11 ∨ (id = bI b 0 ∧ (k = 4 ∨ k = 7 ∨ k = 8 ∨ k = 12))) I I') → F none (gM I' J)) : ∀ (nz : Nat) (k : Nat) (I' : Nat → Nat → Int32), 50 - k < nz → k ≤ 50 → (∀ j, j < k → rd I' (bI b 1) j = 95) → fq (fun id k => id = bI b 1) I I' → Wp (sE kX0_clear RX0) F 2 [(0, .ref (bI b 0)), (1, .int (iI (k : Int)))] [] (gM I' J) := by
  intro nz
  induction nz with
  | zero =>
    intro k I' hmz hk h1 hx
    exact absurd hmz (Nat.not_lt_zero _)
  | succ nz ih =>
    intro k I' hmz hk h1 hx
    refine w_iload_n dX0_clear_2 rfl ?_
    refine w_bipush (v := iI 50) dX0_clear_3 (by decide) ?_
    refine v_icmp_ge 22 dX0_clear_5 (by decide) (by omega) (by omega) (fun c5 => ?_) (fun c5 => ?_)
    · refine w_iconst (v := iI 0) dX0_clear_22 rfl ?_
      refine w_istore_n dX0_clear_23 rfl rfl ?_
      exact x0_clear_2 hb hy 6 0 I' (by omega) (by omega) (fun j hj => h1 j (by omega)) (fun j hj => by omega) (fun id j hj => hx id j (fun g => hj (Or.inl g)))
    · refine w_aload_n dX0_clear_8 rfl ?_
      refine v_getR (j := bI b 1) dX0_clear_9 fX0_9 (sO_b hb (by decide) rfl) rfl (r0_b hb (by decide)) ?_
      refine w_iload_n dX0_clear_12 rfl ?_
      refine w_bipush (v := iI 95) dX0_clear_13 (by decide) ?_
      refine v_iast dX0_clear_15 (sA_b hb (by decide) rfl) (by omega) (by omega) (by decide) ?_
      refine v_iinc dX0_clear_16 rfl rfl rfl ?_
      refine w_goto 2 dX0_clear_19 (by decide) ?_
      refine ih (k + 1) _ (by omega) (by omega) (fun j hj => ?_) (fun id j hj => ?_)
      · rw [rd_wr (by omega) (by omega)]
        by_cases g : j = k
        · rw [if_pos ⟨rfl, by omega⟩]
        · rw [if_neg (by omega)]; exact h1 j (by omega)
      · rw [rd_wr_row hj]; exact hx id j hj
theorem x0_clear {I : Nat → Nat → Int32} {J : Nat → Nat → Int64} {F : Option Value → zM → Prop} {b : Nat} (hb : b < 10) (hy : ∀ I', ((∀ k, k < 50 → rd I' (bI b 1) k = 95) ∧ (∀ k, k < 5 → rd I' (bI b 4) k = -1 ∧ rd I' (bI b 5) k = -1 ∧ rd I' (bI b 7) k = 0 ∧ rd I' (bI b 8) k = 0) ∧ (∀ k, k < 10 → rd I' (bI b 10) k = 0 ∧ rd I' (bI b 11) k = 0) ∧ rd I' (bI b 0) 4 = 0 ∧ rd I' (bI b 0) 7 = -1 ∧ rd I' (bI b 0) 8 = -1 ∧ rd I' (bI b 0) 12 = 0 ∧ fq (fun id k => id = bI b 1 ∨ id = bI b 4 ∨ id = bI b 5 ∨ id = bI b 7 ∨ id = bI b 8 ∨ id = bI b 10 ∨ id = bI b 11 ∨ (id = bI b 0 ∧ (k = 4 ∨ k = 7 ∨ k = 8 ∨ k = 12))) I I') → F none (gM I' J)) : Cl yX0_clear kX0_clear [.ref (bI b 0)] (gM I J) F := by
  refine cl_s (by decide) (by decide) (Nat.le_of_ble_eq_true rfl) rt_v ?_
  show Wp _ F 0 [(0, .ref (bI b 0))] [] _
  refine w_iconst (v := iI 0) dX0_clear_0 rfl ?_
  refine w_istore_n dX0_clear_1 rfl rfl ?_
  exact x0_clear_1 hb hy 51 0 I (by omega) (by omega) (fun j hj => by omega) (fun _ _ _ => rfl)
theorem x0_addCell {I : Nat → Nat → Int32} {J : Nat → Nat → Int64} {F : Option Value → zM → Prop} {b : Nat} (hb : b < 10) {n r c : Nat} {s : Int} (hn : rd I (bI b 0) 4 = n) (hn50 : n < 50) (hr : r < 5) (hc : c < 10) (hs : -2147483648 ≤ s ∧ s < 2147483648) (hy : ∀ I', AC I I' b n r c s → F none (gM I' J)) : Cl yX0_addCell kX0_addCell [.ref (bI b 0), .int (iI (r : Int)), .int (iI (c : Int)), .int (iI s)] (gM I J) F := by
  refine cl_s (by decide) (by decide) (Nat.le_of_ble_eq_true rfl) rt_v ?_
  show Wp _ F 0 [(0, .ref (bI b 0)), (1, .int (iI (r : Int))), (2, .int (iI (c : Int))), (3, .int (iI s))] [] _
  refine w_aload_n dX0_addCell_0 rfl ?_
  refine v_getR (j := bI b 1) dX0_addCell_1 fX0_9 (sO_b hb (by decide) rfl) rfl (r0_b hb (by decide)) ?_
  refine w_iload_n dX0_addCell_4 rfl ?_
  refine w_bipush (v := iI 10) dX0_addCell_5 (by decide) ?_
  refine v_imul dX0_addCell_7 ?_
  refine w_iload_n dX0_addCell_8 rfl ?_
  refine v_iadd dX0_addCell_9 ?_
  refine w_iload_n dX0_addCell_10 rfl ?_
  refine v_iast dX0_addCell_11 (sA_b hb (by decide) rfl) (by omega) (by omega) (by decide) ?_
  refine w_iload_n dX0_addCell_12 rfl ?_
  refine v_callSN1 dX0_addCell_13 lX0_58 vX11_isText (by decide) rfl rfl (Nat.le_of_ble_eq_true rfl) ?_
  refine x11_isText (by omega) (fun q13 => ?_) (fun q13 => ?_)
  · refine v_if_eq 47 dX0_addCell_16 (by decide) (by decide) (fun q => absurd q (by decide)) (fun _ => ?_)
    refine w_aload_n dX0_addCell_19 rfl ?_
    refine v_getI dX0_addCell_20 fX0_71 (sO_b hb (by decide) rfl) (Or.inl rfl) (fun z20 e20 b20 => ?_)
    have f20 : z20 = rd I (bI b 0) 7 := by rw [e20, rd_wr_row (by unfold bI; omega)]
    refine w_iconst (v := iI (-1)) dX0_addCell_23 rfl ?_
    refine v_icmp_ne 35 dX0_addCell_24 (by decide) (by omega) (by omega) (fun c24 => ?_) (fun c24 => ?_)
    · refine w_aload_n dX0_addCell_35 rfl ?_
      refine w_aload_n dX0_addCell_36 rfl ?_
      refine v_getI dX0_addCell_37 fX0_74 (sO_b hb (by decide) rfl) (Or.inl rfl) (fun z37 e37 b37 => ?_)
      have f37 : z37 = rd I (bI b 0) 8 := by
        rw [e37]
        first | rw [rd_wr_ne (by omega), rd_wr_row (by unfold bI; omega)] | rw [rd_wr_row (by unfold bI; omega)]
      refine w_iload_n dX0_addCell_40 rfl ?_
      refine v_callS2 dX0_addCell_41 lX0_81 vJ9_max_7cf53 (by decide) rfl rfl (Nat.le_of_ble_eq_true rfl) ?_
      refine j9_max (by omega) (by omega) (fun q41 => ?_) (fun q41 => ?_)
      · refine v_putI dX0_addCell_44 fX0_74 (sO_b hb (by decide) rfl) rfl (Or.inl rfl) ?_
        refine w_aload_n dX0_addCell_47 rfl ?_
        refine v_getR (j := bI b 4) dX0_addCell_48 fX0_21 (sO_b hb (by decide) rfl) rfl (r0_b hb (by decide)) ?_
        refine w_iload_n dX0_addCell_51 rfl ?_
        refine v_iald dX0_addCell_52 (sA_b hb (by decide) rfl) (by omega) (by omega) (by decide) (fun z52 e52 b52 => ?_)
        have f52 : z52 = rd I (bI b 4) r := by
          rw [e52, Int.toNat_natCast]
          (repeat rw [rd_wr_row (by unfold bI; omega)])
        refine w_iconst (v := iI (-1)) dX0_addCell_53 rfl ?_
        refine v_icmp_ne 64 dX0_addCell_54 (by decide) (by omega) (by omega) (fun c54 => ?_) (fun c54 => ?_)
        · refine w_aload_n dX0_addCell_64 rfl ?_
          refine v_getR (j := bI b 5) dX0_addCell_65 fX0_24 (sO_b hb (by decide) rfl) rfl (r0_b hb (by decide)) ?_
          refine w_iload_n dX0_addCell_68 rfl ?_
          refine w_iload_n dX0_addCell_69 rfl ?_
          refine v_iast dX0_addCell_70 (sA_b hb (by decide) rfl) (by omega) (by omega) (by decide) ?_
          refine w_aload_n dX0_addCell_71 rfl ?_
          refine v_getR (j := bI b 6) dX0_addCell_72 fX0_32 (sO_b hb (by decide) rfl) rfl (r0_b hb (by decide)) ?_
          refine v_getR (j := bI b 8) dX0_addCell_75 fX0_87 (sO_b hb (by decide) rfl) rfl (r0_b hb (by decide)) ?_
          refine w_iload_n dX0_addCell_78 rfl ?_
          refine w_iconst (v := iI 1) dX0_addCell_79 rfl ?_
          refine v_zast dX0_addCell_80 (sA_b hb (by decide) rfl) (by omega) (by omega) (by decide) (by decide) ?_
          refine w_aload_n dX0_addCell_81 rfl ?_
          refine v_getR (j := bI b 9) dX0_addCell_82 fX0_36 (sO_b hb (by decide) rfl) rfl (r0_b hb (by decide)) ?_
          refine v_getR (j := bI b 11) dX0_addCell_85 fX0_87 (sO_b hb (by decide) rfl) rfl (r0_b hb (by decide)) ?_
          refine w_iload_n dX0_addCell_88 rfl ?_
          refine w_iconst (v := iI 1) dX0_addCell_89 rfl ?_
          refine v_zast dX0_addCell_90 (sA_b hb (by decide) rfl) (by omega) (by omega) (by decide) (by decide) ?_
          refine w_aload_n dX0_addCell_91 rfl ?_
          refine v_getR (j := bI b 2) dX0_addCell_92 fX0_15 (sO_b hb (by decide) rfl) rfl (r0_b hb (by decide)) ?_
          refine w_aload_n dX0_addCell_95 rfl ?_
          refine v_getI dX0_addCell_96 fX0_68 (sO_b hb (by decide) rfl) (Or.inl rfl) (fun z96 e96 b96 => ?_)
          have f96 : z96 = n := by
            rw [e96]
            (repeat rw [rd_wr_row (by unfold bI; omega)])
            (repeat rw [rd_wr_ne (by omega)])
            (repeat rw [rd_wr_row (by unfold bI; omega)])
            exact hn
          refine w_iload_n dX0_addCell_99 rfl ?_
          refine v_iast dX0_addCell_100 (sA_b hb (by decide) rfl) (by omega) (by omega) (by decide) ?_
          refine w_aload_n dX0_addCell_101 rfl ?_
          refine v_getR (j := bI b 3) dX0_addCell_102 fX0_18 (sO_b hb (by decide) rfl) rfl (r0_b hb (by decide)) ?_
          refine w_aload_n dX0_addCell_105 rfl ?_
          refine v_getI dX0_addCell_106 fX0_68 (sO_b hb (by decide) rfl) (Or.inl rfl) (fun z106 e106 b106 => ?_)
          have f106 : z106 = n := by
            rw [e106]
            (repeat rw [rd_wr_row (by unfold bI; omega)])
            (repeat rw [rd_wr_ne (by omega)])
            (repeat rw [rd_wr_row (by unfold bI; omega)])
            exact hn
          refine w_iload_n dX0_addCell_109 rfl ?_
          refine v_iast dX0_addCell_110 (sA_b hb (by decide) rfl) (by omega) (by omega) (by decide) ?_
          refine w_aload_n dX0_addCell_111 rfl ?_
          refine w_dup dX0_addCell_112 rfl ?_
          refine v_getI dX0_addCell_113 fX0_68 (sO_b hb (by decide) rfl) (Or.inl rfl) (fun z113 e113 b113 => ?_)
          have f113 : z113 = n := by
            rw [e113]
            (repeat rw [rd_wr_row (by unfold bI; omega)])
            (repeat rw [rd_wr_ne (by omega)])
            (repeat rw [rd_wr_row (by unfold bI; omega)])
            exact hn
          refine w_iconst (v := iI 1) dX0_addCell_116 rfl ?_
          refine v_iadd dX0_addCell_117 ?_
          refine v_putI dX0_addCell_118 fX0_68 (sO_b hb (by decide) rfl) rfl (Or.inl rfl) ?_
          refine v_vret dX0_addCell_121 rfl ⟨rfl, rfl⟩ ?_
          have h96 : z96.toNat = n := by omega
          have h106 : z106.toNat = n := by omega
          refine hy _ ⟨fun k => ?_, fun k => ?_, fun k => ?_, fun k => ?_, fun k => ?_, fun k => ?_, fun k => ?_, ?_, ?_, ?_, fun id k hk => ?_⟩
          · (repeat rw [rd_wr_row (by unfold bI; omega)])
            rw [rd_wr (by omega) (by omega)]
            by_cases g : k = 10 * r + c
            · rw [if_pos ⟨rfl, by omega⟩, if_pos g]
            · rw [if_neg (by omega), if_neg g]
          · (repeat rw [rd_wr_row (by unfold bI; omega)])
            rw [rd_wr (by omega) (by omega)]
            (repeat rw [rd_wr_row (by unfold bI; omega)])
            by_cases g : k = n
            · rw [if_pos ⟨rfl, by omega⟩, if_pos g]
            · rw [if_neg (by omega), if_neg g]
          · (repeat rw [rd_wr_row (by unfold bI; omega)])
            rw [rd_wr (by omega) (by omega)]
            (repeat rw [rd_wr_row (by unfold bI; omega)])
            by_cases g : k = n
            · rw [if_pos ⟨rfl, by omega⟩, if_pos g]
            · rw [if_neg (by omega), if_neg g]
          · (repeat rw [rd_wr_row (by unfold bI; omega)])
            first
              | (rw [rd_wr (by omega) (by omega)]
                 (repeat rw [rd_wr_row (by unfold bI; omega)])
                 by_cases g : k = r
                 · rw [if_pos ⟨rfl, by omega⟩, if_pos ⟨g, by omega⟩]
                 · rw [if_neg (by omega), if_neg (fun z => g z.1)])
              | rw [if_neg (by omega)]
          · (repeat rw [rd_wr_row (by unfold bI; omega)])
            rw [rd_wr (by omega) (by omega)]
            (repeat rw [rd_wr_row (by unfold bI; omega)])
            by_cases g : k = r
            · rw [if_pos ⟨rfl, by omega⟩, if_pos g]
            · rw [if_neg (by omega), if_neg g]
          · (repeat rw [rd_wr_row (by unfold bI; omega)])
            rw [rd_wr (by omega) (by omega)]
            (repeat rw [rd_wr_row (by unfold bI; omega)])
            by_cases g : k = r
            · rw [if_pos ⟨rfl, by omega⟩, if_pos g]
            · rw [if_neg (by omega), if_neg g]
          · (repeat rw [rd_wr_row (by unfold bI; omega)])
            rw [rd_wr (by omega) (by omega)]
            (repeat rw [rd_wr_row (by unfold bI; omega)])
            by_cases g : k = c
            · rw [if_pos ⟨rfl, by omega⟩, if_pos g]
            · rw [if_neg (by omega), if_neg g]
          · rw [rd_wr_eq (by omega) (by omega)]; omega
          · rw [rd_wr_ne (by omega)]
            (repeat rw [rd_wr_row (by unfold bI; omega)])
            first
              | (rw [rd_wr_ne (by omega), rd_wr_eq (by omega) (by omega), if_pos ⟨q13, by omega⟩]; exact f29)
              | (rw [rd_wr_ne (by omega)]; (repeat rw [rd_wr_row (by unfold bI; omega)]); rw [if_neg (by omega)])
              | rw [if_neg (by omega)]
          · rw [rd_wr_ne (by omega)]
            (repeat rw [rd_wr_row (by unfold bI; omega)])
            first
              | (rw [rd_wr_eq (by omega) (by omega), if_pos ⟨q13, by omega⟩]; done)
              | (rw [rd_wr_eq (by omega) (by omega), if_neg (by omega)]; exact f37)
              | rw [if_neg (by omega)]
          · (try dsimp only at hk)
            (repeat rw [rd_wr_ne (by omega)])
        · refine w_aload_n dX0_addCell_57 rfl ?_
          refine v_getR (j := bI b 4) dX0_addCell_58 fX0_21 (sO_b hb (by decide) rfl) rfl (r0_b hb (by decide)) ?_
          refine w_iload_n dX0_addCell_61 rfl ?_
          refine w_iload_n dX0_addCell_62 rfl ?_
          refine v_iast dX0_addCell_63 (sA_b hb (by decide) rfl) (by omega) (by omega) (by decide) ?_
          refine w_aload_n dX0_addCell_64 rfl ?_
          refine v_getR (j := bI b 5) dX0_addCell_65 fX0_24 (sO_b hb (by decide) rfl) rfl (r0_b hb (by decide)) ?_
          refine w_iload_n dX0_addCell_68 rfl ?_
          refine w_iload_n dX0_addCell_69 rfl ?_
          refine v_iast dX0_addCell_70 (sA_b hb (by decide) rfl) (by omega) (by omega) (by decide) ?_
          refine w_aload_n dX0_addCell_71 rfl ?_
          refine v_getR (j := bI b 6) dX0_addCell_72 fX0_32 (sO_b hb (by decide) rfl) rfl (r0_b hb (by decide)) ?_
          refine v_getR (j := bI b 8) dX0_addCell_75 fX0_87 (sO_b hb (by decide) rfl) rfl (r0_b hb (by decide)) ?_
          refine w_iload_n dX0_addCell_78 rfl ?_
          refine w_iconst (v := iI 1) dX0_addCell_79 rfl ?_
          refine v_zast dX0_addCell_80 (sA_b hb (by decide) rfl) (by omega) (by omega) (by decide) (by decide) ?_
          refine w_aload_n dX0_addCell_81 rfl ?_
          refine v_getR (j := bI b 9) dX0_addCell_82 fX0_36 (sO_b hb (by decide) rfl) rfl (r0_b hb (by decide)) ?_
          refine v_getR (j := bI b 11) dX0_addCell_85 fX0_87 (sO_b hb (by decide) rfl) rfl (r0_b hb (by decide)) ?_
          refine w_iload_n dX0_addCell_88 rfl ?_
          refine w_iconst (v := iI 1) dX0_addCell_89 rfl ?_
          refine v_zast dX0_addCell_90 (sA_b hb (by decide) rfl) (by omega) (by omega) (by decide) (by decide) ?_
          refine w_aload_n dX0_addCell_91 rfl ?_
          refine v_getR (j := bI b 2) dX0_addCell_92 fX0_15 (sO_b hb (by decide) rfl) rfl (r0_b hb (by decide)) ?_
          refine w_aload_n dX0_addCell_95 rfl ?_
          refine v_getI dX0_addCell_96 fX0_68 (sO_b hb (by decide) rfl) (Or.inl rfl) (fun z96 e96 b96 => ?_)
          have f96 : z96 = n := by
            rw [e96]
            (repeat rw [rd_wr_row (by unfold bI; omega)])
            (repeat rw [rd_wr_ne (by omega)])
            (repeat rw [rd_wr_row (by unfold bI; omega)])
            exact hn
          refine w_iload_n dX0_addCell_99 rfl ?_
          refine v_iast dX0_addCell_100 (sA_b hb (by decide) rfl) (by omega) (by omega) (by decide) ?_
          refine w_aload_n dX0_addCell_101 rfl ?_
          refine v_getR (j := bI b 3) dX0_addCell_102 fX0_18 (sO_b hb (by decide) rfl) rfl (r0_b hb (by decide)) ?_
          refine w_aload_n dX0_addCell_105 rfl ?_
          refine v_getI dX0_addCell_106 fX0_68 (sO_b hb (by decide) rfl) (Or.inl rfl) (fun z106 e106 b106 => ?_)
          have f106 : z106 = n := by
            rw [e106]
            (repeat rw [rd_wr_row (by unfold bI; omega)])
            (repeat rw [rd_wr_ne (by omega)])
            (repeat rw [rd_wr_row (by unfold bI; omega)])
            exact hn
          refine w_iload_n dX0_addCell_109 rfl ?_
          refine v_iast dX0_addCell_110 (sA_b hb (by decide) rfl) (by omega) (by omega) (by decide) ?_
          refine w_aload_n dX0_addCell_111 rfl ?_
          refine w_dup dX0_addCell_112 rfl ?_
          refine v_getI dX0_addCell_113 fX0_68 (sO_b hb (by decide) rfl) (Or.inl rfl) (fun z113 e113 b113 => ?_)
          have f113 : z113 = n := by
            rw [e113]
            (repeat rw [rd_wr_row (by unfold bI; omega)])
            (repeat rw [rd_wr_ne (by omega)])
            (repeat rw [rd_wr_row (by unfold bI; omega)])
            exact hn
          refine w_iconst (v := iI 1) dX0_addCell_116 rfl ?_
          refine v_iadd dX0_addCell_117 ?_
          refine v_putI dX0_addCell_118 fX0_68 (sO_b hb (by decide) rfl) rfl (Or.inl rfl) ?_
          refine v_vret dX0_addCell_121 rfl ⟨rfl, rfl⟩ ?_
          have h96 : z96.toNat = n := by omega
          have h106 : z106.toNat = n := by omega
          refine hy _ ⟨fun k => ?_, fun k => ?_, fun k => ?_, fun k => ?_, fun k => ?_, fun k => ?_, fun k => ?_, ?_, ?_, ?_, fun id k hk => ?_⟩
          · (repeat rw [rd_wr_row (by unfold bI; omega)])
            rw [rd_wr (by omega) (by omega)]
            by_cases g : k = 10 * r + c
            · rw [if_pos ⟨rfl, by omega⟩, if_pos g]
            · rw [if_neg (by omega), if_neg g]
          · (repeat rw [rd_wr_row (by unfold bI; omega)])
            rw [rd_wr (by omega) (by omega)]
            (repeat rw [rd_wr_row (by unfold bI; omega)])
            by_cases g : k = n
            · rw [if_pos ⟨rfl, by omega⟩, if_pos g]
            · rw [if_neg (by omega), if_neg g]
          · (repeat rw [rd_wr_row (by unfold bI; omega)])
            rw [rd_wr (by omega) (by omega)]
            (repeat rw [rd_wr_row (by unfold bI; omega)])
            by_cases g : k = n
            · rw [if_pos ⟨rfl, by omega⟩, if_pos g]
            · rw [if_neg (by omega), if_neg g]
          · (repeat rw [rd_wr_row (by unfold bI; omega)])
            first
              | (rw [rd_wr (by omega) (by omega)]
                 (repeat rw [rd_wr_row (by unfold bI; omega)])
                 by_cases g : k = r
                 · rw [if_pos ⟨rfl, by omega⟩, if_pos ⟨g, by omega⟩]
                 · rw [if_neg (by omega), if_neg (fun z => g z.1)])
              | rw [if_neg (by omega)]
          · (repeat rw [rd_wr_row (by unfold bI; omega)])
            rw [rd_wr (by omega) (by omega)]
            (repeat rw [rd_wr_row (by unfold bI; omega)])
            by_cases g : k = r
            · rw [if_pos ⟨rfl, by omega⟩, if_pos g]
            · rw [if_neg (by omega), if_neg g]
          · (repeat rw [rd_wr_row (by unfold bI; omega)])
            rw [rd_wr (by omega) (by omega)]
            (repeat rw [rd_wr_row (by unfold bI; omega)])
            by_cases g : k = r
            · rw [if_pos ⟨rfl, by omega⟩, if_pos g]
            · rw [if_neg (by omega), if_neg g]
          · (repeat rw [rd_wr_row (by unfold bI; omega)])
            rw [rd_wr (by omega) (by omega)]
            (repeat rw [rd_wr_row (by unfold bI; omega)])
            by_cases g : k = c
            · rw [if_pos ⟨rfl, by omega⟩, if_pos g]
            · rw [if_neg (by omega), if_neg g]
          · rw [rd_wr_eq (by omega) (by omega)]; omega
          · rw [rd_wr_ne (by omega)]
            (repeat rw [rd_wr_row (by unfold bI; omega)])
            first
              | (rw [rd_wr_ne (by omega), rd_wr_eq (by omega) (by omega), if_pos ⟨q13, by omega⟩]; exact f29)
              | (rw [rd_wr_ne (by omega)]; (repeat rw [rd_wr_row (by unfold bI; omega)]); rw [if_neg (by omega)])
              | rw [if_neg (by omega)]
          · rw [rd_wr_ne (by omega)]
            (repeat rw [rd_wr_row (by unfold bI; omega)])
            first
              | (rw [rd_wr_eq (by omega) (by omega), if_pos ⟨q13, by omega⟩]; done)
              | (rw [rd_wr_eq (by omega) (by omega), if_neg (by omega)]; exact f37)
              | rw [if_neg (by omega)]
          · (try dsimp only at hk)
            (repeat rw [rd_wr_ne (by omega)])
      · refine v_putI dX0_addCell_44 fX0_74 (sO_b hb (by decide) rfl) rfl (Or.inl rfl) ?_
        refine w_aload_n dX0_addCell_47 rfl ?_
        refine v_getR (j := bI b 4) dX0_addCell_48 fX0_21 (sO_b hb (by decide) rfl) rfl (r0_b hb (by decide)) ?_
        refine w_iload_n dX0_addCell_51 rfl ?_
        refine v_iald dX0_addCell_52 (sA_b hb (by decide) rfl) (by omega) (by omega) (by decide) (fun z52 e52 b52 => ?_)
        have f52 : z52 = rd I (bI b 4) r := by
          rw [e52, Int.toNat_natCast]
          (repeat rw [rd_wr_row (by unfold bI; omega)])
        refine w_iconst (v := iI (-1)) dX0_addCell_53 rfl ?_
        refine v_icmp_ne 64 dX0_addCell_54 (by decide) (by omega) (by omega) (fun c54 => ?_) (fun c54 => ?_)
        · refine w_aload_n dX0_addCell_64 rfl ?_
          refine v_getR (j := bI b 5) dX0_addCell_65 fX0_24 (sO_b hb (by decide) rfl) rfl (r0_b hb (by decide)) ?_
          refine w_iload_n dX0_addCell_68 rfl ?_
          refine w_iload_n dX0_addCell_69 rfl ?_
          refine v_iast dX0_addCell_70 (sA_b hb (by decide) rfl) (by omega) (by omega) (by decide) ?_
          refine w_aload_n dX0_addCell_71 rfl ?_
          refine v_getR (j := bI b 6) dX0_addCell_72 fX0_32 (sO_b hb (by decide) rfl) rfl (r0_b hb (by decide)) ?_
          refine v_getR (j := bI b 8) dX0_addCell_75 fX0_87 (sO_b hb (by decide) rfl) rfl (r0_b hb (by decide)) ?_
          refine w_iload_n dX0_addCell_78 rfl ?_
          refine w_iconst (v := iI 1) dX0_addCell_79 rfl ?_
          refine v_zast dX0_addCell_80 (sA_b hb (by decide) rfl) (by omega) (by omega) (by decide) (by decide) ?_
          refine w_aload_n dX0_addCell_81 rfl ?_
          refine v_getR (j := bI b 9) dX0_addCell_82 fX0_36 (sO_b hb (by decide) rfl) rfl (r0_b hb (by decide)) ?_
          refine v_getR (j := bI b 11) dX0_addCell_85 fX0_87 (sO_b hb (by decide) rfl) rfl (r0_b hb (by decide)) ?_
          refine w_iload_n dX0_addCell_88 rfl ?_
          refine w_iconst (v := iI 1) dX0_addCell_89 rfl ?_
          refine v_zast dX0_addCell_90 (sA_b hb (by decide) rfl) (by omega) (by omega) (by decide) (by decide) ?_
          refine w_aload_n dX0_addCell_91 rfl ?_
          refine v_getR (j := bI b 2) dX0_addCell_92 fX0_15 (sO_b hb (by decide) rfl) rfl (r0_b hb (by decide)) ?_
          refine w_aload_n dX0_addCell_95 rfl ?_
          refine v_getI dX0_addCell_96 fX0_68 (sO_b hb (by decide) rfl) (Or.inl rfl) (fun z96 e96 b96 => ?_)
          have f96 : z96 = n := by
            rw [e96]
            (repeat rw [rd_wr_row (by unfold bI; omega)])
            (repeat rw [rd_wr_ne (by omega)])
            (repeat rw [rd_wr_row (by unfold bI; omega)])
            exact hn
          refine w_iload_n dX0_addCell_99 rfl ?_
          refine v_iast dX0_addCell_100 (sA_b hb (by decide) rfl) (by omega) (by omega) (by decide) ?_
          refine w_aload_n dX0_addCell_101 rfl ?_
          refine v_getR (j := bI b 3) dX0_addCell_102 fX0_18 (sO_b hb (by decide) rfl) rfl (r0_b hb (by decide)) ?_
          refine w_aload_n dX0_addCell_105 rfl ?_
          refine v_getI dX0_addCell_106 fX0_68 (sO_b hb (by decide) rfl) (Or.inl rfl) (fun z106 e106 b106 => ?_)
          have f106 : z106 = n := by
            rw [e106]
            (repeat rw [rd_wr_row (by unfold bI; omega)])
            (repeat rw [rd_wr_ne (by omega)])
            (repeat rw [rd_wr_row (by unfold bI; omega)])
            exact hn
          refine w_iload_n dX0_addCell_109 rfl ?_
          refine v_iast dX0_addCell_110 (sA_b hb (by decide) rfl) (by omega) (by omega) (by decide) ?_
          refine w_aload_n dX0_addCell_111 rfl ?_
          refine w_dup dX0_addCell_112 rfl ?_
          refine v_getI dX0_addCell_113 fX0_68 (sO_b hb (by decide) rfl) (Or.inl rfl) (fun z113 e113 b113 => ?_)
          have f113 : z113 = n := by
            rw [e113]
            (repeat rw [rd_wr_row (by unfold bI; omega)])
            (repeat rw [rd_wr_ne (by omega)])
            (repeat rw [rd_wr_row (by unfold bI; omega)])
            exact hn
          refine w_iconst (v := iI 1) dX0_addCell_116 rfl ?_
          refine v_iadd dX0_addCell_117 ?_
          refine v_putI dX0_addCell_118 fX0_68 (sO_b hb (by decide) rfl) rfl (Or.inl rfl) ?_
          refine v_vret dX0_addCell_121 rfl ⟨rfl, rfl⟩ ?_
          have h96 : z96.toNat = n := by omega
          have h106 : z106.toNat = n := by omega
          refine hy _ ⟨fun k => ?_, fun k => ?_, fun k => ?_, fun k => ?_, fun k => ?_, fun k => ?_, fun k => ?_, ?_, ?_, ?_, fun id k hk => ?_⟩
          · (repeat rw [rd_wr_row (by unfold bI; omega)])
            rw [rd_wr (by omega) (by omega)]
            by_cases g : k = 10 * r + c
            · rw [if_pos ⟨rfl, by omega⟩, if_pos g]
            · rw [if_neg (by omega), if_neg g]
          · (repeat rw [rd_wr_row (by unfold bI; omega)])
            rw [rd_wr (by omega) (by omega)]
            (repeat rw [rd_wr_row (by unfold bI; omega)])
            by_cases g : k = n
            · rw [if_pos ⟨rfl, by omega⟩, if_pos g]
            · rw [if_neg (by omega), if_neg g]
          · (repeat rw [rd_wr_row (by unfold bI; omega)])
            rw [rd_wr (by omega) (by omega)]
            (repeat rw [rd_wr_row (by unfold bI; omega)])
            by_cases g : k = n
            · rw [if_pos ⟨rfl, by omega⟩, if_pos g]
            · rw [if_neg (by omega), if_neg g]
          · (repeat rw [rd_wr_row (by unfold bI; omega)])
            first
              | (rw [rd_wr (by omega) (by omega)]
                 (repeat rw [rd_wr_row (by unfold bI; omega)])
                 by_cases g : k = r
                 · rw [if_pos ⟨rfl, by omega⟩, if_pos ⟨g, by omega⟩]
                 · rw [if_neg (by omega), if_neg (fun z => g z.1)])
              | rw [if_neg (by omega)]
          · (repeat rw [rd_wr_row (by unfold bI; omega)])
            rw [rd_wr (by omega) (by omega)]
            (repeat rw [rd_wr_row (by unfold bI; omega)])
            by_cases g : k = r
            · rw [if_pos ⟨rfl, by omega⟩, if_pos g]
            · rw [if_neg (by omega), if_neg g]
          · (repeat rw [rd_wr_row (by unfold bI; omega)])
            rw [rd_wr (by omega) (by omega)]
            (repeat rw [rd_wr_row (by unfold bI; omega)])
            by_cases g : k = r
            · rw [if_pos ⟨rfl, by omega⟩, if_pos g]
            · rw [if_neg (by omega), if_neg g]
          · (repeat rw [rd_wr_row (by unfold bI; omega)])
            rw [rd_wr (by omega) (by omega)]
            (repeat rw [rd_wr_row (by unfold bI; omega)])
            by_cases g : k = c
            · rw [if_pos ⟨rfl, by omega⟩, if_pos g]
            · rw [if_neg (by omega), if_neg g]
          · rw [rd_wr_eq (by omega) (by omega)]; omega
          · rw [rd_wr_ne (by omega)]
            (repeat rw [rd_wr_row (by unfold bI; omega)])
            first
              | (rw [rd_wr_ne (by omega), rd_wr_eq (by omega) (by omega), if_pos ⟨q13, by omega⟩]; exact f29)
              | (rw [rd_wr_ne (by omega)]; (repeat rw [rd_wr_row (by unfold bI; omega)]); rw [if_neg (by omega)])
              | rw [if_neg (by omega)]
          · rw [rd_wr_ne (by omega)]
            (repeat rw [rd_wr_row (by unfold bI; omega)])
            first
              | (rw [rd_wr_eq (by omega) (by omega), if_pos ⟨q13, by omega⟩]; done)
              | (rw [rd_wr_eq (by omega) (by omega), if_neg (by omega)]; exact f37)
              | rw [if_neg (by omega)]
          · (try dsimp only at hk)
            (repeat rw [rd_wr_ne (by omega)])
        · refine w_aload_n dX0_addCell_57 rfl ?_
          refine v_getR (j := bI b 4) dX0_addCell_58 fX0_21 (sO_b hb (by decide) rfl) rfl (r0_b hb (by decide)) ?_
          refine w_iload_n dX0_addCell_61 rfl ?_
          refine w_iload_n dX0_addCell_62 rfl ?_
          refine v_iast dX0_addCell_63 (sA_b hb (by decide) rfl) (by omega) (by omega) (by decide) ?_
          refine w_aload_n dX0_addCell_64 rfl ?_
          refine v_getR (j := bI b 5) dX0_addCell_65 fX0_24 (sO_b hb (by decide) rfl) rfl (r0_b hb (by decide)) ?_
          refine w_iload_n dX0_addCell_68 rfl ?_
          refine w_iload_n dX0_addCell_69 rfl ?_
          refine v_iast dX0_addCell_70 (sA_b hb (by decide) rfl) (by omega) (by omega) (by decide) ?_
          refine w_aload_n dX0_addCell_71 rfl ?_
          refine v_getR (j := bI b 6) dX0_addCell_72 fX0_32 (sO_b hb (by decide) rfl) rfl (r0_b hb (by decide)) ?_
          refine v_getR (j := bI b 8) dX0_addCell_75 fX0_87 (sO_b hb (by decide) rfl) rfl (r0_b hb (by decide)) ?_
          refine w_iload_n dX0_addCell_78 rfl ?_
          refine w_iconst (v := iI 1) dX0_addCell_79 rfl ?_
          refine v_zast dX0_addCell_80 (sA_b hb (by decide) rfl) (by omega) (by omega) (by decide) (by decide) ?_
          refine w_aload_n dX0_addCell_81 rfl ?_
          refine v_getR (j := bI b 9) dX0_addCell_82 fX0_36 (sO_b hb (by decide) rfl) rfl (r0_b hb (by decide)) ?_
          refine v_getR (j := bI b 11) dX0_addCell_85 fX0_87 (sO_b hb (by decide) rfl) rfl (r0_b hb (by decide)) ?_
          refine w_iload_n dX0_addCell_88 rfl ?_
          refine w_iconst (v := iI 1) dX0_addCell_89 rfl ?_
          refine v_zast dX0_addCell_90 (sA_b hb (by decide) rfl) (by omega) (by omega) (by decide) (by decide) ?_
          refine w_aload_n dX0_addCell_91 rfl ?_
          refine v_getR (j := bI b 2) dX0_addCell_92 fX0_15 (sO_b hb (by decide) rfl) rfl (r0_b hb (by decide)) ?_
          refine w_aload_n dX0_addCell_95 rfl ?_
          refine v_getI dX0_addCell_96 fX0_68 (sO_b hb (by decide) rfl) (Or.inl rfl) (fun z96 e96 b96 => ?_)
          have f96 : z96 = n := by
            rw [e96]
            (repeat rw [rd_wr_row (by unfold bI; omega)])
            (repeat rw [rd_wr_ne (by omega)])
            (repeat rw [rd_wr_row (by unfold bI; omega)])
            exact hn
          refine w_iload_n dX0_addCell_99 rfl ?_
          refine v_iast dX0_addCell_100 (sA_b hb (by decide) rfl) (by omega) (by omega) (by decide) ?_
          refine w_aload_n dX0_addCell_101 rfl ?_
          refine v_getR (j := bI b 3) dX0_addCell_102 fX0_18 (sO_b hb (by decide) rfl) rfl (r0_b hb (by decide)) ?_
          refine w_aload_n dX0_addCell_105 rfl ?_
          refine v_getI dX0_addCell_106 fX0_68 (sO_b hb (by decide) rfl) (Or.inl rfl) (fun z106 e106 b106 => ?_)
          have f106 : z106 = n := by
            rw [e106]
            (repeat rw [rd_wr_row (by unfold bI; omega)])
            (repeat rw [rd_wr_ne (by omega)])
            (repeat rw [rd_wr_row (by unfold bI; omega)])
            exact hn
          refine w_iload_n dX0_addCell_109 rfl ?_
          refine v_iast dX0_addCell_110 (sA_b hb (by decide) rfl) (by omega) (by omega) (by decide) ?_
          refine w_aload_n dX0_addCell_111 rfl ?_
          refine w_dup dX0_addCell_112 rfl ?_
          refine v_getI dX0_addCell_113 fX0_68 (sO_b hb (by decide) rfl) (Or.inl rfl) (fun z113 e113 b113 => ?_)
          have f113 : z113 = n := by
            rw [e113]
            (repeat rw [rd_wr_row (by unfold bI; omega)])
            (repeat rw [rd_wr_ne (by omega)])
            (repeat rw [rd_wr_row (by unfold bI; omega)])
            exact hn
          refine w_iconst (v := iI 1) dX0_addCell_116 rfl ?_
          refine v_iadd dX0_addCell_117 ?_
          refine v_putI dX0_addCell_118 fX0_68 (sO_b hb (by decide) rfl) rfl (Or.inl rfl) ?_
          refine v_vret dX0_addCell_121 rfl ⟨rfl, rfl⟩ ?_
          have h96 : z96.toNat = n := by omega
          have h106 : z106.toNat = n := by omega
          refine hy _ ⟨fun k => ?_, fun k => ?_, fun k => ?_, fun k => ?_, fun k => ?_, fun k => ?_, fun k => ?_, ?_, ?_, ?_, fun id k hk => ?_⟩
          · (repeat rw [rd_wr_row (by unfold bI; omega)])
            rw [rd_wr (by omega) (by omega)]
            by_cases g : k = 10 * r + c
            · rw [if_pos ⟨rfl, by omega⟩, if_pos g]
            · rw [if_neg (by omega), if_neg g]
          · (repeat rw [rd_wr_row (by unfold bI; omega)])
            rw [rd_wr (by omega) (by omega)]
            (repeat rw [rd_wr_row (by unfold bI; omega)])
            by_cases g : k = n
            · rw [if_pos ⟨rfl, by omega⟩, if_pos g]
            · rw [if_neg (by omega), if_neg g]
          · (repeat rw [rd_wr_row (by unfold bI; omega)])
            rw [rd_wr (by omega) (by omega)]
            (repeat rw [rd_wr_row (by unfold bI; omega)])
            by_cases g : k = n
            · rw [if_pos ⟨rfl, by omega⟩, if_pos g]
            · rw [if_neg (by omega), if_neg g]
          · (repeat rw [rd_wr_row (by unfold bI; omega)])
            first
              | (rw [rd_wr (by omega) (by omega)]
                 (repeat rw [rd_wr_row (by unfold bI; omega)])
                 by_cases g : k = r
                 · rw [if_pos ⟨rfl, by omega⟩, if_pos ⟨g, by omega⟩]
                 · rw [if_neg (by omega), if_neg (fun z => g z.1)])
              | rw [if_neg (by omega)]
          · (repeat rw [rd_wr_row (by unfold bI; omega)])
            rw [rd_wr (by omega) (by omega)]
            (repeat rw [rd_wr_row (by unfold bI; omega)])
            by_cases g : k = r
            · rw [if_pos ⟨rfl, by omega⟩, if_pos g]
            · rw [if_neg (by omega), if_neg g]
          · (repeat rw [rd_wr_row (by unfold bI; omega)])
            rw [rd_wr (by omega) (by omega)]
            (repeat rw [rd_wr_row (by unfold bI; omega)])
            by_cases g : k = r
            · rw [if_pos ⟨rfl, by omega⟩, if_pos g]
            · rw [if_neg (by omega), if_neg g]
          · (repeat rw [rd_wr_row (by unfold bI; omega)])
            rw [rd_wr (by omega) (by omega)]
            (repeat rw [rd_wr_row (by unfold bI; omega)])
            by_cases g : k = c
            · rw [if_pos ⟨rfl, by omega⟩, if_pos g]
            · rw [if_neg (by omega), if_neg g]
          · rw [rd_wr_eq (by omega) (by omega)]; omega
          · rw [rd_wr_ne (by omega)]
            (repeat rw [rd_wr_row (by unfold bI; omega)])
            first
              | (rw [rd_wr_ne (by omega), rd_wr_eq (by omega) (by omega), if_pos ⟨q13, by omega⟩]; exact f29)
              | (rw [rd_wr_ne (by omega)]; (repeat rw [rd_wr_row (by unfold bI; omega)]); rw [if_neg (by omega)])
              | rw [if_neg (by omega)]
          · rw [rd_wr_ne (by omega)]
            (repeat rw [rd_wr_row (by unfold bI; omega)])
            first
              | (rw [rd_wr_eq (by omega) (by omega), if_pos ⟨q13, by omega⟩]; done)
              | (rw [rd_wr_eq (by omega) (by omega), if_neg (by omega)]; exact f37)
              | rw [if_neg (by omega)]
          · (try dsimp only at hk)
            (repeat rw [rd_wr_ne (by omega)])
    · refine w_aload_n dX0_addCell_27 rfl ?_
      refine w_aload_n dX0_addCell_28 rfl ?_
      refine v_getI dX0_addCell_29 fX0_68 (sO_b hb (by decide) rfl) (Or.inl rfl) (fun z29 e29 b29 => ?_)
      have f29 : z29 = n := by rw [e29, rd_wr_row (by unfold bI; omega)]; exact hn
      refine v_putI dX0_addCell_32 fX0_71 (sO_b hb (by decide) rfl) rfl (Or.inl rfl) ?_
      refine w_aload_n dX0_addCell_35 rfl ?_
      refine w_aload_n dX0_addCell_36 rfl ?_
      refine v_getI dX0_addCell_37 fX0_74 (sO_b hb (by decide) rfl) (Or.inl rfl) (fun z37 e37 b37 => ?_)
      have f37 : z37 = rd I (bI b 0) 8 := by
        rw [e37]
        first | rw [rd_wr_ne (by omega), rd_wr_row (by unfold bI; omega)] | rw [rd_wr_row (by unfold bI; omega)]
      refine w_iload_n dX0_addCell_40 rfl ?_
      refine v_callS2 dX0_addCell_41 lX0_81 vJ9_max_7cf53 (by decide) rfl rfl (Nat.le_of_ble_eq_true rfl) ?_
      refine j9_max (by omega) (by omega) (fun q41 => ?_) (fun q41 => ?_)
      · refine v_putI dX0_addCell_44 fX0_74 (sO_b hb (by decide) rfl) rfl (Or.inl rfl) ?_
        refine w_aload_n dX0_addCell_47 rfl ?_
        refine v_getR (j := bI b 4) dX0_addCell_48 fX0_21 (sO_b hb (by decide) rfl) rfl (r0_b hb (by decide)) ?_
        refine w_iload_n dX0_addCell_51 rfl ?_
        refine v_iald dX0_addCell_52 (sA_b hb (by decide) rfl) (by omega) (by omega) (by decide) (fun z52 e52 b52 => ?_)
        have f52 : z52 = rd I (bI b 4) r := by
          rw [e52, Int.toNat_natCast]
          (repeat rw [rd_wr_row (by unfold bI; omega)])
        refine w_iconst (v := iI (-1)) dX0_addCell_53 rfl ?_
        refine v_icmp_ne 64 dX0_addCell_54 (by decide) (by omega) (by omega) (fun c54 => ?_) (fun c54 => ?_)
        · refine w_aload_n dX0_addCell_64 rfl ?_
          refine v_getR (j := bI b 5) dX0_addCell_65 fX0_24 (sO_b hb (by decide) rfl) rfl (r0_b hb (by decide)) ?_
          refine w_iload_n dX0_addCell_68 rfl ?_
          refine w_iload_n dX0_addCell_69 rfl ?_
          refine v_iast dX0_addCell_70 (sA_b hb (by decide) rfl) (by omega) (by omega) (by decide) ?_
          refine w_aload_n dX0_addCell_71 rfl ?_
          refine v_getR (j := bI b 6) dX0_addCell_72 fX0_32 (sO_b hb (by decide) rfl) rfl (r0_b hb (by decide)) ?_
          refine v_getR (j := bI b 8) dX0_addCell_75 fX0_87 (sO_b hb (by decide) rfl) rfl (r0_b hb (by decide)) ?_
          refine w_iload_n dX0_addCell_78 rfl ?_
          refine w_iconst (v := iI 1) dX0_addCell_79 rfl ?_
          refine v_zast dX0_addCell_80 (sA_b hb (by decide) rfl) (by omega) (by omega) (by decide) (by decide) ?_
          refine w_aload_n dX0_addCell_81 rfl ?_
          refine v_getR (j := bI b 9) dX0_addCell_82 fX0_36 (sO_b hb (by decide) rfl) rfl (r0_b hb (by decide)) ?_
          refine v_getR (j := bI b 11) dX0_addCell_85 fX0_87 (sO_b hb (by decide) rfl) rfl (r0_b hb (by decide)) ?_
          refine w_iload_n dX0_addCell_88 rfl ?_
          refine w_iconst (v := iI 1) dX0_addCell_89 rfl ?_
          refine v_zast dX0_addCell_90 (sA_b hb (by decide) rfl) (by omega) (by omega) (by decide) (by decide) ?_
          refine w_aload_n dX0_addCell_91 rfl ?_
          refine v_getR (j := bI b 2) dX0_addCell_92 fX0_15 (sO_b hb (by decide) rfl) rfl (r0_b hb (by decide)) ?_
          refine w_aload_n dX0_addCell_95 rfl ?_
          refine v_getI dX0_addCell_96 fX0_68 (sO_b hb (by decide) rfl) (Or.inl rfl) (fun z96 e96 b96 => ?_)
          have f96 : z96 = n := by
            rw [e96]
            (repeat rw [rd_wr_row (by unfold bI; omega)])
            (repeat rw [rd_wr_ne (by omega)])
            (repeat rw [rd_wr_row (by unfold bI; omega)])
            exact hn
          refine w_iload_n dX0_addCell_99 rfl ?_
          refine v_iast dX0_addCell_100 (sA_b hb (by decide) rfl) (by omega) (by omega) (by decide) ?_
          refine w_aload_n dX0_addCell_101 rfl ?_
          refine v_getR (j := bI b 3) dX0_addCell_102 fX0_18 (sO_b hb (by decide) rfl) rfl (r0_b hb (by decide)) ?_
          refine w_aload_n dX0_addCell_105 rfl ?_
          refine v_getI dX0_addCell_106 fX0_68 (sO_b hb (by decide) rfl) (Or.inl rfl) (fun z106 e106 b106 => ?_)
          have f106 : z106 = n := by
            rw [e106]
            (repeat rw [rd_wr_row (by unfold bI; omega)])
            (repeat rw [rd_wr_ne (by omega)])
            (repeat rw [rd_wr_row (by unfold bI; omega)])
            exact hn
          refine w_iload_n dX0_addCell_109 rfl ?_
          refine v_iast dX0_addCell_110 (sA_b hb (by decide) rfl) (by omega) (by omega) (by decide) ?_
          refine w_aload_n dX0_addCell_111 rfl ?_
          refine w_dup dX0_addCell_112 rfl ?_
          refine v_getI dX0_addCell_113 fX0_68 (sO_b hb (by decide) rfl) (Or.inl rfl) (fun z113 e113 b113 => ?_)
          have f113 : z113 = n := by
            rw [e113]
            (repeat rw [rd_wr_row (by unfold bI; omega)])
            (repeat rw [rd_wr_ne (by omega)])
            (repeat rw [rd_wr_row (by unfold bI; omega)])
            exact hn
          refine w_iconst (v := iI 1) dX0_addCell_116 rfl ?_
          refine v_iadd dX0_addCell_117 ?_
          refine v_putI dX0_addCell_118 fX0_68 (sO_b hb (by decide) rfl) rfl (Or.inl rfl) ?_
          refine v_vret dX0_addCell_121 rfl ⟨rfl, rfl⟩ ?_
          have h96 : z96.toNat = n := by omega
          have h106 : z106.toNat = n := by omega
          refine hy _ ⟨fun k => ?_, fun k => ?_, fun k => ?_, fun k => ?_, fun k => ?_, fun k => ?_, fun k => ?_, ?_, ?_, ?_, fun id k hk => ?_⟩
          · (repeat rw [rd_wr_row (by unfold bI; omega)])
            rw [rd_wr (by omega) (by omega)]
            by_cases g : k = 10 * r + c
            · rw [if_pos ⟨rfl, by omega⟩, if_pos g]
            · rw [if_neg (by omega), if_neg g]
          · (repeat rw [rd_wr_row (by unfold bI; omega)])
            rw [rd_wr (by omega) (by omega)]
            (repeat rw [rd_wr_row (by unfold bI; omega)])
            by_cases g : k = n
            · rw [if_pos ⟨rfl, by omega⟩, if_pos g]
            · rw [if_neg (by omega), if_neg g]
          · (repeat rw [rd_wr_row (by unfold bI; omega)])
            rw [rd_wr (by omega) (by omega)]
            (repeat rw [rd_wr_row (by unfold bI; omega)])
            by_cases g : k = n
            · rw [if_pos ⟨rfl, by omega⟩, if_pos g]
            · rw [if_neg (by omega), if_neg g]
          · (repeat rw [rd_wr_row (by unfold bI; omega)])
            first
              | (rw [rd_wr (by omega) (by omega)]
                 (repeat rw [rd_wr_row (by unfold bI; omega)])
                 by_cases g : k = r
                 · rw [if_pos ⟨rfl, by omega⟩, if_pos ⟨g, by omega⟩]
                 · rw [if_neg (by omega), if_neg (fun z => g z.1)])
              | rw [if_neg (by omega)]
          · (repeat rw [rd_wr_row (by unfold bI; omega)])
            rw [rd_wr (by omega) (by omega)]
            (repeat rw [rd_wr_row (by unfold bI; omega)])
            by_cases g : k = r
            · rw [if_pos ⟨rfl, by omega⟩, if_pos g]
            · rw [if_neg (by omega), if_neg g]
          · (repeat rw [rd_wr_row (by unfold bI; omega)])
            rw [rd_wr (by omega) (by omega)]
            (repeat rw [rd_wr_row (by unfold bI; omega)])
            by_cases g : k = r
            · rw [if_pos ⟨rfl, by omega⟩, if_pos g]
            · rw [if_neg (by omega), if_neg g]
          · (repeat rw [rd_wr_row (by unfold bI; omega)])
            rw [rd_wr (by omega) (by omega)]
            (repeat rw [rd_wr_row (by unfold bI; omega)])
            by_cases g : k = c
            · rw [if_pos ⟨rfl, by omega⟩, if_pos g]
            · rw [if_neg (by omega), if_neg g]
          · rw [rd_wr_eq (by omega) (by omega)]; omega
          · rw [rd_wr_ne (by omega)]
            (repeat rw [rd_wr_row (by unfold bI; omega)])
            first
              | (rw [rd_wr_ne (by omega), rd_wr_eq (by omega) (by omega), if_pos ⟨q13, by omega⟩]; exact f29)
              | (rw [rd_wr_ne (by omega)]; (repeat rw [rd_wr_row (by unfold bI; omega)]); rw [if_neg (by omega)])
              | rw [if_neg (by omega)]
          · rw [rd_wr_ne (by omega)]
            (repeat rw [rd_wr_row (by unfold bI; omega)])
            first
              | (rw [rd_wr_eq (by omega) (by omega), if_pos ⟨q13, by omega⟩]; done)
              | (rw [rd_wr_eq (by omega) (by omega), if_neg (by omega)]; exact f37)
              | rw [if_neg (by omega)]
          · (try dsimp only at hk)
            (repeat rw [rd_wr_ne (by omega)])
        · refine w_aload_n dX0_addCell_57 rfl ?_
          refine v_getR (j := bI b 4) dX0_addCell_58 fX0_21 (sO_b hb (by decide) rfl) rfl (r0_b hb (by decide)) ?_
          refine w_iload_n dX0_addCell_61 rfl ?_
          refine w_iload_n dX0_addCell_62 rfl ?_
          refine v_iast dX0_addCell_63 (sA_b hb (by decide) rfl) (by omega) (by omega) (by decide) ?_
          refine w_aload_n dX0_addCell_64 rfl ?_
          refine v_getR (j := bI b 5) dX0_addCell_65 fX0_24 (sO_b hb (by decide) rfl) rfl (r0_b hb (by decide)) ?_
          refine w_iload_n dX0_addCell_68 rfl ?_
          refine w_iload_n dX0_addCell_69 rfl ?_
          refine v_iast dX0_addCell_70 (sA_b hb (by decide) rfl) (by omega) (by omega) (by decide) ?_
          refine w_aload_n dX0_addCell_71 rfl ?_
          refine v_getR (j := bI b 6) dX0_addCell_72 fX0_32 (sO_b hb (by decide) rfl) rfl (r0_b hb (by decide)) ?_
          refine v_getR (j := bI b 8) dX0_addCell_75 fX0_87 (sO_b hb (by decide) rfl) rfl (r0_b hb (by decide)) ?_
          refine w_iload_n dX0_addCell_78 rfl ?_
          refine w_iconst (v := iI 1) dX0_addCell_79 rfl ?_
          refine v_zast dX0_addCell_80 (sA_b hb (by decide) rfl) (by omega) (by omega) (by decide) (by decide) ?_
          refine w_aload_n dX0_addCell_81 rfl ?_
          refine v_getR (j := bI b 9) dX0_addCell_82 fX0_36 (sO_b hb (by decide) rfl) rfl (r0_b hb (by decide)) ?_
          refine v_getR (j := bI b 11) dX0_addCell_85 fX0_87 (sO_b hb (by decide) rfl) rfl (r0_b hb (by decide)) ?_
          refine w_iload_n dX0_addCell_88 rfl ?_
          refine w_iconst (v := iI 1) dX0_addCell_89 rfl ?_
          refine v_zast dX0_addCell_90 (sA_b hb (by decide) rfl) (by omega) (by omega) (by decide) (by decide) ?_
          refine w_aload_n dX0_addCell_91 rfl ?_
          refine v_getR (j := bI b 2) dX0_addCell_92 fX0_15 (sO_b hb (by decide) rfl) rfl (r0_b hb (by decide)) ?_
          refine w_aload_n dX0_addCell_95 rfl ?_
          refine v_getI dX0_addCell_96 fX0_68 (sO_b hb (by decide) rfl) (Or.inl rfl) (fun z96 e96 b96 => ?_)
          have f96 : z96 = n := by
            rw [e96]
            (repeat rw [rd_wr_row (by unfold bI; omega)])
            (repeat rw [rd_wr_ne (by omega)])
            (repeat rw [rd_wr_row (by unfold bI; omega)])
            exact hn
          refine w_iload_n dX0_addCell_99 rfl ?_
          refine v_iast dX0_addCell_100 (sA_b hb (by decide) rfl) (by omega) (by omega) (by decide) ?_
          refine w_aload_n dX0_addCell_101 rfl ?_
          refine v_getR (j := bI b 3) dX0_addCell_102 fX0_18 (sO_b hb (by decide) rfl) rfl (r0_b hb (by decide)) ?_
          refine w_aload_n dX0_addCell_105 rfl ?_
          refine v_getI dX0_addCell_106 fX0_68 (sO_b hb (by decide) rfl) (Or.inl rfl) (fun z106 e106 b106 => ?_)
          have f106 : z106 = n := by
            rw [e106]
            (repeat rw [rd_wr_row (by unfold bI; omega)])
            (repeat rw [rd_wr_ne (by omega)])
            (repeat rw [rd_wr_row (by unfold bI; omega)])
            exact hn
          refine w_iload_n dX0_addCell_109 rfl ?_
          refine v_iast dX0_addCell_110 (sA_b hb (by decide) rfl) (by omega) (by omega) (by decide) ?_
          refine w_aload_n dX0_addCell_111 rfl ?_
          refine w_dup dX0_addCell_112 rfl ?_
          refine v_getI dX0_addCell_113 fX0_68 (sO_b hb (by decide) rfl) (Or.inl rfl) (fun z113 e113 b113 => ?_)
          have f113 : z113 = n := by
            rw [e113]
            (repeat rw [rd_wr_row (by unfold bI; omega)])
            (repeat rw [rd_wr_ne (by omega)])
            (repeat rw [rd_wr_row (by unfold bI; omega)])
            exact hn
          refine w_iconst (v := iI 1) dX0_addCell_116 rfl ?_
          refine v_iadd dX0_addCell_117 ?_
          refine v_putI dX0_addCell_118 fX0_68 (sO_b hb (by decide) rfl) rfl (Or.inl rfl) ?_
          refine v_vret dX0_addCell_121 rfl ⟨rfl, rfl⟩ ?_
          have h96 : z96.toNat = n := by omega
          have h106 : z106.toNat = n := by omega
          refine hy _ ⟨fun k => ?_, fun k => ?_, fun k => ?_, fun k => ?_, fun k => ?_, fun k => ?_, fun k => ?_, ?_, ?_, ?_, fun id k hk => ?_⟩
          · (repeat rw [rd_wr_row (by unfold bI; omega)])
            rw [rd_wr (by omega) (by omega)]
            by_cases g : k = 10 * r + c
            · rw [if_pos ⟨rfl, by omega⟩, if_pos g]
            · rw [if_neg (by omega), if_neg g]
          · (repeat rw [rd_wr_row (by unfold bI; omega)])
            rw [rd_wr (by omega) (by omega)]
            (repeat rw [rd_wr_row (by unfold bI; omega)])
            by_cases g : k = n
            · rw [if_pos ⟨rfl, by omega⟩, if_pos g]
            · rw [if_neg (by omega), if_neg g]
          · (repeat rw [rd_wr_row (by unfold bI; omega)])
            rw [rd_wr (by omega) (by omega)]
            (repeat rw [rd_wr_row (by unfold bI; omega)])
            by_cases g : k = n
            · rw [if_pos ⟨rfl, by omega⟩, if_pos g]
            · rw [if_neg (by omega), if_neg g]
          · (repeat rw [rd_wr_row (by unfold bI; omega)])
            first
              | (rw [rd_wr (by omega) (by omega)]
                 (repeat rw [rd_wr_row (by unfold bI; omega)])
                 by_cases g : k = r
                 · rw [if_pos ⟨rfl, by omega⟩, if_pos ⟨g, by omega⟩]
                 · rw [if_neg (by omega), if_neg (fun z => g z.1)])
              | rw [if_neg (by omega)]
          · (repeat rw [rd_wr_row (by unfold bI; omega)])
            rw [rd_wr (by omega) (by omega)]
            (repeat rw [rd_wr_row (by unfold bI; omega)])
            by_cases g : k = r
            · rw [if_pos ⟨rfl, by omega⟩, if_pos g]
            · rw [if_neg (by omega), if_neg g]
          · (repeat rw [rd_wr_row (by unfold bI; omega)])
            rw [rd_wr (by omega) (by omega)]
            (repeat rw [rd_wr_row (by unfold bI; omega)])
            by_cases g : k = r
            · rw [if_pos ⟨rfl, by omega⟩, if_pos g]
            · rw [if_neg (by omega), if_neg g]
          · (repeat rw [rd_wr_row (by unfold bI; omega)])
            rw [rd_wr (by omega) (by omega)]
            (repeat rw [rd_wr_row (by unfold bI; omega)])
            by_cases g : k = c
            · rw [if_pos ⟨rfl, by omega⟩, if_pos g]
            · rw [if_neg (by omega), if_neg g]
          · rw [rd_wr_eq (by omega) (by omega)]; omega
          · rw [rd_wr_ne (by omega)]
            (repeat rw [rd_wr_row (by unfold bI; omega)])
            first
              | (rw [rd_wr_ne (by omega), rd_wr_eq (by omega) (by omega), if_pos ⟨q13, by omega⟩]; exact f29)
              | (rw [rd_wr_ne (by omega)]; (repeat rw [rd_wr_row (by unfold bI; omega)]); rw [if_neg (by omega)])
              | rw [if_neg (by omega)]
          · rw [rd_wr_ne (by omega)]
            (repeat rw [rd_wr_row (by unfold bI; omega)])
            first
              | (rw [rd_wr_eq (by omega) (by omega), if_pos ⟨q13, by omega⟩]; done)
              | (rw [rd_wr_eq (by omega) (by omega), if_neg (by omega)]; exact f37)
              | rw [if_neg (by omega)]
          · (try dsimp only at hk)
            (repeat rw [rd_wr_ne (by omega)])
      · refine v_putI dX0_addCell_44 fX0_74 (sO_b hb (by decide) rfl) rfl (Or.inl rfl) ?_
        refine w_aload_n dX0_addCell_47 rfl ?_
        refine v_getR (j := bI b 4) dX0_addCell_48 fX0_21 (sO_b hb (by decide) rfl) rfl (r0_b hb (by decide)) ?_
        refine w_iload_n dX0_addCell_51 rfl ?_
        refine v_iald dX0_addCell_52 (sA_b hb (by decide) rfl) (by omega) (by omega) (by decide) (fun z52 e52 b52 => ?_)
        have f52 : z52 = rd I (bI b 4) r := by
          rw [e52, Int.toNat_natCast]
          (repeat rw [rd_wr_row (by unfold bI; omega)])
        refine w_iconst (v := iI (-1)) dX0_addCell_53 rfl ?_
        refine v_icmp_ne 64 dX0_addCell_54 (by decide) (by omega) (by omega) (fun c54 => ?_) (fun c54 => ?_)
        · refine w_aload_n dX0_addCell_64 rfl ?_
          refine v_getR (j := bI b 5) dX0_addCell_65 fX0_24 (sO_b hb (by decide) rfl) rfl (r0_b hb (by decide)) ?_
          refine w_iload_n dX0_addCell_68 rfl ?_
          refine w_iload_n dX0_addCell_69 rfl ?_
          refine v_iast dX0_addCell_70 (sA_b hb (by decide) rfl) (by omega) (by omega) (by decide) ?_
          refine w_aload_n dX0_addCell_71 rfl ?_
          refine v_getR (j := bI b 6) dX0_addCell_72 fX0_32 (sO_b hb (by decide) rfl) rfl (r0_b hb (by decide)) ?_
          refine v_getR (j := bI b 8) dX0_addCell_75 fX0_87 (sO_b hb (by decide) rfl) rfl (r0_b hb (by decide)) ?_
          refine w_iload_n dX0_addCell_78 rfl ?_
          refine w_iconst (v := iI 1) dX0_addCell_79 rfl ?_
          refine v_zast dX0_addCell_80 (sA_b hb (by decide) rfl) (by omega) (by omega) (by decide) (by decide) ?_
          refine w_aload_n dX0_addCell_81 rfl ?_
          refine v_getR (j := bI b 9) dX0_addCell_82 fX0_36 (sO_b hb (by decide) rfl) rfl (r0_b hb (by decide)) ?_
          refine v_getR (j := bI b 11) dX0_addCell_85 fX0_87 (sO_b hb (by decide) rfl) rfl (r0_b hb (by decide)) ?_
          refine w_iload_n dX0_addCell_88 rfl ?_
          refine w_iconst (v := iI 1) dX0_addCell_89 rfl ?_
          refine v_zast dX0_addCell_90 (sA_b hb (by decide) rfl) (by omega) (by omega) (by decide) (by decide) ?_
          refine w_aload_n dX0_addCell_91 rfl ?_
          refine v_getR (j := bI b 2) dX0_addCell_92 fX0_15 (sO_b hb (by decide) rfl) rfl (r0_b hb (by decide)) ?_
          refine w_aload_n dX0_addCell_95 rfl ?_
          refine v_getI dX0_addCell_96 fX0_68 (sO_b hb (by decide) rfl) (Or.inl rfl) (fun z96 e96 b96 => ?_)
          have f96 : z96 = n := by
            rw [e96]
            (repeat rw [rd_wr_row (by unfold bI; omega)])
            (repeat rw [rd_wr_ne (by omega)])
            (repeat rw [rd_wr_row (by unfold bI; omega)])
            exact hn
          refine w_iload_n dX0_addCell_99 rfl ?_
          refine v_iast dX0_addCell_100 (sA_b hb (by decide) rfl) (by omega) (by omega) (by decide) ?_
          refine w_aload_n dX0_addCell_101 rfl ?_
          refine v_getR (j := bI b 3) dX0_addCell_102 fX0_18 (sO_b hb (by decide) rfl) rfl (r0_b hb (by decide)) ?_
          refine w_aload_n dX0_addCell_105 rfl ?_
          refine v_getI dX0_addCell_106 fX0_68 (sO_b hb (by decide) rfl) (Or.inl rfl) (fun z106 e106 b106 => ?_)
          have f106 : z106 = n := by
            rw [e106]
            (repeat rw [rd_wr_row (by unfold bI; omega)])
            (repeat rw [rd_wr_ne (by omega)])
            (repeat rw [rd_wr_row (by unfold bI; omega)])
            exact hn
          refine w_iload_n dX0_addCell_109 rfl ?_
          refine v_iast dX0_addCell_110 (sA_b hb (by decide) rfl) (by omega) (by omega) (by decide) ?_
          refine w_aload_n dX0_addCell_111 rfl ?_
          refine w_dup dX0_addCell_112 rfl ?_
          refine v_getI dX0_addCell_113 fX0_68 (sO_b hb (by decide) rfl) (Or.inl rfl) (fun z113 e113 b113 => ?_)
          have f113 : z113 = n := by
            rw [e113]
            (repeat rw [rd_wr_row (by unfold bI; omega)])
            (repeat rw [rd_wr_ne (by omega)])
            (repeat rw [rd_wr_row (by unfold bI; omega)])
            exact hn
          refine w_iconst (v := iI 1) dX0_addCell_116 rfl ?_
          refine v_iadd dX0_addCell_117 ?_
          refine v_putI dX0_addCell_118 fX0_68 (sO_b hb (by decide) rfl) rfl (Or.inl rfl) ?_
          refine v_vret dX0_addCell_121 rfl ⟨rfl, rfl⟩ ?_
          have h96 : z96.toNat = n := by omega
          have h106 : z106.toNat = n := by omega
          refine hy _ ⟨fun k => ?_, fun k => ?_, fun k => ?_, fun k => ?_, fun k => ?_, fun k => ?_, fun k => ?_, ?_, ?_, ?_, fun id k hk => ?_⟩
          · (repeat rw [rd_wr_row (by unfold bI; omega)])
            rw [rd_wr (by omega) (by omega)]
            by_cases g : k = 10 * r + c
            · rw [if_pos ⟨rfl, by omega⟩, if_pos g]
            · rw [if_neg (by omega), if_neg g]
          · (repeat rw [rd_wr_row (by unfold bI; omega)])
            rw [rd_wr (by omega) (by omega)]
            (repeat rw [rd_wr_row (by unfold bI; omega)])
            by_cases g : k = n
            · rw [if_pos ⟨rfl, by omega⟩, if_pos g]
            · rw [if_neg (by omega), if_neg g]
          · (repeat rw [rd_wr_row (by unfold bI; omega)])
            rw [rd_wr (by omega) (by omega)]
            (repeat rw [rd_wr_row (by unfold bI; omega)])
            by_cases g : k = n
            · rw [if_pos ⟨rfl, by omega⟩, if_pos g]
            · rw [if_neg (by omega), if_neg g]
          · (repeat rw [rd_wr_row (by unfold bI; omega)])
            first
              | (rw [rd_wr (by omega) (by omega)]
                 (repeat rw [rd_wr_row (by unfold bI; omega)])
                 by_cases g : k = r
                 · rw [if_pos ⟨rfl, by omega⟩, if_pos ⟨g, by omega⟩]
                 · rw [if_neg (by omega), if_neg (fun z => g z.1)])
              | rw [if_neg (by omega)]
          · (repeat rw [rd_wr_row (by unfold bI; omega)])
            rw [rd_wr (by omega) (by omega)]
            (repeat rw [rd_wr_row (by unfold bI; omega)])
            by_cases g : k = r
            · rw [if_pos ⟨rfl, by omega⟩, if_pos g]
            · rw [if_neg (by omega), if_neg g]
          · (repeat rw [rd_wr_row (by unfold bI; omega)])
            rw [rd_wr (by omega) (by omega)]
            (repeat rw [rd_wr_row (by unfold bI; omega)])
            by_cases g : k = r
            · rw [if_pos ⟨rfl, by omega⟩, if_pos g]
            · rw [if_neg (by omega), if_neg g]
          · (repeat rw [rd_wr_row (by unfold bI; omega)])
            rw [rd_wr (by omega) (by omega)]
            (repeat rw [rd_wr_row (by unfold bI; omega)])
            by_cases g : k = c
            · rw [if_pos ⟨rfl, by omega⟩, if_pos g]
            · rw [if_neg (by omega), if_neg g]
          · rw [rd_wr_eq (by omega) (by omega)]; omega
          · rw [rd_wr_ne (by omega)]
            (repeat rw [rd_wr_row (by unfold bI; omega)])
            first
              | (rw [rd_wr_ne (by omega), rd_wr_eq (by omega) (by omega), if_pos ⟨q13, by omega⟩]; exact f29)
              | (rw [rd_wr_ne (by omega)]; (repeat rw [rd_wr_row (by unfold bI; omega)]); rw [if_neg (by omega)])
              | rw [if_neg (by omega)]
          · rw [rd_wr_ne (by omega)]
            (repeat rw [rd_wr_row (by unfold bI; omega)])
            first
              | (rw [rd_wr_eq (by omega) (by omega), if_pos ⟨q13, by omega⟩]; done)
              | (rw [rd_wr_eq (by omega) (by omega), if_neg (by omega)]; exact f37)
              | rw [if_neg (by omega)]
          · (try dsimp only at hk)
            (repeat rw [rd_wr_ne (by omega)])
        · refine w_aload_n dX0_addCell_57 rfl ?_
          refine v_getR (j := bI b 4) dX0_addCell_58 fX0_21 (sO_b hb (by decide) rfl) rfl (r0_b hb (by decide)) ?_
          refine w_iload_n dX0_addCell_61 rfl ?_
          refine w_iload_n dX0_addCell_62 rfl ?_
          refine v_iast dX0_addCell_63 (sA_b hb (by decide) rfl) (by omega) (by omega) (by decide) ?_
          refine w_aload_n dX0_addCell_64 rfl ?_
          refine v_getR (j := bI b 5) dX0_addCell_65 fX0_24 (sO_b hb (by decide) rfl) rfl (r0_b hb (by decide)) ?_
          refine w_iload_n dX0_addCell_68 rfl ?_
          refine w_iload_n dX0_addCell_69 rfl ?_
          refine v_iast dX0_addCell_70 (sA_b hb (by decide) rfl) (by omega) (by omega) (by decide) ?_
          refine w_aload_n dX0_addCell_71 rfl ?_
          refine v_getR (j := bI b 6) dX0_addCell_72 fX0_32 (sO_b hb (by decide) rfl) rfl (r0_b hb (by decide)) ?_
          refine v_getR (j := bI b 8) dX0_addCell_75 fX0_87 (sO_b hb (by decide) rfl) rfl (r0_b hb (by decide)) ?_
          refine w_iload_n dX0_addCell_78 rfl ?_
          refine w_iconst (v := iI 1) dX0_addCell_79 rfl ?_
          refine v_zast dX0_addCell_80 (sA_b hb (by decide) rfl) (by omega) (by omega) (by decide) (by decide) ?_
          refine w_aload_n dX0_addCell_81 rfl ?_
          refine v_getR (j := bI b 9) dX0_addCell_82 fX0_36 (sO_b hb (by decide) rfl) rfl (r0_b hb (by decide)) ?_
          refine v_getR (j := bI b 11) dX0_addCell_85 fX0_87 (sO_b hb (by decide) rfl) rfl (r0_b hb (by decide)) ?_
          refine w_iload_n dX0_addCell_88 rfl ?_
          refine w_iconst (v := iI 1) dX0_addCell_89 rfl ?_
          refine v_zast dX0_addCell_90 (sA_b hb (by decide) rfl) (by omega) (by omega) (by decide) (by decide) ?_
          refine w_aload_n dX0_addCell_91 rfl ?_
          refine v_getR (j := bI b 2) dX0_addCell_92 fX0_15 (sO_b hb (by decide) rfl) rfl (r0_b hb (by decide)) ?_
          refine w_aload_n dX0_addCell_95 rfl ?_
          refine v_getI dX0_addCell_96 fX0_68 (sO_b hb (by decide) rfl) (Or.inl rfl) (fun z96 e96 b96 => ?_)
          have f96 : z96 = n := by
            rw [e96]
            (repeat rw [rd_wr_row (by unfold bI; omega)])
            (repeat rw [rd_wr_ne (by omega)])
            (repeat rw [rd_wr_row (by unfold bI; omega)])
            exact hn
          refine w_iload_n dX0_addCell_99 rfl ?_
          refine v_iast dX0_addCell_100 (sA_b hb (by decide) rfl) (by omega) (by omega) (by decide) ?_
          refine w_aload_n dX0_addCell_101 rfl ?_
          refine v_getR (j := bI b 3) dX0_addCell_102 fX0_18 (sO_b hb (by decide) rfl) rfl (r0_b hb (by decide)) ?_
          refine w_aload_n dX0_addCell_105 rfl ?_
          refine v_getI dX0_addCell_106 fX0_68 (sO_b hb (by decide) rfl) (Or.inl rfl) (fun z106 e106 b106 => ?_)
          have f106 : z106 = n := by
            rw [e106]
            (repeat rw [rd_wr_row (by unfold bI; omega)])
            (repeat rw [rd_wr_ne (by omega)])
            (repeat rw [rd_wr_row (by unfold bI; omega)])
            exact hn
          refine w_iload_n dX0_addCell_109 rfl ?_
          refine v_iast dX0_addCell_110 (sA_b hb (by decide) rfl) (by omega) (by omega) (by decide) ?_
          refine w_aload_n dX0_addCell_111 rfl ?_
          refine w_dup dX0_addCell_112 rfl ?_
          refine v_getI dX0_addCell_113 fX0_68 (sO_b hb (by decide) rfl) (Or.inl rfl) (fun z113 e113 b113 => ?_)
          have f113 : z113 = n := by
            rw [e113]
            (repeat rw [rd_wr_row (by unfold bI; omega)])
            (repeat rw [rd_wr_ne (by omega)])
            (repeat rw [rd_wr_row (by unfold bI; omega)])
            exact hn
          refine w_iconst (v := iI 1) dX0_addCell_116 rfl ?_
          refine v_iadd dX0_addCell_117 ?_
          refine v_putI dX0_addCell_118 fX0_68 (sO_b hb (by decide) rfl) rfl (Or.inl rfl) ?_
          refine v_vret dX0_addCell_121 rfl ⟨rfl, rfl⟩ ?_
          have h96 : z96.toNat = n := by omega
          have h106 : z106.toNat = n := by omega
          refine hy _ ⟨fun k => ?_, fun k => ?_, fun k => ?_, fun k => ?_, fun k => ?_, fun k => ?_, fun k => ?_, ?_, ?_, ?_, fun id k hk => ?_⟩
          · (repeat rw [rd_wr_row (by unfold bI; omega)])
            rw [rd_wr (by omega) (by omega)]
            by_cases g : k = 10 * r + c
            · rw [if_pos ⟨rfl, by omega⟩, if_pos g]
            · rw [if_neg (by omega), if_neg g]
          · (repeat rw [rd_wr_row (by unfold bI; omega)])
            rw [rd_wr (by omega) (by omega)]
            (repeat rw [rd_wr_row (by unfold bI; omega)])
            by_cases g : k = n
            · rw [if_pos ⟨rfl, by omega⟩, if_pos g]
            · rw [if_neg (by omega), if_neg g]
          · (repeat rw [rd_wr_row (by unfold bI; omega)])
            rw [rd_wr (by omega) (by omega)]
            (repeat rw [rd_wr_row (by unfold bI; omega)])
            by_cases g : k = n
            · rw [if_pos ⟨rfl, by omega⟩, if_pos g]
            · rw [if_neg (by omega), if_neg g]
          · (repeat rw [rd_wr_row (by unfold bI; omega)])
            first
              | (rw [rd_wr (by omega) (by omega)]
                 (repeat rw [rd_wr_row (by unfold bI; omega)])
                 by_cases g : k = r
                 · rw [if_pos ⟨rfl, by omega⟩, if_pos ⟨g, by omega⟩]
                 · rw [if_neg (by omega), if_neg (fun z => g z.1)])
              | rw [if_neg (by omega)]
          · (repeat rw [rd_wr_row (by unfold bI; omega)])
            rw [rd_wr (by omega) (by omega)]
            (repeat rw [rd_wr_row (by unfold bI; omega)])
            by_cases g : k = r
            · rw [if_pos ⟨rfl, by omega⟩, if_pos g]
            · rw [if_neg (by omega), if_neg g]
          · (repeat rw [rd_wr_row (by unfold bI; omega)])
            rw [rd_wr (by omega) (by omega)]
            (repeat rw [rd_wr_row (by unfold bI; omega)])
            by_cases g : k = r
            · rw [if_pos ⟨rfl, by omega⟩, if_pos g]
            · rw [if_neg (by omega), if_neg g]
          · (repeat rw [rd_wr_row (by unfold bI; omega)])
            rw [rd_wr (by omega) (by omega)]
            (repeat rw [rd_wr_row (by unfold bI; omega)])
            by_cases g : k = c
            · rw [if_pos ⟨rfl, by omega⟩, if_pos g]
            · rw [if_neg (by omega), if_neg g]
          · rw [rd_wr_eq (by omega) (by omega)]; omega
          · rw [rd_wr_ne (by omega)]
            (repeat rw [rd_wr_row (by unfold bI; omega)])
            first
              | (rw [rd_wr_ne (by omega), rd_wr_eq (by omega) (by omega), if_pos ⟨q13, by omega⟩]; exact f29)
              | (rw [rd_wr_ne (by omega)]; (repeat rw [rd_wr_row (by unfold bI; omega)]); rw [if_neg (by omega)])
              | rw [if_neg (by omega)]
          · rw [rd_wr_ne (by omega)]
            (repeat rw [rd_wr_row (by unfold bI; omega)])
            first
              | (rw [rd_wr_eq (by omega) (by omega), if_pos ⟨q13, by omega⟩]; done)
              | (rw [rd_wr_eq (by omega) (by omega), if_neg (by omega)]; exact f37)
              | rw [if_neg (by omega)]
          · (try dsimp only at hk)
            (repeat rw [rd_wr_ne (by omega)])
  · refine v_if_eq 47 dX0_addCell_16 (by decide) (by decide) (fun _ => ?_) (fun q => absurd q (by decide))
    refine w_aload_n dX0_addCell_47 rfl ?_
    refine v_getR (j := bI b 4) dX0_addCell_48 fX0_21 (sO_b hb (by decide) rfl) rfl (r0_b hb (by decide)) ?_
    refine w_iload_n dX0_addCell_51 rfl ?_
    refine v_iald dX0_addCell_52 (sA_b hb (by decide) rfl) (by omega) (by omega) (by decide) (fun z52 e52 b52 => ?_)
    have f52 : z52 = rd I (bI b 4) r := by
      rw [e52, Int.toNat_natCast]
      (repeat rw [rd_wr_row (by unfold bI; omega)])
    refine w_iconst (v := iI (-1)) dX0_addCell_53 rfl ?_
    refine v_icmp_ne 64 dX0_addCell_54 (by decide) (by omega) (by omega) (fun c54 => ?_) (fun c54 => ?_)
    · refine w_aload_n dX0_addCell_64 rfl ?_
      refine v_getR (j := bI b 5) dX0_addCell_65 fX0_24 (sO_b hb (by decide) rfl) rfl (r0_b hb (by decide)) ?_
      refine w_iload_n dX0_addCell_68 rfl ?_
      refine w_iload_n dX0_addCell_69 rfl ?_
      refine v_iast dX0_addCell_70 (sA_b hb (by decide) rfl) (by omega) (by omega) (by decide) ?_
      refine w_aload_n dX0_addCell_71 rfl ?_
      refine v_getR (j := bI b 6) dX0_addCell_72 fX0_32 (sO_b hb (by decide) rfl) rfl (r0_b hb (by decide)) ?_
      refine v_getR (j := bI b 8) dX0_addCell_75 fX0_87 (sO_b hb (by decide) rfl) rfl (r0_b hb (by decide)) ?_
      refine w_iload_n dX0_addCell_78 rfl ?_
      refine w_iconst (v := iI 1) dX0_addCell_79 rfl ?_
      refine v_zast dX0_addCell_80 (sA_b hb (by decide) rfl) (by omega) (by omega) (by decide) (by decide) ?_
      refine w_aload_n dX0_addCell_81 rfl ?_
      refine v_getR (j := bI b 9) dX0_addCell_82 fX0_36 (sO_b hb (by decide) rfl) rfl (r0_b hb (by decide)) ?_
      refine v_getR (j := bI b 11) dX0_addCell_85 fX0_87 (sO_b hb (by decide) rfl) rfl (r0_b hb (by decide)) ?_
      refine w_iload_n dX0_addCell_88 rfl ?_
      refine w_iconst (v := iI 1) dX0_addCell_89 rfl ?_
      refine v_zast dX0_addCell_90 (sA_b hb (by decide) rfl) (by omega) (by omega) (by decide) (by decide) ?_
      refine w_aload_n dX0_addCell_91 rfl ?_
      refine v_getR (j := bI b 2) dX0_addCell_92 fX0_15 (sO_b hb (by decide) rfl) rfl (r0_b hb (by decide)) ?_
      refine w_aload_n dX0_addCell_95 rfl ?_
      refine v_getI dX0_addCell_96 fX0_68 (sO_b hb (by decide) rfl) (Or.inl rfl) (fun z96 e96 b96 => ?_)
      have f96 : z96 = n := by
        rw [e96]
        (repeat rw [rd_wr_row (by unfold bI; omega)])
        (repeat rw [rd_wr_ne (by omega)])
        (repeat rw [rd_wr_row (by unfold bI; omega)])
        exact hn
      refine w_iload_n dX0_addCell_99 rfl ?_
      refine v_iast dX0_addCell_100 (sA_b hb (by decide) rfl) (by omega) (by omega) (by decide) ?_
      refine w_aload_n dX0_addCell_101 rfl ?_
      refine v_getR (j := bI b 3) dX0_addCell_102 fX0_18 (sO_b hb (by decide) rfl) rfl (r0_b hb (by decide)) ?_
      refine w_aload_n dX0_addCell_105 rfl ?_
      refine v_getI dX0_addCell_106 fX0_68 (sO_b hb (by decide) rfl) (Or.inl rfl) (fun z106 e106 b106 => ?_)
      have f106 : z106 = n := by
        rw [e106]
        (repeat rw [rd_wr_row (by unfold bI; omega)])
        (repeat rw [rd_wr_ne (by omega)])
        (repeat rw [rd_wr_row (by unfold bI; omega)])
        exact hn
      refine w_iload_n dX0_addCell_109 rfl ?_
      refine v_iast dX0_addCell_110 (sA_b hb (by decide) rfl) (by omega) (by omega) (by decide) ?_
      refine w_aload_n dX0_addCell_111 rfl ?_
      refine w_dup dX0_addCell_112 rfl ?_
      refine v_getI dX0_addCell_113 fX0_68 (sO_b hb (by decide) rfl) (Or.inl rfl) (fun z113 e113 b113 => ?_)
      have f113 : z113 = n := by
        rw [e113]
        (repeat rw [rd_wr_row (by unfold bI; omega)])
        (repeat rw [rd_wr_ne (by omega)])
        (repeat rw [rd_wr_row (by unfold bI; omega)])
        exact hn
      refine w_iconst (v := iI 1) dX0_addCell_116 rfl ?_
      refine v_iadd dX0_addCell_117 ?_
      refine v_putI dX0_addCell_118 fX0_68 (sO_b hb (by decide) rfl) rfl (Or.inl rfl) ?_
      refine v_vret dX0_addCell_121 rfl ⟨rfl, rfl⟩ ?_
      have h96 : z96.toNat = n := by omega
      have h106 : z106.toNat = n := by omega
      refine hy _ ⟨fun k => ?_, fun k => ?_, fun k => ?_, fun k => ?_, fun k => ?_, fun k => ?_, fun k => ?_, ?_, ?_, ?_, fun id k hk => ?_⟩
      · (repeat rw [rd_wr_row (by unfold bI; omega)])
        rw [rd_wr (by omega) (by omega)]
        by_cases g : k = 10 * r + c
        · rw [if_pos ⟨rfl, by omega⟩, if_pos g]
        · rw [if_neg (by omega), if_neg g]
      · (repeat rw [rd_wr_row (by unfold bI; omega)])
        rw [rd_wr (by omega) (by omega)]
        (repeat rw [rd_wr_row (by unfold bI; omega)])
        by_cases g : k = n
        · rw [if_pos ⟨rfl, by omega⟩, if_pos g]
        · rw [if_neg (by omega), if_neg g]
      · (repeat rw [rd_wr_row (by unfold bI; omega)])
        rw [rd_wr (by omega) (by omega)]
        (repeat rw [rd_wr_row (by unfold bI; omega)])
        by_cases g : k = n
        · rw [if_pos ⟨rfl, by omega⟩, if_pos g]
        · rw [if_neg (by omega), if_neg g]
      · (repeat rw [rd_wr_row (by unfold bI; omega)])
        first
          | (rw [rd_wr (by omega) (by omega)]
             (repeat rw [rd_wr_row (by unfold bI; omega)])
             by_cases g : k = r
             · rw [if_pos ⟨rfl, by omega⟩, if_pos ⟨g, by omega⟩]
             · rw [if_neg (by omega), if_neg (fun z => g z.1)])
          | rw [if_neg (by omega)]
      · (repeat rw [rd_wr_row (by unfold bI; omega)])
        rw [rd_wr (by omega) (by omega)]
        (repeat rw [rd_wr_row (by unfold bI; omega)])
        by_cases g : k = r
        · rw [if_pos ⟨rfl, by omega⟩, if_pos g]
        · rw [if_neg (by omega), if_neg g]
      · (repeat rw [rd_wr_row (by unfold bI; omega)])
        rw [rd_wr (by omega) (by omega)]
        (repeat rw [rd_wr_row (by unfold bI; omega)])
        by_cases g : k = r
        · rw [if_pos ⟨rfl, by omega⟩, if_pos g]
        · rw [if_neg (by omega), if_neg g]
      · (repeat rw [rd_wr_row (by unfold bI; omega)])
        rw [rd_wr (by omega) (by omega)]
        (repeat rw [rd_wr_row (by unfold bI; omega)])
        by_cases g : k = c
        · rw [if_pos ⟨rfl, by omega⟩, if_pos g]
        · rw [if_neg (by omega), if_neg g]
      · rw [rd_wr_eq (by omega) (by omega)]; omega
      · rw [rd_wr_ne (by omega)]
        (repeat rw [rd_wr_row (by unfold bI; omega)])
        first
          | (rw [rd_wr_ne (by omega), rd_wr_eq (by omega) (by omega), if_pos ⟨q13, by omega⟩]; exact f29)
          | (rw [rd_wr_ne (by omega)]; (repeat rw [rd_wr_row (by unfold bI; omega)]); rw [if_neg (by omega)])
          | rw [if_neg (by omega)]
      · rw [rd_wr_ne (by omega)]
        (repeat rw [rd_wr_row (by unfold bI; omega)])
        first
          | (rw [rd_wr_eq (by omega) (by omega), if_pos ⟨q13, by omega⟩]; done)
          | (rw [rd_wr_eq (by omega) (by omega), if_neg (by omega)]; exact f37)
          | rw [if_neg (by omega)]
      · (try dsimp only at hk)
        (repeat rw [rd_wr_ne (by omega)])
    · refine w_aload_n dX0_addCell_57 rfl ?_
      refine v_getR (j := bI b 4) dX0_addCell_58 fX0_21 (sO_b hb (by decide) rfl) rfl (r0_b hb (by decide)) ?_
      refine w_iload_n dX0_addCell_61 rfl ?_
      refine w_iload_n dX0_addCell_62 rfl ?_
      refine v_iast dX0_addCell_63 (sA_b hb (by decide) rfl) (by omega) (by omega) (by decide) ?_
      refine w_aload_n dX0_addCell_64 rfl ?_
      refine v_getR (j := bI b 5) dX0_addCell_65 fX0_24 (sO_b hb (by decide) rfl) rfl (r0_b hb (by decide)) ?_
      refine w_iload_n dX0_addCell_68 rfl ?_
      refine w_iload_n dX0_addCell_69 rfl ?_
      refine v_iast dX0_addCell_70 (sA_b hb (by decide) rfl) (by omega) (by omega) (by decide) ?_
      refine w_aload_n dX0_addCell_71 rfl ?_
      refine v_getR (j := bI b 6) dX0_addCell_72 fX0_32 (sO_b hb (by decide) rfl) rfl (r0_b hb (by decide)) ?_
      refine v_getR (j := bI b 8) dX0_addCell_75 fX0_87 (sO_b hb (by decide) rfl) rfl (r0_b hb (by decide)) ?_
      refine w_iload_n dX0_addCell_78 rfl ?_
      refine w_iconst (v := iI 1) dX0_addCell_79 rfl ?_
      refine v_zast dX0_addCell_80 (sA_b hb (by decide) rfl) (by omega) (by omega) (by decide) (by decide) ?_
      refine w_aload_n dX0_addCell_81 rfl ?_
      refine v_getR (j := bI b 9) dX0_addCell_82 fX0_36 (sO_b hb (by decide) rfl) rfl (r0_b hb (by decide)) ?_
      refine v_getR (j := bI b 11) dX0_addCell_85 fX0_87 (sO_b hb (by decide) rfl) rfl (r0_b hb (by decide)) ?_
      refine w_iload_n dX0_addCell_88 rfl ?_
      refine w_iconst (v := iI 1) dX0_addCell_89 rfl ?_
      refine v_zast dX0_addCell_90 (sA_b hb (by decide) rfl) (by omega) (by omega) (by decide) (by decide) ?_
      refine w_aload_n dX0_addCell_91 rfl ?_
      refine v_getR (j := bI b 2) dX0_addCell_92 fX0_15 (sO_b hb (by decide) rfl) rfl (r0_b hb (by decide)) ?_
      refine w_aload_n dX0_addCell_95 rfl ?_
      refine v_getI dX0_addCell_96 fX0_68 (sO_b hb (by decide) rfl) (Or.inl rfl) (fun z96 e96 b96 => ?_)
      have f96 : z96 = n := by
        rw [e96]
        (repeat rw [rd_wr_row (by unfold bI; omega)])
        (repeat rw [rd_wr_ne (by omega)])
        (repeat rw [rd_wr_row (by unfold bI; omega)])
        exact hn
      refine w_iload_n dX0_addCell_99 rfl ?_
      refine v_iast dX0_addCell_100 (sA_b hb (by decide) rfl) (by omega) (by omega) (by decide) ?_
      refine w_aload_n dX0_addCell_101 rfl ?_
      refine v_getR (j := bI b 3) dX0_addCell_102 fX0_18 (sO_b hb (by decide) rfl) rfl (r0_b hb (by decide)) ?_
      refine w_aload_n dX0_addCell_105 rfl ?_
      refine v_getI dX0_addCell_106 fX0_68 (sO_b hb (by decide) rfl) (Or.inl rfl) (fun z106 e106 b106 => ?_)
      have f106 : z106 = n := by
        rw [e106]
        (repeat rw [rd_wr_row (by unfold bI; omega)])
        (repeat rw [rd_wr_ne (by omega)])
        (repeat rw [rd_wr_row (by unfold bI; omega)])
        exact hn
      refine w_iload_n dX0_addCell_109 rfl ?_
      refine v_iast dX0_addCell_110 (sA_b hb (by decide) rfl) (by omega) (by omega) (by decide) ?_
      refine w_aload_n dX0_addCell_111 rfl ?_
      refine w_dup dX0_addCell_112 rfl ?_
      refine v_getI dX0_addCell_113 fX0_68 (sO_b hb (by decide) rfl) (Or.inl rfl) (fun z113 e113 b113 => ?_)
      have f113 : z113 = n := by
        rw [e113]
        (repeat rw [rd_wr_row (by unfold bI; omega)])
        (repeat rw [rd_wr_ne (by omega)])
        (repeat rw [rd_wr_row (by unfold bI; omega)])
        exact hn
      refine w_iconst (v := iI 1) dX0_addCell_116 rfl ?_
      refine v_iadd dX0_addCell_117 ?_
      refine v_putI dX0_addCell_118 fX0_68 (sO_b hb (by decide) rfl) rfl (Or.inl rfl) ?_
      refine v_vret dX0_addCell_121 rfl ⟨rfl, rfl⟩ ?_
      have h96 : z96.toNat = n := by omega
      have h106 : z106.toNat = n := by omega
      refine hy _ ⟨fun k => ?_, fun k => ?_, fun k => ?_, fun k => ?_, fun k => ?_, fun k => ?_, fun k => ?_, ?_, ?_, ?_, fun id k hk => ?_⟩
      · (repeat rw [rd_wr_row (by unfold bI; omega)])
        rw [rd_wr (by omega) (by omega)]
        by_cases g : k = 10 * r + c
        · rw [if_pos ⟨rfl, by omega⟩, if_pos g]
        · rw [if_neg (by omega), if_neg g]
      · (repeat rw [rd_wr_row (by unfold bI; omega)])
        rw [rd_wr (by omega) (by omega)]
        (repeat rw [rd_wr_row (by unfold bI; omega)])
        by_cases g : k = n
        · rw [if_pos ⟨rfl, by omega⟩, if_pos g]
        · rw [if_neg (by omega), if_neg g]
      · (repeat rw [rd_wr_row (by unfold bI; omega)])
        rw [rd_wr (by omega) (by omega)]
        (repeat rw [rd_wr_row (by unfold bI; omega)])
        by_cases g : k = n
        · rw [if_pos ⟨rfl, by omega⟩, if_pos g]
        · rw [if_neg (by omega), if_neg g]
      · (repeat rw [rd_wr_row (by unfold bI; omega)])
        first
          | (rw [rd_wr (by omega) (by omega)]
             (repeat rw [rd_wr_row (by unfold bI; omega)])
             by_cases g : k = r
             · rw [if_pos ⟨rfl, by omega⟩, if_pos ⟨g, by omega⟩]
             · rw [if_neg (by omega), if_neg (fun z => g z.1)])
          | rw [if_neg (by omega)]
      · (repeat rw [rd_wr_row (by unfold bI; omega)])
        rw [rd_wr (by omega) (by omega)]
        (repeat rw [rd_wr_row (by unfold bI; omega)])
        by_cases g : k = r
        · rw [if_pos ⟨rfl, by omega⟩, if_pos g]
        · rw [if_neg (by omega), if_neg g]
      · (repeat rw [rd_wr_row (by unfold bI; omega)])
        rw [rd_wr (by omega) (by omega)]
        (repeat rw [rd_wr_row (by unfold bI; omega)])
        by_cases g : k = r
        · rw [if_pos ⟨rfl, by omega⟩, if_pos g]
        · rw [if_neg (by omega), if_neg g]
      · (repeat rw [rd_wr_row (by unfold bI; omega)])
        rw [rd_wr (by omega) (by omega)]
        (repeat rw [rd_wr_row (by unfold bI; omega)])
        by_cases g : k = c
        · rw [if_pos ⟨rfl, by omega⟩, if_pos g]
        · rw [if_neg (by omega), if_neg g]
      · rw [rd_wr_eq (by omega) (by omega)]; omega
      · rw [rd_wr_ne (by omega)]
        (repeat rw [rd_wr_row (by unfold bI; omega)])
        first
          | (rw [rd_wr_ne (by omega), rd_wr_eq (by omega) (by omega), if_pos ⟨q13, by omega⟩]; exact f29)
          | (rw [rd_wr_ne (by omega)]; (repeat rw [rd_wr_row (by unfold bI; omega)]); rw [if_neg (by omega)])
          | rw [if_neg (by omega)]
      · rw [rd_wr_ne (by omega)]
        (repeat rw [rd_wr_row (by unfold bI; omega)])
        first
          | (rw [rd_wr_eq (by omega) (by omega), if_pos ⟨q13, by omega⟩]; done)
          | (rw [rd_wr_eq (by omega) (by omega), if_neg (by omega)]; exact f37)
          | rw [if_neg (by omega)]
      · (try dsimp only at hk)
        (repeat rw [rd_wr_ne (by omega)])
