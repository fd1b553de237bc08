/-! what a tape tells of a BIT; bit, cell, fibre, word: the reference -/
def pR (tp : Nat → Int) : Nat → Nat
  | 0 => 0
  | j + 1 => if tp j = 59 then pR tp j + 1 else pR tp j
def pK (tp : Nat → Int) : Nat → Nat
  | 0 => 0
  | j + 1 => if tp j = 59 then 0 else pK tp j + 1
def pM (tp : Nat → Int) : Nat → Nat
  | 0 => 0
  | j + 1 => if tp j = 59 ∨ tp j = 95 then pM tp j else pM tp j + 1
def pB (tp : Nat → Int) (j : Nat) : Prop := (tp j = 59 ∧ pR tp j + 1 < 5) ∨ (tp j ≠ 59 ∧ isSg (tp j) ∧ pK tp j < 10)
def pC (tp : Nat → Int) : Nat → Nat → Int
  | 0, _ => 95
  | j + 1, k => if tp j ≠ 59 ∧ k = 10 * pR tp j + pK tp j then tp j else pC tp j k
theorem pOk_bd {tp : Nat → Int} : ∀ {n : Nat}, (∀ j, j < n → pB tp j) → pR tp n < 5 ∧ pK tp n ≤ 10 ∧ pM tp n ≤ n
  | 0, _ => by simp [pR, pK, pM]
  | n + 1, h => by
    have h1 := pOk_bd (n := n) fun j hj => h j (by omega)
    have h2 := h n (by omega)
    unfold pB at h2
    unfold pR pK pM
    refine ⟨?_, ?_, ?_⟩ <;> split <;> omega
theorem x12_reads_l {I : Nat → Nat → Int32} {J : Nat → Nat → Int64} {F : Option Value → zM → Prop} {t : Nat} (ht2 : t ≤ 200) (hn : ¬ ((∀ j, j < t → pB (fun k => rd I 172 k) j) ∧ 0 < pM (fun k => rd I 172 k) t) → ∀ I', fq (fun id _ => id = 182) I I' → F (some (.int (iI (-1)))) (gM I' J)) (hy : (∀ j, j < t → pB (fun k => rd I 172 k) j) → 0 < pM (fun k => rd I 172 k) t → ∀ I', (∀ k, k < 50 → rd I' 182 k = pC (fun k => rd I 172 k) t k) → fq (fun id _ => id = 182) I I' → F (some (.int (iI (pM (fun k => rd I 172 k) t : Int)))) (gM I' J)) : ∀ (nz : Nat) (j : Nat) (I' : Nat → Nat → Int32), t - j < nz → j ≤ t → (∀ i, i < j → pB (fun k => rd I 172 k) i) → (∀ k, k < 50 → rd I' 182 k = pC (fun k => rd I 172 k) j k) → fq (fun id _ => id = 182) I I' → Wp (sE kX12_reads RX12) F 32 [(0, .ref 171), (1, .int (iI (t : Int))), (2, .int (iI (pR (fun k => rd I 172 k) j : Int))), (3, .int (iI (pK (fun k => rd I 172 k) j : Int))), (4, .int (iI (pM (fun k => rd I 172 k) j : Int))), (5, .int (iI (j : Int)))] [] (gM I' J) := by
  intro nz
  induction nz with
  | zero =>
    intro j I' hmz hj hok hc hx
    exact absurd hmz (Nat.not_lt_zero _)
  | succ nz ih =>
    intro j I' hmz hj hok hc hx
    have pb0 := pOk_bd hok
    refine w_iload dX12_reads_32 rfl ?_
    refine w_iload_n dX12_reads_34 rfl ?_
    refine v_icmp_ge 135 dX12_reads_35 (by decide) (by omega) (by omega) (fun c35 => ?_) (fun c35 => ?_)
    · refine w_iload dX12_reads_135 rfl ?_
      refine v_if_ne 144 dX12_reads_137 (by decide) (by omega) (fun c137 => ?_) (fun c137 => ?_)
      · refine w_iload dX12_reads_144 rfl ?_
        refine v_iret dX12_reads_146 rfl ⟨rfl, rfl⟩ ?_
        have g : j = t := by omega
        subst g
        first
          | exact hn (fun g => by omega) I' hx
          | exact hy hok (by omega) I' hc hx
      · refine w_iconst (v := iI (-1)) dX12_reads_140 rfl ?_
        refine w_goto 146 dX12_reads_141 (by decide) ?_
        refine v_iret dX12_reads_146 rfl ⟨rfl, rfl⟩ ?_
        have g : j = t := by omega
        subst g
        first
          | exact hn (fun g => by omega) I' hx
          | exact hy hok (by omega) I' hc hx
    · refine w_aload_n dX12_reads_38 rfl ?_
      refine v_getR (j := 172) dX12_reads_39 fX12_7 ⟨by decide, rfl⟩ rfl rfl ?_
      refine w_iload dX12_reads_42 rfl ?_
      refine v_iald dX12_reads_44 ⟨by decide, rfl⟩ (by omega) (by omega) (by decide) (fun z44 e44 b44 => ?_)
      have f44 : z44 = rd I 172 j := by rw [e44, hx _ _ (by (try dsimp only); omega)]; congr 1
      have pb := pOk_bd hok
      refine w_istore dX12_reads_45 rfl rfl ?_
      refine w_iload dX12_reads_47 rfl ?_
      refine w_bipush (v := iI 59) dX12_reads_49 (by decide) ?_
      refine v_icmp_ne 66 dX12_reads_51 (by decide) (by omega) (by omega) (fun c51 => ?_) (fun c51 => ?_)
      · refine w_iload dX12_reads_66 rfl ?_
        refine v_callS1 dX12_reads_68 lX12_73 vX12_isLetter (by decide) rfl rfl (Nat.le_of_ble_eq_true rfl) ?_
        refine x12_isLetter (by omega) (fun q68 => ?_) (fun q68 => ?_)
        · refine v_if_ne 95 dX12_reads_71 (by decide) (by decide) (fun _ => ?_) (fun q => absurd q (by decide))
          refine w_iload_n dX12_reads_95 rfl ?_
          refine w_bipush (v := iI 10) dX12_reads_96 (by decide) ?_
          refine v_icmp_ne 103 dX12_reads_98 (by decide) (by omega) (by omega) (fun c98 => ?_) (fun c98 => ?_)
          · refine w_aload_n dX12_reads_103 rfl ?_
            refine v_getR (j := 182) dX12_reads_104 fX12_41 ⟨by decide, rfl⟩ rfl rfl ?_
            refine w_bipush (v := iI 10) dX12_reads_107 (by decide) ?_
            refine w_iload_n dX12_reads_109 rfl ?_
            refine v_imul dX12_reads_110 ?_
            refine w_iload_n dX12_reads_111 rfl ?_
            refine v_iadd dX12_reads_112 ?_
            refine w_iload dX12_reads_113 rfl ?_
            refine v_iast dX12_reads_115 ⟨by decide, rfl⟩ (by omega) (by omega) (by decide) ?_
            refine v_iinc dX12_reads_116 rfl rfl rfl ?_
            refine w_iload dX12_reads_119 rfl ?_
            refine w_bipush (v := iI 95) dX12_reads_121 (by decide) ?_
            refine v_icmp_eq 129 dX12_reads_123 (by decide) (by omega) (by omega) (fun c123 => ?_) (fun c123 => ?_)
            · refine v_iinc dX12_reads_129 rfl rfl rfl ?_
              refine w_goto 32 dX12_reads_132 (by decide) ?_
              refine w_keep 6 ?_
              have hb1 : pB (fun k => rd I 172 k) j := by
                unfold pB
                (try dsimp only)
                rw [← f44]
                omega
              have hok' : ∀ i, i < j + 1 → pB (fun k => rd I 172 k) i := fun i hi => by
                rcases Nat.lt_succ_iff_lt_or_eq.mp hi with g | g
                · exact hok i g
                · subst g; exact hb1
              first
                | (have e1 : (pR (fun k => rd I 172 k) j : Int) + 1 = (pR (fun k => rd I 172 k) (j + 1) : Nat) := by
                     rw [pR, if_pos (by (try dsimp only); rw [← f44]; omega)]; omega
                   have e2 : (0 : Int) = (pK (fun k => rd I 172 k) (j + 1) : Nat) := by
                     rw [pK, if_pos (by (try dsimp only); rw [← f44]; omega)]; rfl
                   have e3 : (pM (fun k => rd I 172 k) j : Int) = (pM (fun k => rd I 172 k) (j + 1) : Nat) := by
                     rw [pM, if_pos (by (try dsimp only); rw [← f44]; omega)]
                   rw [e1, e2, e3]
                   exact ih (j + 1) I' (by omega) (by omega) hok' (fun k hk => by rw [hc k hk, pC, if_neg (by (try dsimp only); rw [← f44]; omega)]) hx)
                | (have e1 : (pR (fun k => rd I 172 k) j : Int) = (pR (fun k => rd I 172 k) (j + 1) : Nat) := by
                     rw [pR, if_neg (by (try dsimp only); rw [← f44]; omega)]
                   have e2 : (pK (fun k => rd I 172 k) j : Int) + 1 = (pK (fun k => rd I 172 k) (j + 1) : Nat) := by
                     rw [pK, if_neg (by (try dsimp only); rw [← f44]; omega)]; rfl
                   have e4 : ∀ k, k < 50 → rd (wr I' 182 (10 * (pR (fun k => rd I 172 k) j : Int) + (pK (fun k => rd I 172 k) j : Int)).toNat z44) 182 k = pC (fun k => rd I 172 k) (j + 1) k := fun k hk => by
                     rw [rd_wr (by omega) (by omega), pC]
                     by_cases g : k = 10 * pR (fun k => rd I 172 k) j + pK (fun k => rd I 172 k) j
                     · rw [if_pos ⟨rfl, by omega⟩, if_pos ⟨by (try dsimp only); rw [← f44]; omega, g⟩]; exact f44
                     · rw [if_neg (by omega), if_neg (by omega)]; exact hc k hk
                   have e5 : fq (fun id _ => id = 182) I (wr I' 182 (10 * (pR (fun k => rd I 172 k) j : Int) + (pK (fun k => rd I 172 k) j : Int)).toNat z44) := fun id k hk => by rw [rd_wr_row hk]; exact hx id k hk
                   first
                     | (have e3 : (pM (fun k => rd I 172 k) j : Int) + 1 = (pM (fun k => rd I 172 k) (j + 1) : Nat) := by
                          rw [pM, if_neg (by (try dsimp only); rw [← f44]; omega)]; rfl
                        have L := ih (j + 1) _ (by omega) (by omega) hok' e4 e5
                        rw [← e1, ← e2, ← e3] at L
                        exact L)
                     | (have e3 : (pM (fun k => rd I 172 k) j : Int) = (pM (fun k => rd I 172 k) (j + 1) : Nat) := by
                          rw [pM, if_pos (by (try dsimp only); rw [← f44]; omega)]
                        have L := ih (j + 1) _ (by omega) (by omega) hok' e4 e5
                        rw [← e1, ← e2, ← e3] at L
                        exact L))
            · refine v_iinc dX12_reads_126 rfl rfl rfl ?_
              refine v_iinc dX12_reads_129 rfl rfl rfl ?_
              refine w_goto 32 dX12_reads_132 (by decide) ?_
              refine w_keep 6 ?_
              have hb1 : pB (fun k => rd I 172 k) j := by
                unfold pB
                (try dsimp only)
                rw [← f44]
                omega
              have hok' : ∀ i, i < j + 1 → pB (fun k => rd I 172 k) i := fun i hi => by
                rcases Nat.lt_succ_iff_lt_or_eq.mp hi with g | g
                · exact hok i g
                · subst g; exact hb1
              first
                | (have e1 : (pR (fun k => rd I 172 k) j : Int) + 1 = (pR (fun k => rd I 172 k) (j + 1) : Nat) := by
                     rw [pR, if_pos (by (try dsimp only); rw [← f44]; omega)]; omega
                   have e2 : (0 : Int) = (pK (fun k => rd I 172 k) (j + 1) : Nat) := by
                     rw [pK, if_pos (by (try dsimp only); rw [← f44]; omega)]; rfl
                   have e3 : (pM (fun k => rd I 172 k) j : Int) = (pM (fun k => rd I 172 k) (j + 1) : Nat) := by
                     rw [pM, if_pos (by (try dsimp only); rw [← f44]; omega)]
                   rw [e1, e2, e3]
                   exact ih (j + 1) I' (by omega) (by omega) hok' (fun k hk => by rw [hc k hk, pC, if_neg (by (try dsimp only); rw [← f44]; omega)]) hx)
                | (have e1 : (pR (fun k => rd I 172 k) j : Int) = (pR (fun k => rd I 172 k) (j + 1) : Nat) := by
                     rw [pR, if_neg (by (try dsimp only); rw [← f44]; omega)]
                   have e2 : (pK (fun k => rd I 172 k) j : Int) + 1 = (pK (fun k => rd I 172 k) (j + 1) : Nat) := by
                     rw [pK, if_neg (by (try dsimp only); rw [← f44]; omega)]; rfl
                   have e4 : ∀ k, k < 50 → rd (wr I' 182 (10 * (pR (fun k => rd I 172 k) j : Int) + (pK (fun k => rd I 172 k) j : Int)).toNat z44) 182 k = pC (fun k => rd I 172 k) (j + 1) k := fun k hk => by
                     rw [rd_wr (by omega) (by omega), pC]
                     by_cases g : k = 10 * pR (fun k => rd I 172 k) j + pK (fun k => rd I 172 k) j
                     · rw [if_pos ⟨rfl, by omega⟩, if_pos ⟨by (try dsimp only); rw [← f44]; omega, g⟩]; exact f44
                     · rw [if_neg (by omega), if_neg (by omega)]; exact hc k hk
                   have e5 : fq (fun id _ => id = 182) I (wr I' 182 (10 * (pR (fun k => rd I 172 k) j : Int) + (pK (fun k => rd I 172 k) j : Int)).toNat z44) := fun id k hk => by rw [rd_wr_row hk]; exact hx id k hk
                   first
                     | (have e3 : (pM (fun k => rd I 172 k) j : Int) + 1 = (pM (fun k => rd I 172 k) (j + 1) : Nat) := by
                          rw [pM, if_neg (by (try dsimp only); rw [← f44]; omega)]; rfl
                        have L := ih (j + 1) _ (by omega) (by omega) hok' e4 e5
                        rw [← e1, ← e2, ← e3] at L
                        exact L)
                     | (have e3 : (pM (fun k => rd I 172 k) j : Int) = (pM (fun k => rd I 172 k) (j + 1) : Nat) := by
                          rw [pM, if_pos (by (try dsimp only); rw [← f44]; omega)]
                        have L := ih (j + 1) _ (by omega) (by omega) hok' e4 e5
                        rw [← e1, ← e2, ← e3] at L
                        exact L))
          · refine w_iconst (v := iI (-1)) dX12_reads_101 rfl ?_
            refine v_iret dX12_reads_102 rfl ⟨rfl, rfl⟩ ?_
            refine hn (fun g => ?_) I' hx
            have g1 := g.1 j (by omega)
            unfold pB at g1
            (try dsimp only at g1)
            rw [← f44] at g1
            omega
        · refine v_if_ne 95 dX12_reads_71 (by decide) (by decide) (fun q => absurd q (by decide)) (fun _ => ?_)
          refine w_iload dX12_reads_74 rfl ?_
          refine w_bipush (v := iI 46) dX12_reads_76 (by decide) ?_
          refine v_icmp_eq 95 dX12_reads_78 (by decide) (by omega) (by omega) (fun c78 => ?_) (fun c78 => ?_)
          · refine w_iload_n dX12_reads_95 rfl ?_
            refine w_bipush (v := iI 10) dX12_reads_96 (by decide) ?_
            refine v_icmp_ne 103 dX12_reads_98 (by decide) (by omega) (by omega) (fun c98 => ?_) (fun c98 => ?_)
            · refine w_aload_n dX12_reads_103 rfl ?_
              refine v_getR (j := 182) dX12_reads_104 fX12_41 ⟨by decide, rfl⟩ rfl rfl ?_
              refine w_bipush (v := iI 10) dX12_reads_107 (by decide) ?_
              refine w_iload_n dX12_reads_109 rfl ?_
              refine v_imul dX12_reads_110 ?_
              refine w_iload_n dX12_reads_111 rfl ?_
              refine v_iadd dX12_reads_112 ?_
              refine w_iload dX12_reads_113 rfl ?_
              refine v_iast dX12_reads_115 ⟨by decide, rfl⟩ (by omega) (by omega) (by decide) ?_
              refine v_iinc dX12_reads_116 rfl rfl rfl ?_
              refine w_iload dX12_reads_119 rfl ?_
              refine w_bipush (v := iI 95) dX12_reads_121 (by decide) ?_
              refine v_icmp_eq 129 dX12_reads_123 (by decide) (by omega) (by omega) (fun c123 => ?_) (fun c123 => ?_)
              · refine v_iinc dX12_reads_129 rfl rfl rfl ?_
                refine w_goto 32 dX12_reads_132 (by decide) ?_
                refine w_keep 6 ?_
                have hb1 : pB (fun k => rd I 172 k) j := by
                  unfold pB
                  (try dsimp only)
                  rw [← f44]
                  omega
                have hok' : ∀ i, i < j + 1 → pB (fun k => rd I 172 k) i := fun i hi => by
                  rcases Nat.lt_succ_iff_lt_or_eq.mp hi with g | g
                  · exact hok i g
                  · subst g; exact hb1
                first
                  | (have e1 : (pR (fun k => rd I 172 k) j : Int) + 1 = (pR (fun k => rd I 172 k) (j + 1) : Nat) := by
                       rw [pR, if_pos (by (try dsimp only); rw [← f44]; omega)]; omega
                     have e2 : (0 : Int) = (pK (fun k => rd I 172 k) (j + 1) : Nat) := by
                       rw [pK, if_pos (by (try dsimp only); rw [← f44]; omega)]; rfl
                     have e3 : (pM (fun k => rd I 172 k) j : Int) = (pM (fun k => rd I 172 k) (j + 1) : Nat) := by
                       rw [pM, if_pos (by (try dsimp only); rw [← f44]; omega)]
                     rw [e1, e2, e3]
                     exact ih (j + 1) I' (by omega) (by omega) hok' (fun k hk => by rw [hc k hk, pC, if_neg (by (try dsimp only); rw [← f44]; omega)]) hx)
                  | (have e1 : (pR (fun k => rd I 172 k) j : Int) = (pR (fun k => rd I 172 k) (j + 1) : Nat) := by
                       rw [pR, if_neg (by (try dsimp only); rw [← f44]; omega)]
                     have e2 : (pK (fun k => rd I 172 k) j : Int) + 1 = (pK (fun k => rd I 172 k) (j + 1) : Nat) := by
                       rw [pK, if_neg (by (try dsimp only); rw [← f44]; omega)]; rfl
                     have e4 : ∀ k, k < 50 → rd (wr I' 182 (10 * (pR (fun k => rd I 172 k) j : Int) + (pK (fun k => rd I 172 k) j : Int)).toNat z44) 182 k = pC (fun k => rd I 172 k) (j + 1) k := fun k hk => by
                       rw [rd_wr (by omega) (by omega), pC]
                       by_cases g : k = 10 * pR (fun k => rd I 172 k) j + pK (fun k => rd I 172 k) j
                       · rw [if_pos ⟨rfl, by omega⟩, if_pos ⟨by (try dsimp only); rw [← f44]; omega, g⟩]; exact f44
                       · rw [if_neg (by omega), if_neg (by omega)]; exact hc k hk
                     have e5 : fq (fun id _ => id = 182) I (wr I' 182 (10 * (pR (fun k => rd I 172 k) j : Int) + (pK (fun k => rd I 172 k) j : Int)).toNat z44) := fun id k hk => by rw [rd_wr_row hk]; exact hx id k hk
                     first
                       | (have e3 : (pM (fun k => rd I 172 k) j : Int) + 1 = (pM (fun k => rd I 172 k) (j + 1) : Nat) := by
                            rw [pM, if_neg (by (try dsimp only); rw [← f44]; omega)]; rfl
                          have L := ih (j + 1) _ (by omega) (by omega) hok' e4 e5
                          rw [← e1, ← e2, ← e3] at L
                          exact L)
                       | (have e3 : (pM (fun k => rd I 172 k) j : Int) = (pM (fun k => rd I 172 k) (j + 1) : Nat) := by
                            rw [pM, if_pos (by (try dsimp only); rw [← f44]; omega)]
                          have L := ih (j + 1) _ (by omega) (by omega) hok' e4 e5
                          rw [← e1, ← e2, ← e3] at L
                          exact L))
              · refine v_iinc dX12_reads_126 rfl rfl rfl ?_
                refine v_iinc dX12_reads_129 rfl rfl rfl ?_
                refine w_goto 32 dX12_reads_132 (by decide) ?_
                refine w_keep 6 ?_
                have hb1 : pB (fun k => rd I 172 k) j := by
                  unfold pB
                  (try dsimp only)
                  rw [← f44]
                  omega
                have hok' : ∀ i, i < j + 1 → pB (fun k => rd I 172 k) i := fun i hi => by
                  rcases Nat.lt_succ_iff_lt_or_eq.mp hi with g | g
                  · exact hok i g
                  · subst g; exact hb1
                first
                  | (have e1 : (pR (fun k => rd I 172 k) j : Int) + 1 = (pR (fun k => rd I 172 k) (j + 1) : Nat) := by
                       rw [pR, if_pos (by (try dsimp only); rw [← f44]; omega)]; omega
                     have e2 : (0 : Int) = (pK (fun k => rd I 172 k) (j + 1) : Nat) := by
                       rw [pK, if_pos (by (try dsimp only); rw [← f44]; omega)]; rfl
                     have e3 : (pM (fun k => rd I 172 k) j : Int) = (pM (fun k => rd I 172 k) (j + 1) : Nat) := by
                       rw [pM, if_pos (by (try dsimp only); rw [← f44]; omega)]
                     rw [e1, e2, e3]
                     exact ih (j + 1) I' (by omega) (by omega) hok' (fun k hk => by rw [hc k hk, pC, if_neg (by (try dsimp only); rw [← f44]; omega)]) hx)
                  | (have e1 : (pR (fun k => rd I 172 k) j : Int) = (pR (fun k => rd I 172 k) (j + 1) : Nat) := by
                       rw [pR, if_neg (by (try dsimp only); rw [← f44]; omega)]
                     have e2 : (pK (fun k => rd I 172 k) j : Int) + 1 = (pK (fun k => rd I 172 k) (j + 1) : Nat) := by
                       rw [pK, if_neg (by (try dsimp only); rw [← f44]; omega)]; rfl
                     have e4 : ∀ k, k < 50 → rd (wr I' 182 (10 * (pR (fun k => rd I 172 k) j : Int) + (pK (fun k => rd I 172 k) j : Int)).toNat z44) 182 k = pC (fun k => rd I 172 k) (j + 1) k := fun k hk => by
                       rw [rd_wr (by omega) (by omega), pC]
                       by_cases g : k = 10 * pR (fun k => rd I 172 k) j + pK (fun k => rd I 172 k) j
                       · rw [if_pos ⟨rfl, by omega⟩, if_pos ⟨by (try dsimp only); rw [← f44]; omega, g⟩]; exact f44
                       · rw [if_neg (by omega), if_neg (by omega)]; exact hc k hk
                     have e5 : fq (fun id _ => id = 182) I (wr I' 182 (10 * (pR (fun k => rd I 172 k) j : Int) + (pK (fun k => rd I 172 k) j : Int)).toNat z44) := fun id k hk => by rw [rd_wr_row hk]; exact hx id k hk
                     first
                       | (have e3 : (pM (fun k => rd I 172 k) j : Int) + 1 = (pM (fun k => rd I 172 k) (j + 1) : Nat) := by
                            rw [pM, if_neg (by (try dsimp only); rw [← f44]; omega)]; rfl
                          have L := ih (j + 1) _ (by omega) (by omega) hok' e4 e5
                          rw [← e1, ← e2, ← e3] at L
                          exact L)
                       | (have e3 : (pM (fun k => rd I 172 k) j : Int) = (pM (fun k => rd I 172 k) (j + 1) : Nat) := by
                            rw [pM, if_pos (by (try dsimp only); rw [← f44]; omega)]
                          have L := ih (j + 1) _ (by omega) (by omega) hok' e4 e5
                          rw [← e1, ← e2, ← e3] at L
                          exact L))
            · refine w_iconst (v := iI (-1)) dX12_reads_101 rfl ?_
              refine v_iret dX12_reads_102 rfl ⟨rfl, rfl⟩ ?_
              refine hn (fun g => ?_) I' hx
              have g1 := g.1 j (by omega)
              unfold pB at g1
              (try dsimp only at g1)
              rw [← f44] at g1
              omega
          · refine w_iload dX12_reads_81 rfl ?_
            refine w_bipush (v := iI 44) dX12_reads_83 (by decide) ?_
            refine v_icmp_eq 95 dX12_reads_85 (by decide) (by omega) (by omega) (fun c85 => ?_) (fun c85 => ?_)
            · refine w_iload_n dX12_reads_95 rfl ?_
              refine w_bipush (v := iI 10) dX12_reads_96 (by decide) ?_
              refine v_icmp_ne 103 dX12_reads_98 (by decide) (by omega) (by omega) (fun c98 => ?_) (fun c98 => ?_)
              · refine w_aload_n dX12_reads_103 rfl ?_
                refine v_getR (j := 182) dX12_reads_104 fX12_41 ⟨by decide, rfl⟩ rfl rfl ?_
                refine w_bipush (v := iI 10) dX12_reads_107 (by decide) ?_
                refine w_iload_n dX12_reads_109 rfl ?_
                refine v_imul dX12_reads_110 ?_
                refine w_iload_n dX12_reads_111 rfl ?_
                refine v_iadd dX12_reads_112 ?_
                refine w_iload dX12_reads_113 rfl ?_
                refine v_iast dX12_reads_115 ⟨by decide, rfl⟩ (by omega) (by omega) (by decide) ?_
                refine v_iinc dX12_reads_116 rfl rfl rfl ?_
                refine w_iload dX12_reads_119 rfl ?_
                refine w_bipush (v := iI 95) dX12_reads_121 (by decide) ?_
                refine v_icmp_eq 129 dX12_reads_123 (by decide) (by omega) (by omega) (fun c123 => ?_) (fun c123 => ?_)
                · refine v_iinc dX12_reads_129 rfl rfl rfl ?_
                  refine w_goto 32 dX12_reads_132 (by decide) ?_
                  refine w_keep 6 ?_
                  have hb1 : pB (fun k => rd I 172 k) j := by
                    unfold pB
                    (try dsimp only)
                    rw [← f44]
                    omega
                  have hok' : ∀ i, i < j + 1 → pB (fun k => rd I 172 k) i := fun i hi => by
                    rcases Nat.lt_succ_iff_lt_or_eq.mp hi with g | g
                    · exact hok i g
                    · subst g; exact hb1
                  first
                    | (have e1 : (pR (fun k => rd I 172 k) j : Int) + 1 = (pR (fun k => rd I 172 k) (j + 1) : Nat) := by
                         rw [pR, if_pos (by (try dsimp only); rw [← f44]; omega)]; omega
                       have e2 : (0 : Int) = (pK (fun k => rd I 172 k) (j + 1) : Nat) := by
                         rw [pK, if_pos (by (try dsimp only); rw [← f44]; omega)]; rfl
                       have e3 : (pM (fun k => rd I 172 k) j : Int) = (pM (fun k => rd I 172 k) (j + 1) : Nat) := by
                         rw [pM, if_pos (by (try dsimp only); rw [← f44]; omega)]
                       rw [e1, e2, e3]
                       exact ih (j + 1) I' (by omega) (by omega) hok' (fun k hk => by rw [hc k hk, pC, if_neg (by (try dsimp only); rw [← f44]; omega)]) hx)
                    | (have e1 : (pR (fun k => rd I 172 k) j : Int) = (pR (fun k => rd I 172 k) (j + 1) : Nat) := by
                         rw [pR, if_neg (by (try dsimp only); rw [← f44]; omega)]
                       have e2 : (pK (fun k => rd I 172 k) j : Int) + 1 = (pK (fun k => rd I 172 k) (j + 1) : Nat) := by
                         rw [pK, if_neg (by (try dsimp only); rw [← f44]; omega)]; rfl
                       have e4 : ∀ k, k < 50 → rd (wr I' 182 (10 * (pR (fun k => rd I 172 k) j : Int) + (pK (fun k => rd I 172 k) j : Int)).toNat z44) 182 k = pC (fun k => rd I 172 k) (j + 1) k := fun k hk => by
                         rw [rd_wr (by omega) (by omega), pC]
                         by_cases g : k = 10 * pR (fun k => rd I 172 k) j + pK (fun k => rd I 172 k) j
                         · rw [if_pos ⟨rfl, by omega⟩, if_pos ⟨by (try dsimp only); rw [← f44]; omega, g⟩]; exact f44
                         · rw [if_neg (by omega), if_neg (by omega)]; exact hc k hk
                       have e5 : fq (fun id _ => id = 182) I (wr I' 182 (10 * (pR (fun k => rd I 172 k) j : Int) + (pK (fun k => rd I 172 k) j : Int)).toNat z44) := fun id k hk => by rw [rd_wr_row hk]; exact hx id k hk
                       first
                         | (have e3 : (pM (fun k => rd I 172 k) j : Int) + 1 = (pM (fun k => rd I 172 k) (j + 1) : Nat) := by
                              rw [pM, if_neg (by (try dsimp only); rw [← f44]; omega)]; rfl
                            have L := ih (j + 1) _ (by omega) (by omega) hok' e4 e5
                            rw [← e1, ← e2, ← e3] at L
                            exact L)
                         | (have e3 : (pM (fun k => rd I 172 k) j : Int) = (pM (fun k => rd I 172 k) (j + 1) : Nat) := by
                              rw [pM, if_pos (by (try dsimp only); rw [← f44]; omega)]
                            have L := ih (j + 1) _ (by omega) (by omega) hok' e4 e5
                            rw [← e1, ← e2, ← e3] at L
                            exact L))
                · refine v_iinc dX12_reads_126 rfl rfl rfl ?_
                  refine v_iinc dX12_reads_129 rfl rfl rfl ?_
                  refine w_goto 32 dX12_reads_132 (by decide) ?_
                  refine w_keep 6 ?_
                  have hb1 : pB (fun k => rd I 172 k) j := by
                    unfold pB
                    (try dsimp only)
                    rw [← f44]
                    omega
                  have hok' : ∀ i, i < j + 1 → pB (fun k => rd I 172 k) i := fun i hi => by
                    rcases Nat.lt_succ_iff_lt_or_eq.mp hi with g | g
                    · exact hok i g
                    · subst g; exact hb1
                  first
                    | (have e1 : (pR (fun k => rd I 172 k) j : Int) + 1 = (pR (fun k => rd I 172 k) (j + 1) : Nat) := by
                         rw [pR, if_pos (by (try dsimp only); rw [← f44]; omega)]; omega
                       have e2 : (0 : Int) = (pK (fun k => rd I 172 k) (j + 1) : Nat) := by
                         rw [pK, if_pos (by (try dsimp only); rw [← f44]; omega)]; rfl
                       have e3 : (pM (fun k => rd I 172 k) j : Int) = (pM (fun k => rd I 172 k) (j + 1) : Nat) := by
                         rw [pM, if_pos (by (try dsimp only); rw [← f44]; omega)]
                       rw [e1, e2, e3]
                       exact ih (j + 1) I' (by omega) (by omega) hok' (fun k hk => by rw [hc k hk, pC, if_neg (by (try dsimp only); rw [← f44]; omega)]) hx)
                    | (have e1 : (pR (fun k => rd I 172 k) j : Int) = (pR (fun k => rd I 172 k) (j + 1) : Nat) := by
                         rw [pR, if_neg (by (try dsimp only); rw [← f44]; omega)]
                       have e2 : (pK (fun k => rd I 172 k) j : Int) + 1 = (pK (fun k => rd I 172 k) (j + 1) : Nat) := by
                         rw [pK, if_neg (by (try dsimp only); rw [← f44]; omega)]; rfl
                       have e4 : ∀ k, k < 50 → rd (wr I' 182 (10 * (pR (fun k => rd I 172 k) j : Int) + (pK (fun k => rd I 172 k) j : Int)).toNat z44) 182 k = pC (fun k => rd I 172 k) (j + 1) k := fun k hk => by
                         rw [rd_wr (by omega) (by omega), pC]
                         by_cases g : k = 10 * pR (fun k => rd I 172 k) j + pK (fun k => rd I 172 k) j
                         · rw [if_pos ⟨rfl, by omega⟩, if_pos ⟨by (try dsimp only); rw [← f44]; omega, g⟩]; exact f44
                         · rw [if_neg (by omega), if_neg (by omega)]; exact hc k hk
                       have e5 : fq (fun id _ => id = 182) I (wr I' 182 (10 * (pR (fun k => rd I 172 k) j : Int) + (pK (fun k => rd I 172 k) j : Int)).toNat z44) := fun id k hk => by rw [rd_wr_row hk]; exact hx id k hk
                       first
                         | (have e3 : (pM (fun k => rd I 172 k) j : Int) + 1 = (pM (fun k => rd I 172 k) (j + 1) : Nat) := by
                              rw [pM, if_neg (by (try dsimp only); rw [← f44]; omega)]; rfl
                            have L := ih (j + 1) _ (by omega) (by omega) hok' e4 e5
                            rw [← e1, ← e2, ← e3] at L
                            exact L)
                         | (have e3 : (pM (fun k => rd I 172 k) j : Int) = (pM (fun k => rd I 172 k) (j + 1) : Nat) := by
                              rw [pM, if_pos (by (try dsimp only); rw [← f44]; omega)]
                            have L := ih (j + 1) _ (by omega) (by omega) hok' e4 e5
                            rw [← e1, ← e2, ← e3] at L
                            exact L))
              · refine w_iconst (v := iI (-1)) dX12_reads_101 rfl ?_
                refine v_iret dX12_reads_102 rfl ⟨rfl, rfl⟩ ?_
                refine hn (fun g => ?_) I' hx
                have g1 := g.1 j (by omega)
                unfold pB at g1
                (try dsimp only at g1)
                rw [← f44] at g1
                omega
            · refine w_iload dX12_reads_88 rfl ?_
              refine w_bipush (v := iI 95) dX12_reads_90 (by decide) ?_
              refine v_icmp_ne 101 dX12_reads_92 (by decide) (by omega) (by omega) (fun c92 => ?_) (fun c92 => ?_)
              · refine w_iconst (v := iI (-1)) dX12_reads_101 rfl ?_
                refine v_iret dX12_reads_102 rfl ⟨rfl, rfl⟩ ?_
                refine hn (fun g => ?_) I' hx
                have g1 := g.1 j (by omega)
                unfold pB at g1
                (try dsimp only at g1)
                rw [← f44] at g1
                omega
              · refine w_iload_n dX12_reads_95 rfl ?_
                refine w_bipush (v := iI 10) dX12_reads_96 (by decide) ?_
                refine v_icmp_ne 103 dX12_reads_98 (by decide) (by omega) (by omega) (fun c98 => ?_) (fun c98 => ?_)
                · refine w_aload_n dX12_reads_103 rfl ?_
                  refine v_getR (j := 182) dX12_reads_104 fX12_41 ⟨by decide, rfl⟩ rfl rfl ?_
                  refine w_bipush (v := iI 10) dX12_reads_107 (by decide) ?_
                  refine w_iload_n dX12_reads_109 rfl ?_
                  refine v_imul dX12_reads_110 ?_
                  refine w_iload_n dX12_reads_111 rfl ?_
                  refine v_iadd dX12_reads_112 ?_
                  refine w_iload dX12_reads_113 rfl ?_
                  refine v_iast dX12_reads_115 ⟨by decide, rfl⟩ (by omega) (by omega) (by decide) ?_
                  refine v_iinc dX12_reads_116 rfl rfl rfl ?_
                  refine w_iload dX12_reads_119 rfl ?_
                  refine w_bipush (v := iI 95) dX12_reads_121 (by decide) ?_
                  refine v_icmp_eq 129 dX12_reads_123 (by decide) (by omega) (by omega) (fun c123 => ?_) (fun c123 => ?_)
                  · refine v_iinc dX12_reads_129 rfl rfl rfl ?_
                    refine w_goto 32 dX12_reads_132 (by decide) ?_
                    refine w_keep 6 ?_
                    have hb1 : pB (fun k => rd I 172 k) j := by
                      unfold pB
                      (try dsimp only)
                      rw [← f44]
                      omega
                    have hok' : ∀ i, i < j + 1 → pB (fun k => rd I 172 k) i := fun i hi => by
                      rcases Nat.lt_succ_iff_lt_or_eq.mp hi with g | g
                      · exact hok i g
                      · subst g; exact hb1
                    first
                      | (have e1 : (pR (fun k => rd I 172 k) j : Int) + 1 = (pR (fun k => rd I 172 k) (j + 1) : Nat) := by
                           rw [pR, if_pos (by (try dsimp only); rw [← f44]; omega)]; omega
                         have e2 : (0 : Int) = (pK (fun k => rd I 172 k) (j + 1) : Nat) := by
                           rw [pK, if_pos (by (try dsimp only); rw [← f44]; omega)]; rfl
                         have e3 : (pM (fun k => rd I 172 k) j : Int) = (pM (fun k => rd I 172 k) (j + 1) : Nat) := by
                           rw [pM, if_pos (by (try dsimp only); rw [← f44]; omega)]
                         rw [e1, e2, e3]
                         exact ih (j + 1) I' (by omega) (by omega) hok' (fun k hk => by rw [hc k hk, pC, if_neg (by (try dsimp only); rw [← f44]; omega)]) hx)
                      | (have e1 : (pR (fun k => rd I 172 k) j : Int) = (pR (fun k => rd I 172 k) (j + 1) : Nat) := by
                           rw [pR, if_neg (by (try dsimp only); rw [← f44]; omega)]
                         have e2 : (pK (fun k => rd I 172 k) j : Int) + 1 = (pK (fun k => rd I 172 k) (j + 1) : Nat) := by
                           rw [pK, if_neg (by (try dsimp only); rw [← f44]; omega)]; rfl
                         have e4 : ∀ k, k < 50 → rd (wr I' 182 (10 * (pR (fun k => rd I 172 k) j : Int) + (pK (fun k => rd I 172 k) j : Int)).toNat z44) 182 k = pC (fun k => rd I 172 k) (j + 1) k := fun k hk => by
                           rw [rd_wr (by omega) (by omega), pC]
                           by_cases g : k = 10 * pR (fun k => rd I 172 k) j + pK (fun k => rd I 172 k) j
                           · rw [if_pos ⟨rfl, by omega⟩, if_pos ⟨by (try dsimp only); rw [← f44]; omega, g⟩]; exact f44
                           · rw [if_neg (by omega), if_neg (by omega)]; exact hc k hk
                         have e5 : fq (fun id _ => id = 182) I (wr I' 182 (10 * (pR (fun k => rd I 172 k) j : Int) + (pK (fun k => rd I 172 k) j : Int)).toNat z44) := fun id k hk => by rw [rd_wr_row hk]; exact hx id k hk
                         first
                           | (have e3 : (pM (fun k => rd I 172 k) j : Int) + 1 = (pM (fun k => rd I 172 k) (j + 1) : Nat) := by
                                rw [pM, if_neg (by (try dsimp only); rw [← f44]; omega)]; rfl
                              have L := ih (j + 1) _ (by omega) (by omega) hok' e4 e5
                              rw [← e1, ← e2, ← e3] at L
                              exact L)
                           | (have e3 : (pM (fun k => rd I 172 k) j : Int) = (pM (fun k => rd I 172 k) (j + 1) : Nat) := by
                                rw [pM, if_pos (by (try dsimp only); rw [← f44]; omega)]
                              have L := ih (j + 1) _ (by omega) (by omega) hok' e4 e5
                              rw [← e1, ← e2, ← e3] at L
                              exact L))
                  · refine v_iinc dX12_reads_126 rfl rfl rfl ?_
                    refine v_iinc dX12_reads_129 rfl rfl rfl ?_
                    refine w_goto 32 dX12_reads_132 (by decide) ?_
                    refine w_keep 6 ?_
                    have hb1 : pB (fun k => rd I 172 k) j := by
                      unfold pB
                      (try dsimp only)
                      rw [← f44]
                      omega
                    have hok' : ∀ i, i < j + 1 → pB (fun k => rd I 172 k) i := fun i hi => by
                      rcases Nat.lt_succ_iff_lt_or_eq.mp hi with g | g
                      · exact hok i g
                      · subst g; exact hb1
                    first
                      | (have e1 : (pR (fun k => rd I 172 k) j : Int) + 1 = (pR (fun k => rd I 172 k) (j + 1) : Nat) := by
                           rw [pR, if_pos (by (try dsimp only); rw [← f44]; omega)]; omega
                         have e2 : (0 : Int) = (pK (fun k => rd I 172 k) (j + 1) : Nat) := by
                           rw [pK, if_pos (by (try dsimp only); rw [← f44]; omega)]; rfl
                         have e3 : (pM (fun k => rd I 172 k) j : Int) = (pM (fun k => rd I 172 k) (j + 1) : Nat) := by
                           rw [pM, if_pos (by (try dsimp only); rw [← f44]; omega)]
                         rw [e1, e2, e3]
                         exact ih (j + 1) I' (by omega) (by omega) hok' (fun k hk => by rw [hc k hk, pC, if_neg (by (try dsimp only); rw [← f44]; omega)]) hx)
                      | (have e1 : (pR (fun k => rd I 172 k) j : Int) = (pR (fun k => rd I 172 k) (j + 1) : Nat) := by
                           rw [pR, if_neg (by (try dsimp only); rw [← f44]; omega)]
                         have e2 : (pK (fun k => rd I 172 k) j : Int) + 1 = (pK (fun k => rd I 172 k) (j + 1) : Nat) := by
                           rw [pK, if_neg (by (try dsimp only); rw [← f44]; omega)]; rfl
                         have e4 : ∀ k, k < 50 → rd (wr I' 182 (10 * (pR (fun k => rd I 172 k) j : Int) + (pK (fun k => rd I 172 k) j : Int)).toNat z44) 182 k = pC (fun k => rd I 172 k) (j + 1) k := fun k hk => by
                           rw [rd_wr (by omega) (by omega), pC]
                           by_cases g : k = 10 * pR (fun k => rd I 172 k) j + pK (fun k => rd I 172 k) j
                           · rw [if_pos ⟨rfl, by omega⟩, if_pos ⟨by (try dsimp only); rw [← f44]; omega, g⟩]; exact f44
                           · rw [if_neg (by omega), if_neg (by omega)]; exact hc k hk
                         have e5 : fq (fun id _ => id = 182) I (wr I' 182 (10 * (pR (fun k => rd I 172 k) j : Int) + (pK (fun k => rd I 172 k) j : Int)).toNat z44) := fun id k hk => by rw [rd_wr_row hk]; exact hx id k hk
                         first
                           | (have e3 : (pM (fun k => rd I 172 k) j : Int) + 1 = (pM (fun k => rd I 172 k) (j + 1) : Nat) := by
                                rw [pM, if_neg (by (try dsimp only); rw [← f44]; omega)]; rfl
                              have L := ih (j + 1) _ (by omega) (by omega) hok' e4 e5
                              rw [← e1, ← e2, ← e3] at L
                              exact L)
                           | (have e3 : (pM (fun k => rd I 172 k) j : Int) = (pM (fun k => rd I 172 k) (j + 1) : Nat) := by
                                rw [pM, if_pos (by (try dsimp only); rw [← f44]; omega)]
                              have L := ih (j + 1) _ (by omega) (by omega) hok' e4 e5
                              rw [← e1, ← e2, ← e3] at L
                              exact L))
                · refine w_iconst (v := iI (-1)) dX12_reads_101 rfl ?_
                  refine v_iret dX12_reads_102 rfl ⟨rfl, rfl⟩ ?_
                  refine hn (fun g => ?_) I' hx
                  have g1 := g.1 j (by omega)
                  unfold pB at g1
                  (try dsimp only at g1)
                  rw [← f44] at g1
                  omega
      · refine v_iinc dX12_reads_54 rfl rfl rfl ?_
        refine w_iconst (v := iI 0) dX12_reads_57 rfl ?_
        refine w_istore_n dX12_reads_58 rfl rfl ?_
        refine w_iload_n dX12_reads_59 rfl ?_
        refine w_iconst (v := iI 5) dX12_reads_60 rfl ?_
        refine v_icmp_ne 129 dX12_reads_61 (by decide) (by omega) (by omega) (fun c61 => ?_) (fun c61 => ?_)
        · refine v_iinc dX12_reads_129 rfl rfl rfl ?_
          refine w_goto 32 dX12_reads_132 (by decide) ?_
          refine w_keep 6 ?_
          have hb1 : pB (fun k => rd I 172 k) j := by
            unfold pB
            (try dsimp only)
            rw [← f44]
            omega
          have hok' : ∀ i, i < j + 1 → pB (fun k => rd I 172 k) i := fun i hi => by
            rcases Nat.lt_succ_iff_lt_or_eq.mp hi with g | g
            · exact hok i g
            · subst g; exact hb1
          first
            | (have e1 : (pR (fun k => rd I 172 k) j : Int) + 1 = (pR (fun k => rd I 172 k) (j + 1) : Nat) := by
                 rw [pR, if_pos (by (try dsimp only); rw [← f44]; omega)]; omega
               have e2 : (0 : Int) = (pK (fun k => rd I 172 k) (j + 1) : Nat) := by
                 rw [pK, if_pos (by (try dsimp only); rw [← f44]; omega)]; rfl
               have e3 : (pM (fun k => rd I 172 k) j : Int) = (pM (fun k => rd I 172 k) (j + 1) : Nat) := by
                 rw [pM, if_pos (by (try dsimp only); rw [← f44]; omega)]
               rw [e1, e2, e3]
               exact ih (j + 1) I' (by omega) (by omega) hok' (fun k hk => by rw [hc k hk, pC, if_neg (by (try dsimp only); rw [← f44]; omega)]) hx)
            | (have e1 : (pR (fun k => rd I 172 k) j : Int) = (pR (fun k => rd I 172 k) (j + 1) : Nat) := by
                 rw [pR, if_neg (by (try dsimp only); rw [← f44]; omega)]
               have e2 : (pK (fun k => rd I 172 k) j : Int) + 1 = (pK (fun k => rd I 172 k) (j + 1) : Nat) := by
                 rw [pK, if_neg (by (try dsimp only); rw [← f44]; omega)]; rfl
               have e4 : ∀ k, k < 50 → rd (wr I' 182 (10 * (pR (fun k => rd I 172 k) j : Int) + (pK (fun k => rd I 172 k) j : Int)).toNat z44) 182 k = pC (fun k => rd I 172 k) (j + 1) k := fun k hk => by
                 rw [rd_wr (by omega) (by omega), pC]
                 by_cases g : k = 10 * pR (fun k => rd I 172 k) j + pK (fun k => rd I 172 k) j
                 · rw [if_pos ⟨rfl, by omega⟩, if_pos ⟨by (try dsimp only); rw [← f44]; omega, g⟩]; exact f44
                 · rw [if_neg (by omega), if_neg (by omega)]; exact hc k hk
               have e5 : fq (fun id _ => id = 182) I (wr I' 182 (10 * (pR (fun k => rd I 172 k) j : Int) + (pK (fun k => rd I 172 k) j : Int)).toNat z44) := fun id k hk => by rw [rd_wr_row hk]; exact hx id k hk
               first
                 | (have e3 : (pM (fun k => rd I 172 k) j : Int) + 1 = (pM (fun k => rd I 172 k) (j + 1) : Nat) := by
                      rw [pM, if_neg (by (try dsimp only); rw [← f44]; omega)]; rfl
                    have L := ih (j + 1) _ (by omega) (by omega) hok' e4 e5
                    rw [← e1, ← e2, ← e3] at L
                    exact L)
                 | (have e3 : (pM (fun k => rd I 172 k) j : Int) = (pM (fun k => rd I 172 k) (j + 1) : Nat) := by
                      rw [pM, if_pos (by (try dsimp only); rw [← f44]; omega)]
                    have L := ih (j + 1) _ (by omega) (by omega) hok' e4 e5
                    rw [← e1, ← e2, ← e3] at L
                    exact L))
        · refine w_iconst (v := iI (-1)) dX12_reads_64 rfl ?_
          refine v_iret dX12_reads_65 rfl ⟨rfl, rfl⟩ ?_
          refine hn (fun g => ?_) I' hx
          have g1 := g.1 j (by omega)
          unfold pB at g1
          (try dsimp only at g1)
          rw [← f44] at g1
          omega
theorem x12_reads_f {I : Nat → Nat → Int32} {J : Nat → Nat → Int64} {F : Option Value → zM → Prop} {t : Nat} (ht2 : t ≤ 200) (hn : ¬ ((∀ j, j < t → pB (fun k => rd I 172 k) j) ∧ 0 < pM (fun k => rd I 172 k) t) → ∀ I', fq (fun id _ => id = 182) I I' → F (some (.int (iI (-1)))) (gM I' J)) (hy : (∀ j, j < t → pB (fun k => rd I 172 k) j) → 0 < pM (fun k => rd I 172 k) t → ∀ I', (∀ k, k < 50 → rd I' 182 k = pC (fun k => rd I 172 k) t k) → fq (fun id _ => id = 182) I I' → F (some (.int (iI (pM (fun k => rd I 172 k) t : Int)))) (gM I' J)) : ∀ (nz : Nat) (k : Nat) (I' : Nat → Nat → Int32), 50 - k < nz → k ≤ 50 → (∀ i, i < k → rd I' 182 i = 95) → fq (fun id _ => id = 182) I I' → Wp (sE kX12_reads RX12) F 2 [(0, .ref 171), (1, .int (iI (t : Int))), (2, .int (iI (k : Int)))] [] (gM I' J) := by
  intro nz
  induction nz with
  | zero =>
    intro k I' hmz hk hc hx
    exact absurd hmz (Nat.not_lt_zero _)
  | succ nz ih =>
    intro k I' hmz hk hc hx
    refine w_iload_n dX12_reads_2 rfl ?_
    refine w_bipush (v := iI 50) dX12_reads_3 (by decide) ?_
    refine v_icmp_ge 22 dX12_reads_5 (by decide) (by omega) (by omega) (fun c5 => ?_) (fun c5 => ?_)
    · refine w_iconst (v := iI 0) dX12_reads_22 rfl ?_
      refine w_istore_n dX12_reads_23 rfl rfl ?_
      refine w_iconst (v := iI 0) dX12_reads_24 rfl ?_
      refine w_istore_n dX12_reads_25 rfl rfl ?_
      refine w_iconst (v := iI 0) dX12_reads_26 rfl ?_
      refine w_istore dX12_reads_27 rfl rfl ?_
      refine w_iconst (v := iI 0) dX12_reads_29 rfl ?_
      refine w_istore dX12_reads_30 rfl rfl ?_
      exact x12_reads_l ht2 hn hy (t + 1) 0 I' (by omega) (by omega) (fun i hi => by omega) (fun i hi => hc i (by omega)) hx
    · refine w_aload_n dX12_reads_8 rfl ?_
      refine v_getR (j := 182) dX12_reads_9 fX12_41 ⟨by decide, rfl⟩ rfl rfl ?_
      refine w_iload_n dX12_reads_12 rfl ?_
      refine w_bipush (v := iI 95) dX12_reads_13 (by decide) ?_
      refine v_iast dX12_reads_15 ⟨by decide, rfl⟩ (by omega) (by omega) (by decide) ?_
      refine v_iinc dX12_reads_16 rfl rfl rfl ?_
      refine w_goto 2 dX12_reads_19 (by decide) ?_
      refine ih (k + 1) _ (by omega) (by omega) (fun i hi => ?_) (fun id i hi => ?_)
      · rw [rd_wr (by omega) (by omega)]
        by_cases g : i = k
        · rw [if_pos ⟨rfl, by omega⟩]
        · rw [if_neg (by omega)]; exact hc i (by omega)
      · rw [rd_wr_row hi]; exact hx id i hi
theorem x12_reads {I : Nat → Nat → Int32} {J : Nat → Nat → Int64} {F : Option Value → zM → Prop} {t : Nat} (ht2 : t ≤ 200) (hn : ¬ ((∀ j, j < t → pB (fun k => rd I 172 k) j) ∧ 0 < pM (fun k => rd I 172 k) t) → ∀ I', fq (fun id _ => id = 182) I I' → F (some (.int (iI (-1)))) (gM I' J)) (hy : (∀ j, j < t → pB (fun k => rd I 172 k) j) → 0 < pM (fun k => rd I 172 k) t → ∀ I', (∀ k, k < 50 → rd I' 182 k = pC (fun k => rd I 172 k) t k) → fq (fun id _ => id = 182) I I' → F (some (.int (iI (pM (fun k => rd I 172 k) t : Int)))) (gM I' J)) : Cl yX12_reads kX12_reads [.ref 171, .int (iI (t : Int))] (gM I J) F := by
  refine cl_s (by decide) (by decide) (Nat.le_of_ble_eq_true rfl) rt_i ?_
  show Wp _ F 0 [(0, .ref 171), (1, .int (iI (t : Int)))] [] _
  refine w_iconst (v := iI 0) dX12_reads_0 rfl ?_
  refine w_istore_n dX12_reads_1 rfl rfl ?_
  exact x12_reads_f ht2 hn hy 51 0 I (by omega) (by omega) (fun i hi => by omega) (fun _ _ _ => rfl)
theorem x12_bit_3 {I : Nat → Nat → Int32} {J : Nat → Nat → Int64} {F : Option Value → zM → Prop} {q : Nat} (hq : q < 10) {t : Nat} {mo : Int} (hy : ∀ I', (rd I' 171 1 = 0 ∧ rd I' 173 q = 1 ∧ rd I' 177 q = 0 ∧ rd I' 180 q = 0 ∧ (∀ k, k < 50 → rd I' 174 (50 * q + k) = pC (fun k => rd I 172 k) t k) ∧ (∀ k, k < 5 → rd I' 175 (5 * q + k) = 0) ∧ (∀ k, k < 10 → rd I' 176 (10 * q + k) = 0) ∧ fq (fun id k => id = 182 ∨ (id = 171 ∧ k = 1) ∨ ((id = 173 ∨ id = 177 ∨ id = 180) ∧ k = q) ∨ (id = 174 ∧ 50 * q ≤ k ∧ k < 50 * q + 50) ∨ (id = 175 ∧ 5 * q ≤ k ∧ k < 5 * q + 5) ∨ (id = 176 ∧ 10 * q ≤ k ∧ k < 10 * q + 10)) I I') → F (some (.int (iI mo))) (gM I' J)) : ∀ (nz : Nat) (k : Nat) (I' : Nat → Nat → Int32), 10 - k < nz → k ≤ 10 → (rd I' 171 1 = 0 ∧ rd I' 173 q = 1 ∧ rd I' 177 q = 0 ∧ rd I' 180 q = 0 ∧ fq (fun id k => id = 182 ∨ (id = 171 ∧ k = 1) ∨ ((id = 173 ∨ id = 177 ∨ id = 180) ∧ k = q) ∨ (id = 174 ∧ 50 * q ≤ k ∧ k < 50 * q + 50) ∨ (id = 175 ∧ 5 * q ≤ k ∧ k < 5 * q + 5) ∨ (id = 176 ∧ 10 * q ≤ k ∧ k < 10 * q + 10)) I I') → (∀ i, i < 50 → rd I' 174 (50 * q + i) = pC (fun k => rd I 172 k) t i) → (∀ i, i < 5 → rd I' 175 (5 * q + i) = 0) → (∀ i, i < k → rd I' 176 (10 * q + i) = 0) → Wp (sE kX12_bit RX12) F 121 [(0, .ref 171), (1, .int (iI (q : Int))), (2, .int (iI (t : Int))), (3, .int (iI mo)), (4, .int (iI (k : Int)))] [] (gM I' J) := by
  intro nz
  induction nz with
  | zero =>
    intro k I' hmz hk hB hc1 hc2 hc
    exact absurd hmz (Nat.not_lt_zero _)
  | succ nz ih =>
    intro k I' hmz hk hB hc1 hc2 hc
    refine w_iload dX12_bit_121 rfl ?_
    refine w_bipush (v := iI 10) dX12_bit_123 (by decide) ?_
    refine v_icmp_ge 147 dX12_bit_125 (by decide) (by omega) (by omega) (fun c125 => ?_) (fun c125 => ?_)
    · refine w_iload_n dX12_bit_147 rfl ?_
      refine v_iret dX12_bit_148 rfl ⟨rfl, rfl⟩ ?_
      exact hy I' ⟨hB.1, hB.2.1, hB.2.2.1, hB.2.2.2.1, hc1, hc2, fun i hi => hc i (by omega), hB.2.2.2.2⟩
    · refine w_aload_n dX12_bit_128 rfl ?_
      refine v_getR (j := 176) dX12_bit_129 fX12_23 ⟨by decide, rfl⟩ rfl rfl ?_
      refine w_bipush (v := iI 10) dX12_bit_132 (by decide) ?_
      refine w_iload_n dX12_bit_134 rfl ?_
      refine v_imul dX12_bit_135 ?_
      refine w_iload dX12_bit_136 rfl ?_
      refine v_iadd dX12_bit_138 ?_
      refine w_iconst (v := iI 0) dX12_bit_139 rfl ?_
      refine v_iast dX12_bit_140 ⟨by decide, rfl⟩ (by omega) (by omega) (by decide) ?_
      refine v_iinc dX12_bit_141 rfl rfl rfl ?_
      refine w_goto 121 dX12_bit_144 (by decide) ?_
      refine ih (k + 1) _ (by omega) (by omega) ⟨?_, ?_, ?_, ?_, fun id i hi => ?_⟩ (fun i hi => by rw [rd_wr_row (by decide)]; exact hc1 i hi) (fun i hi => by rw [rd_wr_row (by decide)]; exact hc2 i hi) (fun i hi => ?_)
      · rw [rd_wr_row (by decide)]; exact hB.1
      · rw [rd_wr_row (by decide)]; exact hB.2.1
      · rw [rd_wr_row (by decide)]; exact hB.2.2.1
      · rw [rd_wr_row (by decide)]; exact hB.2.2.2.1
      · rw [rd_wr_ne (by omega)]; exact hB.2.2.2.2 id i hi
      · rw [rd_wr (by omega) (by omega)]
        by_cases g : i = k
        · rw [if_pos ⟨rfl, by omega⟩]
        · rw [if_neg (by omega)]; exact hc i (by omega)
theorem x12_bit_2 {I : Nat → Nat → Int32} {J : Nat → Nat → Int64} {F : Option Value → zM → Prop} {q : Nat} (hq : q < 10) {t : Nat} {mo : Int} (hy : ∀ I', (rd I' 171 1 = 0 ∧ rd I' 173 q = 1 ∧ rd I' 177 q = 0 ∧ rd I' 180 q = 0 ∧ (∀ k, k < 50 → rd I' 174 (50 * q + k) = pC (fun k => rd I 172 k) t k) ∧ (∀ k, k < 5 → rd I' 175 (5 * q + k) = 0) ∧ (∀ k, k < 10 → rd I' 176 (10 * q + k) = 0) ∧ fq (fun id k => id = 182 ∨ (id = 171 ∧ k = 1) ∨ ((id = 173 ∨ id = 177 ∨ id = 180) ∧ k = q) ∨ (id = 174 ∧ 50 * q ≤ k ∧ k < 50 * q + 50) ∨ (id = 175 ∧ 5 * q ≤ k ∧ k < 5 * q + 5) ∨ (id = 176 ∧ 10 * q ≤ k ∧ k < 10 * q + 10)) I I') → F (some (.int (iI mo))) (gM I' J)) : ∀ (nz : Nat) (k : Nat) (I' : Nat → Nat → Int32), 5 - k < nz → k ≤ 5 → (rd I' 171 1 = 0 ∧ rd I' 173 q = 1 ∧ rd I' 177 q = 0 ∧ rd I' 180 q = 0 ∧ fq (fun id k => id = 182 ∨ (id = 171 ∧ k = 1) ∨ ((id = 173 ∨ id = 177 ∨ id = 180) ∧ k = q) ∨ (id = 174 ∧ 50 * q ≤ k ∧ k < 50 * q + 50) ∨ (id = 175 ∧ 5 * q ≤ k ∧ k < 5 * q + 5) ∨ (id = 176 ∧ 10 * q ≤ k ∧ k < 10 * q + 10)) I I') → (∀ i, i < 50 → rd I' 174 (50 * q + i) = pC (fun k => rd I 172 k) t i) → (∀ i, i < k → rd I' 175 (5 * q + i) = 0) → Wp (sE kX12_bit RX12) F 94 [(0, .ref 171), (1, .int (iI (q : Int))), (2, .int (iI (t : Int))), (3, .int (iI mo)), (4, .int (iI (k : Int)))] [] (gM I' J) := by
  intro nz
  induction nz with
  | zero =>
    intro k I' hmz hk hB hc1 hc
    exact absurd hmz (Nat.not_lt_zero _)
  | succ nz ih =>
    intro k I' hmz hk hB hc1 hc
    refine w_iload dX12_bit_94 rfl ?_
    refine w_iconst (v := iI 5) dX12_bit_96 rfl ?_
    refine v_icmp_ge 118 dX12_bit_97 (by decide) (by omega) (by omega) (fun c97 => ?_) (fun c97 => ?_)
    · refine w_iconst (v := iI 0) dX12_bit_118 rfl ?_
      refine w_istore dX12_bit_119 rfl rfl ?_
      exact x12_bit_3 hq hy 11 0 I' (by omega) (by omega) hB hc1 (fun i hi => hc i (by omega)) (fun i hi => by omega)
    · refine w_aload_n dX12_bit_100 rfl ?_
      refine v_getR (j := 175) dX12_bit_101 fX12_20 ⟨by decide, rfl⟩ rfl rfl ?_
      refine w_iconst (v := iI 5) dX12_bit_104 rfl ?_
      refine w_iload_n dX12_bit_105 rfl ?_
      refine v_imul dX12_bit_106 ?_
      refine w_iload dX12_bit_107 rfl ?_
      refine v_iadd dX12_bit_109 ?_
      refine w_iconst (v := iI 0) dX12_bit_110 rfl ?_
      refine v_iast dX12_bit_111 ⟨by decide, rfl⟩ (by omega) (by omega) (by decide) ?_
      refine v_iinc dX12_bit_112 rfl rfl rfl ?_
      refine w_goto 94 dX12_bit_115 (by decide) ?_
      refine ih (k + 1) _ (by omega) (by omega) ⟨?_, ?_, ?_, ?_, fun id i hi => ?_⟩ (fun i hi => by rw [rd_wr_row (by decide)]; exact hc1 i hi) (fun i hi => ?_)
      · rw [rd_wr_row (by decide)]; exact hB.1
      · rw [rd_wr_row (by decide)]; exact hB.2.1
      · rw [rd_wr_row (by decide)]; exact hB.2.2.1
      · rw [rd_wr_row (by decide)]; exact hB.2.2.2.1
      · rw [rd_wr_ne (by omega)]; exact hB.2.2.2.2 id i hi
      · rw [rd_wr (by omega) (by omega)]
        by_cases g : i = k
        · rw [if_pos ⟨rfl, by omega⟩]
        · rw [if_neg (by omega)]; exact hc i (by omega)
theorem x12_bit_1 {I : Nat → Nat → Int32} {J : Nat → Nat → Int64} {F : Option Value → zM → Prop} {q : Nat} (hq : q < 10) {t : Nat} {mo : Int} (hy : ∀ I', (rd I' 171 1 = 0 ∧ rd I' 173 q = 1 ∧ rd I' 177 q = 0 ∧ rd I' 180 q = 0 ∧ (∀ k, k < 50 → rd I' 174 (50 * q + k) = pC (fun k => rd I 172 k) t k) ∧ (∀ k, k < 5 → rd I' 175 (5 * q + k) = 0) ∧ (∀ k, k < 10 → rd I' 176 (10 * q + k) = 0) ∧ fq (fun id k => id = 182 ∨ (id = 171 ∧ k = 1) ∨ ((id = 173 ∨ id = 177 ∨ id = 180) ∧ k = q) ∨ (id = 174 ∧ 50 * q ≤ k ∧ k < 50 * q + 50) ∨ (id = 175 ∧ 5 * q ≤ k ∧ k < 5 * q + 5) ∨ (id = 176 ∧ 10 * q ≤ k ∧ k < 10 * q + 10)) I I') → F (some (.int (iI mo))) (gM I' J)) : ∀ (nz : Nat) (k : Nat) (I' : Nat → Nat → Int32), 50 - k < nz → k ≤ 50 → (rd I' 171 1 = 0 ∧ rd I' 173 q = 1 ∧ rd I' 177 q = 0 ∧ rd I' 180 q = 0 ∧ fq (fun id k => id = 182 ∨ (id = 171 ∧ k = 1) ∨ ((id = 173 ∨ id = 177 ∨ id = 180) ∧ k = q) ∨ (id = 174 ∧ 50 * q ≤ k ∧ k < 50 * q + 50) ∨ (id = 175 ∧ 5 * q ≤ k ∧ k < 5 * q + 5) ∨ (id = 176 ∧ 10 * q ≤ k ∧ k < 10 * q + 10)) I I') → (∀ i, i < 50 → rd I' 182 i = pC (fun k => rd I 172 k) t i) → (∀ i, i < k → rd I' 174 (50 * q + i) = pC (fun k => rd I 172 k) t i) → Wp (sE kX12_bit RX12) F 59 [(0, .ref 171), (1, .int (iI (q : Int))), (2, .int (iI (t : Int))), (3, .int (iI mo)), (4, .int (iI (k : Int)))] [] (gM I' J) := by
  intro nz
  induction nz with
  | zero =>
    intro k I' hmz hk hB h0 hc
    exact absurd hmz (Nat.not_lt_zero _)
  | succ nz ih =>
    intro k I' hmz hk hB h0 hc
    refine w_iload dX12_bit_59 rfl ?_
    refine w_bipush (v := iI 50) dX12_bit_61 (by decide) ?_
    refine v_icmp_ge 91 dX12_bit_63 (by decide) (by omega) (by omega) (fun c63 => ?_) (fun c63 => ?_)
    · refine w_iconst (v := iI 0) dX12_bit_91 rfl ?_
      refine w_istore dX12_bit_92 rfl rfl ?_
      exact x12_bit_2 hq hy 6 0 I' (by omega) (by omega) hB (fun i hi => hc i (by omega)) (fun i hi => by omega)
    · refine w_aload_n dX12_bit_66 rfl ?_
      refine v_getR (j := 174) dX12_bit_67 fX12_17 ⟨by decide, rfl⟩ rfl rfl ?_
      refine w_bipush (v := iI 50) dX12_bit_70 (by decide) ?_
      refine w_iload_n dX12_bit_72 rfl ?_
      refine v_imul dX12_bit_73 ?_
      refine w_iload dX12_bit_74 rfl ?_
      refine v_iadd dX12_bit_76 ?_
      refine w_aload_n dX12_bit_77 rfl ?_
      refine v_getR (j := 182) dX12_bit_78 fX12_41 ⟨by decide, rfl⟩ rfl rfl ?_
      refine w_iload dX12_bit_81 rfl ?_
      refine v_iald dX12_bit_83 ⟨by decide, rfl⟩ (by omega) (by omega) (by decide) (fun z83 e83 b83 => ?_)
      have f83 : z83 = pC (fun k => rd I 172 k) t k := by rw [e83]; exact h0 k (by omega)
      refine v_iast dX12_bit_84 ⟨by decide, rfl⟩ (by omega) (by omega) (by decide) ?_
      refine v_iinc dX12_bit_85 rfl rfl rfl ?_
      refine w_goto 59 dX12_bit_88 (by decide) ?_
      refine ih (k + 1) _ (by omega) (by omega) ⟨?_, ?_, ?_, ?_, fun id i hi => ?_⟩ (fun i hi => by rw [rd_wr_row (by decide)]; exact h0 i hi) (fun i hi => ?_)
      · rw [rd_wr_row (by decide)]; exact hB.1
      · rw [rd_wr_row (by decide)]; exact hB.2.1
      · rw [rd_wr_row (by decide)]; exact hB.2.2.1
      · rw [rd_wr_row (by decide)]; exact hB.2.2.2.1
      · rw [rd_wr_ne (by omega)]; exact hB.2.2.2.2 id i hi
      · rw [rd_wr (by omega) (by omega)]
        by_cases g : i = k
        · rw [if_pos ⟨rfl, by omega⟩]; rw [g]; exact f83
        · rw [if_neg (by omega)]; exact hc i (by omega)
theorem x12_bit {I : Nat → Nat → Int32} {J : Nat → Nat → Int64} {F : Option Value → zM → Prop} {b : Int} (bb : -2147483648 ≤ b ∧ b < 2147483648) {t : Nat} (ht : rd I 171 1 = t) (ht2 : t ≤ 200) (hn : ¬ ((0 ≤ b ∧ b < 10) ∧ (∀ j, j < t → pB (fun k => rd I 172 k) j) ∧ 0 < pM (fun k => rd I 172 k) t) → ∀ I', rd I' 171 1 = 0 → fq (fun id k => id = 182 ∨ (id = 171 ∧ k = 1)) I I' → F (some (.int (iI (-1)))) (gM I' J)) (hy : ∀ q : Nat, b = q → q < 10 → (∀ j, j < t → pB (fun k => rd I 172 k) j) → 0 < pM (fun k => rd I 172 k) t → ∀ I', (rd I' 171 1 = 0 ∧ rd I' 173 q = 1 ∧ rd I' 177 q = 0 ∧ rd I' 180 q = 0 ∧ (∀ k, k < 50 → rd I' 174 (50 * q + k) = pC (fun k => rd I 172 k) t k) ∧ (∀ k, k < 5 → rd I' 175 (5 * q + k) = 0) ∧ (∀ k, k < 10 → rd I' 176 (10 * q + k) = 0) ∧ fq (fun id k => id = 182 ∨ (id = 171 ∧ k = 1) ∨ ((id = 173 ∨ id = 177 ∨ id = 180) ∧ k = q) ∨ (id = 174 ∧ 50 * q ≤ k ∧ k < 50 * q + 50) ∨ (id = 175 ∧ 5 * q ≤ k ∧ k < 5 * q + 5) ∨ (id = 176 ∧ 10 * q ≤ k ∧ k < 10 * q + 10)) I I') → F (some (.int (iI (pM (fun k => rd I 172 k) t : Int)))) (gM I' J)) : Cl yX12_bit kX12_bit [.ref 171, .int (iI b)] (gM I J) F := by
  refine cl_s (by decide) (by decide) (Nat.le_of_ble_eq_true rfl) rt_i ?_
  show Wp _ F 0 [(0, .ref 171), (1, .int (iI b))] [] _
  refine w_aload_n dX12_bit_0 rfl ?_
  refine v_getI dX12_bit_1 fX12_65 ⟨by decide, rfl⟩ (Or.inl rfl) (fun z1 e1 b1 => ?_)
  have f1 : z1 = t := by rw [e1]; exact ht
  subst f1
  refine w_istore_n dX12_bit_4 rfl rfl ?_
  refine w_aload_n dX12_bit_5 rfl ?_
  refine w_iconst (v := iI 0) dX12_bit_6 rfl ?_
  refine v_putI dX12_bit_7 fX12_65 ⟨by decide, rfl⟩ rfl (Or.inl rfl) ?_
  refine w_iload_n dX12_bit_10 rfl ?_
  refine w_iconst (v := iI 0) dX12_bit_11 rfl ?_
  refine w_bipush (v := iI 9) dX12_bit_12 (by decide) ?_
  refine v_callS3 dX12_bit_14 lX12_69 vX12_isIn (by decide) rfl rfl (Nat.le_of_ble_eq_true rfl) ?_
  refine x12_isIn (by omega) (by omega) (by omega) (fun q14 => ?_) (fun q14 => ?_)
  · refine v_if_ne 22 dX12_bit_17 (by decide) (by decide) (fun _ => ?_) (fun q => absurd q (by decide))
    refine w_aload_n dX12_bit_22 rfl ?_
    refine w_iload_n dX12_bit_23 rfl ?_
    refine v_callV1 dX12_bit_24 lX12_77 vX12_reads (by decide) rfl rfl ⟨by decide, rfl⟩ (by decide) rfl (Nat.le_of_ble_eq_true rfl) ?_
    have etp : (fun k => rd (wr I 171 1 0) 172 k) = (fun k => rd I 172 k) := funext fun k => rd_wr_row (by decide)
    refine x12_reads ht2 (fun g I' hx => ?_) (fun g1 g2 I' hc hx => ?_)
    all_goals rw [etp] at *
    all_goals try have pbx := pOk_bd g1
    · refine w_istore_n dX12_bit_27 rfl rfl ?_
      refine w_iload_n dX12_bit_28 rfl ?_
      refine w_iconst (v := iI (-1)) dX12_bit_29 rfl ?_
      refine v_icmp_ne 35 dX12_bit_30 (by decide) (by decide) (by decide) (fun q => absurd q (by decide)) (fun _ => ?_)
      refine w_iconst (v := iI (-1)) dX12_bit_33 rfl ?_
      refine v_iret dX12_bit_34 rfl ⟨rfl, rfl⟩ ?_
      first | exact hn (fun z => g z.2) I' (by rw [hx _ _ (by (try dsimp only); omega)]; exact rd_wr_eq (by omega) (by omega)) (fun id k hk => by rw [hx id k (fun g => hk (Or.inl g)), rd_wr_ne (fun g => hk (Or.inr g))]) | (exfalso; have pbb := pOk_bd g1; omega)
    · refine w_istore_n dX12_bit_27 rfl rfl ?_
      refine w_iload_n dX12_bit_28 rfl ?_
      refine w_iconst (v := iI (-1)) dX12_bit_29 rfl ?_
      refine v_icmp_ne 35 dX12_bit_30 (by decide) (by omega) (by omega) (fun c30 => ?_) (fun c30 => ?_)
      · refine w_aload_n dX12_bit_35 rfl ?_
        refine v_getR (j := 173) dX12_bit_36 fX12_13 ⟨by decide, rfl⟩ rfl rfl ?_
        refine w_iload_n dX12_bit_39 rfl ?_
        refine w_iconst (v := iI 1) dX12_bit_40 rfl ?_
        refine v_zast dX12_bit_41 ⟨by decide, rfl⟩ (by omega) (by omega) (by decide) (by decide) ?_
        refine w_aload_n dX12_bit_42 rfl ?_
        refine v_getR (j := 177) dX12_bit_43 fX12_26 ⟨by decide, rfl⟩ rfl rfl ?_
        refine w_iload_n dX12_bit_46 rfl ?_
        refine w_iconst (v := iI 0) dX12_bit_47 rfl ?_
        refine v_zast dX12_bit_48 ⟨by decide, rfl⟩ (by omega) (by omega) (by decide) (by decide) ?_
        refine w_aload_n dX12_bit_49 rfl ?_
        refine v_getR (j := 180) dX12_bit_50 fX12_35 ⟨by decide, rfl⟩ rfl rfl ?_
        refine w_iload_n dX12_bit_53 rfl ?_
        refine w_iconst (v := iI 0) dX12_bit_54 rfl ?_
        refine v_iast dX12_bit_55 ⟨by decide, rfl⟩ (by omega) (by omega) (by decide) ?_
        refine w_iconst (v := iI 0) dX12_bit_56 rfl ?_
        refine w_istore dX12_bit_57 rfl rfl ?_
        obtain ⟨q, hqe⟩ : ∃ q : Nat, b = q := ⟨b.toNat, by omega⟩
        subst hqe
        have pbb := pOk_bd g1
        rw [Int.toNat_natCast]
        refine x12_bit_1 (t := t) (by omega) (hy q rfl (by omega) g1 g2) 51 0 _ (by omega) (by omega) ⟨?_, ?_, ?_, ?_, fun id k hk => ?_⟩ (fun i hi => ?_) (fun i hi => by omega)
        · rw [rd_wr_row (by decide), rd_wr_row (by decide), rd_wr_row (by decide), hx _ _ (by (try dsimp only); omega)]; exact rd_wr_eq (by omega) (by omega)
        · rw [rd_wr_row (by decide), rd_wr_row (by decide)]; exact rd_wr_eq (by omega) (by omega)
        · rw [rd_wr_row (by decide)]; exact rd_wr_eq (by omega) (by omega)
        · exact rd_wr_eq (by omega) (by omega)
        · rw [rd_wr_ne (by omega), rd_wr_ne (by omega), rd_wr_ne (by omega), hx id k (by omega), rd_wr_ne (by omega)]
        · rw [rd_wr_row (by decide), rd_wr_row (by decide), rd_wr_row (by decide)]; exact hc i hi
      · refine w_iconst (v := iI (-1)) dX12_bit_33 rfl ?_
        refine v_iret dX12_bit_34 rfl ⟨rfl, rfl⟩ ?_
        first | exact hn (fun z => g z.2) I' (by rw [hx _ _ (by (try dsimp only); omega)]; exact rd_wr_eq (by omega) (by omega)) (fun id k hk => by rw [hx id k (fun g => hk (Or.inl g)), rd_wr_ne (fun g => hk (Or.inr g))]) | (exfalso; have pbb := pOk_bd g1; omega)
  · refine v_if_ne 22 dX12_bit_17 (by decide) (by decide) (fun q => absurd q (by decide)) (fun _ => ?_)
    refine w_iconst (v := iI (-1)) dX12_bit_20 rfl ?_
    refine v_iret dX12_bit_21 rfl ⟨rfl, rfl⟩ ?_
    exact hn (by omega) _ (rd_wr_eq (by omega) (by omega)) (fun id k hk => rd_wr_ne (fun g => hk (Or.inr g)))
