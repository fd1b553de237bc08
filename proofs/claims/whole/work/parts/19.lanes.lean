/-! Lanes -/
/-- FIBRE j counts beside the lanes from fm on (tellers in cell q, N of them) -/
abbrev wLc (I : Nat → Nat → Int32) (q : Nat) (N : Int) (f : Int → Int) (fm : Int) (j : Nat) : Prop := f j ≠ 0 ∧ 0 ≤ fm + j ∧ fm + j < N ∧ 0 < rd I q (fm + j).toNat
def wLs (I : Nat → Nat → Int32) (q : Nat) (N : Int) (f : Int → Int) (fm : Int) : Nat → Int
  | 0 => 0
  | n + 1 => wLs I q N f fm n + (if wLc I q N f fm n then 2 * rd I q (fm + n).toNat else 0)
def smN (f : Nat → Int) : Nat → Int
  | 0 => 0
  | n + 1 => smN f n + f n
theorem x3_has_a {I : Nat → Nat → Int32} {J : Nat → Nat → Int64} {F : Option Value → zM → Prop} {l : Int} (bl : -2147483648 ≤ l ∧ l < 2147483648) (ht : 0 ≤ l ∧ l < 16 → F (some (.int (iI 1))) (gM I J)) (hf : ¬ (0 ≤ l ∧ l < 16) → F (some (.int (iI 0))) (gM I J)) : Cl yX3_has kX3_has [.ref 145, .int (iI l)] (gM I J) F := by
  refine cl_s (by decide) (by decide) (Nat.le_of_ble_eq_true rfl) rt_z ?_
  show Wp _ F 0 [(0, .ref 145), (1, .int (iI l))] [] _
  refine w_iload_n dX3_has_0 rfl ?_
  refine v_if_lt 17 dX3_has_1 (by decide) (by omega) (fun c1 => ?_) (fun c1 => ?_)
  · refine w_iconst (v := iI 0) dX3_has_17 rfl ?_
    refine v_zret dX3_has_18 rfl ⟨rfl, rfl⟩ (by decide) ?_
    first | exact ht (by omega) | exact hf (by omega)
  · refine w_iload_n dX3_has_4 rfl ?_
    refine w_aload_n dX3_has_5 rfl ?_
    refine v_getR (j := 146) dX3_has_6 fX3_9 ⟨by decide, rfl⟩ rfl rfl ?_
    refine v_alen0 dX3_has_9 ⟨by decide, rfl⟩ ?_
    refine v_icmp_ge 17 dX3_has_10 (by decide) (by omega) (by omega) (fun c10 => ?_) (fun c10 => ?_)
    · refine w_iconst (v := iI 0) dX3_has_17 rfl ?_
      refine v_zret dX3_has_18 rfl ⟨rfl, rfl⟩ (by decide) ?_
      first | exact ht (by omega) | exact hf (by omega)
    · refine w_iconst (v := iI 1) dX3_has_13 rfl ?_
      refine w_goto 18 dX3_has_14 (by decide) ?_
      refine v_zret dX3_has_18 rfl ⟨rfl, rfl⟩ (by decide) ?_
      first | exact ht (by omega) | exact hf (by omega)
theorem x3_worthOf_a_l {I : Nat → Nat → Int32} {J : Nat → Nat → Int64} {F : Option Value → zM → Prop} {b : Nat} (hb : b < 10) {fm : Int} (hfm : -1000 ≤ fm ∧ fm ≤ 1000) (hq : (∃ j : Nat, j < 5 ∧ (wLc I 147 16 (fun i : Int => tF I (bI b 7) (bI b 8) 5 i) fm j ∧ rd I 146 (fm + j).toNat ≠ tF I (bI b 7) (bI b 8) 5 (j : Int))) → F (some (.int (iI (-1)))) (gM I J)) (hs : (∀ j : Nat, j < 5 → ¬ (wLc I 147 16 (fun i : Int => tF I (bI b 7) (bI b 8) 5 i) fm j ∧ rd I 146 (fm + j).toNat ≠ tF I (bI b 7) (bI b 8) 5 (j : Int))) → F (some (.int (iI (wLs I 147 16 (fun i : Int => tF I (bI b 7) (bI b 8) 5 i) fm 5)))) (gM I J)) : ∀ (n : Nat) (k : Nat) (acc : Int), 5 - k < n → k ≤ 5 → acc = wLs I 147 16 (fun i : Int => tF I (bI b 7) (bI b 8) 5 i) fm k → (∀ j : Nat, j < k → ¬ (wLc I 147 16 (fun i : Int => tF I (bI b 7) (bI b 8) 5 i) fm j ∧ rd I 146 (fm + j).toNat ≠ tF I (bI b 7) (bI b 8) 5 (j : Int))) → Wp (sE kX3_worthOf RX3) F 5 [(0, .ref 145), (1, .ref (bI b 6)), (2, .int (iI fm)), (3, .int (iI acc)), (4, .int (iI (k : Int)))] [] (gM I J) := by
  intro n
  induction n with
  | zero =>
    intro k acc hn hk ha hno
    exact absurd hn (Nat.not_lt_zero _)
  | succ n ih =>
    intro k acc hn hk ha hno
    refine w_iload dX3_worthOf_5 rfl ?_
    refine w_aload_n dX3_worthOf_7 rfl ?_
    refine v_getR (j := bI b 7) dX3_worthOf_8 fX3_18 (sO_b hb (by decide) rfl) rfl (r0_b hb (by decide)) ?_
    refine v_alen0 dX3_worthOf_11 (sA_b hb (by decide) rfl) ?_
    refine v_icmp_ge 85 dX3_worthOf_12 (by decide) (by omega) (by omega) (fun c12 => ?_) (fun c12 => ?_)
    · refine w_iload_n dX3_worthOf_85 rfl ?_
      refine v_iret dX3_worthOf_86 rfl ⟨rfl, rfl⟩ ?_
      have hk2 : k = 5 := by omega
      subst hk2
      rw [ha]
      exact hs hno
    · refine w_aload_n dX3_worthOf_15 rfl ?_
      refine w_iload dX3_worthOf_16 rfl ?_
      refine v_callV1 dX3_worthOf_18 lX3_21 vX1_told (by decide) rfl rfl (sO_b hb (by decide) rfl) (by decide) rfl (by decide) ?_
      refine x1_told_a hb (by omega) (fun z18 e18 b18 => ?_)
      refine w_istore dX3_worthOf_21 rfl rfl ?_
      refine w_iload_n dX3_worthOf_23 rfl ?_
      refine w_iload dX3_worthOf_24 rfl ?_
      refine v_iadd dX3_worthOf_26 ?_
      refine w_istore dX3_worthOf_27 rfl rfl ?_
      refine w_iload dX3_worthOf_29 rfl ?_
      refine v_if_eq 79 dX3_worthOf_31 (by decide) (by omega) (fun c31 => ?_) (fun c31 => ?_)
      · refine v_iinc dX3_worthOf_79 rfl rfl rfl ?_
        refine w_goto 5 dX3_worthOf_82 (by decide) ?_
        refine w_keep 5 ?_
        refine ih (k + 1) _ (by omega) (by omega) ?_ ?_
        · rw [wLs, ← ha]
          simp only [wLc, ← e18]
          first
            | (rw [if_pos (by first | omega | exact ⟨by omega, by omega, by omega, by rw [← e49]; omega⟩), e75]; done)
            | (rw [if_neg (by first | omega | (rintro ⟨g1, g2, g3, g4⟩; first | omega | (rw [← e49] at g4; omega)))]; omega)
        · intro j hj
          rcases Nat.lt_succ_iff_lt_or_eq.mp hj with g | g
          · exact hno j g
          · subst g
            rintro ⟨⟨g1, g2, g3, g4⟩, g5⟩
            simp only [← e18] at g1 g5
            first | omega | (rw [← e49] at g4; omega) | (rw [← e59] at g5; omega)
      · refine w_aload_n dX3_worthOf_34 rfl ?_
        refine w_iload dX3_worthOf_35 rfl ?_
        refine v_callV1 dX3_worthOf_37 lX3_25 vX3_has (by decide) rfl rfl ⟨by decide, rfl⟩ (by decide) rfl (by decide) ?_
        refine x3_has_a (by omega) (fun q37 => ?_) (fun q37 => ?_)
        · refine v_if_eq 79 dX3_worthOf_40 (by decide) (by decide) (fun q => absurd q (by decide)) (fun _ => ?_)
          refine w_aload_n dX3_worthOf_43 rfl ?_
          refine v_getR (j := 147) dX3_worthOf_44 fX3_15 ⟨by decide, rfl⟩ rfl rfl ?_
          refine w_iload dX3_worthOf_47 rfl ?_
          refine v_iald dX3_worthOf_49 ⟨by decide, rfl⟩ (by omega) (by omega) (by decide) (fun z49 e49 b49 => ?_)
          refine v_if_le 79 dX3_worthOf_50 (by decide) (by omega) (fun c50 => ?_) (fun c50 => ?_)
          · refine v_iinc dX3_worthOf_79 rfl rfl rfl ?_
            refine w_goto 5 dX3_worthOf_82 (by decide) ?_
            refine w_keep 5 ?_
            refine ih (k + 1) _ (by omega) (by omega) ?_ ?_
            · rw [wLs, ← ha]
              simp only [wLc, ← e18]
              first
                | (rw [if_pos (by first | omega | exact ⟨by omega, by omega, by omega, by rw [← e49]; omega⟩), e75]; done)
                | (rw [if_neg (by first | omega | (rintro ⟨g1, g2, g3, g4⟩; first | omega | (rw [← e49] at g4; omega)))]; omega)
            · intro j hj
              rcases Nat.lt_succ_iff_lt_or_eq.mp hj with g | g
              · exact hno j g
              · subst g
                rintro ⟨⟨g1, g2, g3, g4⟩, g5⟩
                simp only [← e18] at g1 g5
                first | omega | (rw [← e49] at g4; omega) | (rw [← e59] at g5; omega)
          · refine w_aload_n dX3_worthOf_53 rfl ?_
            refine v_getR (j := 146) dX3_worthOf_54 fX3_9 ⟨by decide, rfl⟩ rfl rfl ?_
            refine w_iload dX3_worthOf_57 rfl ?_
            refine v_iald dX3_worthOf_59 ⟨by decide, rfl⟩ (by omega) (by omega) (by decide) (fun z59 e59 b59 => ?_)
            refine w_iload dX3_worthOf_60 rfl ?_
            refine v_icmp_eq 67 dX3_worthOf_62 (by decide) (by omega) (by omega) (fun c62 => ?_) (fun c62 => ?_)
            · refine w_iload_n dX3_worthOf_67 rfl ?_
              refine w_iconst (v := iI 2) dX3_worthOf_68 rfl ?_
              refine w_aload_n dX3_worthOf_69 rfl ?_
              refine v_getR (j := 147) dX3_worthOf_70 fX3_15 ⟨by decide, rfl⟩ rfl rfl ?_
              refine w_iload dX3_worthOf_73 rfl ?_
              refine v_iald dX3_worthOf_75 ⟨by decide, rfl⟩ (by omega) (by omega) (by decide) (fun z75 e75 b75 => ?_)
              refine v_imul dX3_worthOf_76 ?_
              refine v_iadd dX3_worthOf_77 ?_
              refine w_istore_n dX3_worthOf_78 rfl rfl ?_
              refine v_iinc dX3_worthOf_79 rfl rfl rfl ?_
              refine w_goto 5 dX3_worthOf_82 (by decide) ?_
              refine w_keep 5 ?_
              refine ih (k + 1) _ (by omega) (by omega) ?_ ?_
              · rw [wLs, ← ha]
                simp only [wLc, ← e18]
                first
                  | (rw [if_pos (by first | omega | exact ⟨by omega, by omega, by omega, by rw [← e49]; omega⟩), e75]; done)
                  | (rw [if_neg (by first | omega | (rintro ⟨g1, g2, g3, g4⟩; first | omega | (rw [← e49] at g4; omega)))]; omega)
              · intro j hj
                rcases Nat.lt_succ_iff_lt_or_eq.mp hj with g | g
                · exact hno j g
                · subst g
                  rintro ⟨⟨g1, g2, g3, g4⟩, g5⟩
                  simp only [← e18] at g1 g5
                  first | omega | (rw [← e49] at g4; omega) | (rw [← e59] at g5; omega)
            · refine w_iconst (v := iI (-1)) dX3_worthOf_65 rfl ?_
              refine v_iret dX3_worthOf_66 rfl ⟨rfl, rfl⟩ ?_
              exact hq ⟨k, by omega, ⟨by simp only [← e18]; omega, by omega, by omega, by rw [← e49]; omega⟩, by simp only [← e18]; rw [← e59]; omega⟩
        · refine v_if_eq 79 dX3_worthOf_40 (by decide) (by decide) (fun _ => ?_) (fun q => absurd q (by decide))
          refine v_iinc dX3_worthOf_79 rfl rfl rfl ?_
          refine w_goto 5 dX3_worthOf_82 (by decide) ?_
          refine w_keep 5 ?_
          refine ih (k + 1) _ (by omega) (by omega) ?_ ?_
          · rw [wLs, ← ha]
            simp only [wLc, ← e18]
            first
              | (rw [if_pos (by first | omega | exact ⟨by omega, by omega, by omega, by rw [← e49]; omega⟩), e75]; done)
              | (rw [if_neg (by first | omega | (rintro ⟨g1, g2, g3, g4⟩; first | omega | (rw [← e49] at g4; omega)))]; omega)
          · intro j hj
            rcases Nat.lt_succ_iff_lt_or_eq.mp hj with g | g
            · exact hno j g
            · subst g
              rintro ⟨⟨g1, g2, g3, g4⟩, g5⟩
              simp only [← e18] at g1 g5
              first | omega | (rw [← e49] at g4; omega) | (rw [← e59] at g5; omega)
theorem x3_worthOf_a {I : Nat → Nat → Int32} {J : Nat → Nat → Int64} {F : Option Value → zM → Prop} {b : Nat} (hb : b < 10) {fm : Int} (hfm : -1000 ≤ fm ∧ fm ≤ 1000) (hq : (∃ j : Nat, j < 5 ∧ (wLc I 147 16 (fun i : Int => tF I (bI b 7) (bI b 8) 5 i) fm j ∧ rd I 146 (fm + j).toNat ≠ tF I (bI b 7) (bI b 8) 5 (j : Int))) → F (some (.int (iI (-1)))) (gM I J)) (hs : (∀ j : Nat, j < 5 → ¬ (wLc I 147 16 (fun i : Int => tF I (bI b 7) (bI b 8) 5 i) fm j ∧ rd I 146 (fm + j).toNat ≠ tF I (bI b 7) (bI b 8) 5 (j : Int))) → F (some (.int (iI (wLs I 147 16 (fun i : Int => tF I (bI b 7) (bI b 8) 5 i) fm 5)))) (gM I J)) : Cl yX3_worthOf kX3_worthOf [.ref 145, .ref (bI b 6), .int (iI fm)] (gM I J) F := by
  refine cl_s (by decide) (by decide) (Nat.le_of_ble_eq_true rfl) rt_i ?_
  show Wp _ F 0 [(0, .ref 145), (1, .ref (bI b 6)), (2, .int (iI fm))] [] _
  refine w_iconst (v := iI 0) dX3_worthOf_0 rfl ?_
  refine w_istore_n dX3_worthOf_1 rfl rfl ?_
  refine w_iconst (v := iI 0) dX3_worthOf_2 rfl ?_
  refine w_istore dX3_worthOf_3 rfl rfl ?_
  exact x3_worthOf_a_l hb hfm hq hs 6 0 0 (by omega) (by omega) rfl (fun j hj => by omega)
theorem x3_change_a_l {I : Nat → Nat → Int32} {J : Nat → Nat → Int64} {F : Option Value → zM → Prop} {b : Nat} (hb : b < 10) {fm ch : Int} (hfm : -1000 ≤ fm ∧ fm ≤ 1000) (hch : -1 ≤ ch ∧ ch ≤ 1) (htl : ∀ l : Nat, l < 16 → 0 ≤ rd I 147 l ∧ rd I 147 l ≤ 1000) (h : ∀ I', (∀ id l, rd I' id l = if id = 146 ∧ (0 ≤ (l : Int) - fm ∧ (l : Int) - fm < 5 ∧ l < 16 ∧ tF I (bI b 7) (bI b 8) 5 ((l : Int) - fm) ≠ 0) then tF I (bI b 7) (bI b 8) 5 ((l : Int) - fm) else if id = 147 ∧ (0 ≤ (l : Int) - fm ∧ (l : Int) - fm < 5 ∧ l < 16 ∧ tF I (bI b 7) (bI b 8) 5 ((l : Int) - fm) ≠ 0) then rd I 147 l + ch else rd I id l) → F none (gM I' J)) : ∀ (n : Nat) (k : Nat) (I' : Nat → Nat → Int32), 5 - k < n → k ≤ 5 → (∀ id l, rd I' id l = if id = 146 ∧ (0 ≤ (l : Int) - fm ∧ (l : Int) - fm < k ∧ l < 16 ∧ tF I (bI b 7) (bI b 8) 5 ((l : Int) - fm) ≠ 0) then tF I (bI b 7) (bI b 8) 5 ((l : Int) - fm) else if id = 147 ∧ (0 ≤ (l : Int) - fm ∧ (l : Int) - fm < k ∧ l < 16 ∧ tF I (bI b 7) (bI b 8) 5 ((l : Int) - fm) ≠ 0) then rd I 147 l + ch else rd I id l) → Wp (sE kX3_change RX3) F 3 [(0, .ref 145), (1, .ref (bI b 6)), (2, .int (iI fm)), (3, .int (iI ch)), (4, .int (iI (k : Int)))] [] (gM I' J) := by
  intro n
  induction n with
  | zero =>
    intro k I' hn hk hI
    exact absurd hn (Nat.not_lt_zero _)
  | succ n ih =>
    intro k I' hn hk hI
    have hfr : ∀ id l, id ≠ 146 → id ≠ 147 → rd I' id l = rd I id l := fun id l g1 g2 => by rw [hI id l, if_neg (fun g => g1 g.1), if_neg (fun g => g2 g.1)]
    have htF : ∀ j : Nat, tF I' (bI b 7) (bI b 8) 5 (j : Int) = tF I (bI b 7) (bI b 8) 5 (j : Int) := fun j => by
      unfold tF
      rw [hfr _ _ (by unfold bI; omega) (by unfold bI; omega), hfr _ _ (by unfold bI; omega) (by unfold bI; omega)]
    refine w_iload dX3_change_3 rfl ?_
    refine w_aload_n dX3_change_5 rfl ?_
    refine v_getR (j := bI b 7) dX3_change_6 fX3_18 (sO_b hb (by decide) rfl) rfl (r0_b hb (by decide)) ?_
    refine v_alen0 dX3_change_9 (sA_b hb (by decide) rfl) ?_
    refine v_icmp_ge 67 dX3_change_10 (by decide) (by omega) (by omega) (fun c10 => ?_) (fun c10 => ?_)
    · refine v_vret dX3_change_67 rfl ⟨rfl, rfl⟩ ?_
      exact h I' (by have hk2 : k = 5 := (by omega); subst hk2; exact hI)
    · refine w_aload_n dX3_change_13 rfl ?_
      refine w_iload dX3_change_14 rfl ?_
      refine v_callV1 dX3_change_16 lX3_21 vX1_told (by decide) rfl rfl (sO_b hb (by decide) rfl) (by decide) rfl (by decide) ?_
      refine x1_told_a hb (by omega) (fun z16 e16 b16 => ?_)
      have f16 := e16.trans (htF k)
      refine w_istore dX3_change_19 rfl rfl ?_
      refine w_iload_n dX3_change_21 rfl ?_
      refine w_iload dX3_change_22 rfl ?_
      refine v_iadd dX3_change_24 ?_
      refine w_istore dX3_change_25 rfl rfl ?_
      refine w_iload dX3_change_27 rfl ?_
      refine v_if_eq 61 dX3_change_29 (by decide) (by omega) (fun c29 => ?_) (fun c29 => ?_)
      · refine v_iinc dX3_change_61 rfl rfl rfl ?_
        refine w_goto 3 dX3_change_64 (by decide) ?_
        refine w_keep 5 ?_
        refine ih (k + 1) _ (by omega) (by omega) ?_
        intro id l
        first
          | (have e0 : z57 = rd I 147 (fm + k).toNat := by
               rw [e57, rd_wr_row (by decide), hI 147 (fm + k).toNat, if_neg (by omega), if_neg (by omega)]
             have e00 := htl (fm + k).toNat (by omega)
             rw [rd_wr (by omega) (by omega), rd_wr (by omega) (by omega)]
             by_cases g : l = (fm + k).toNat
             · have g2 : (l : Int) - fm = k := by omega
               have e1 : z57 = rd I 147 l := by rw [g]; exact e0
               by_cases g5 : id = 146
               · subst g5
                 rw [if_neg (by omega), if_pos ⟨rfl, g⟩, if_pos ⟨rfl, by rw [g2, ← f16]; omega⟩, g2]
                 exact f16
               · by_cases g6 : id = 147
                 · subst g6
                   rw [if_pos ⟨rfl, g⟩, if_neg (by omega), if_pos ⟨rfl, by rw [g2, ← f16]; omega⟩, e1]
                 · rw [if_neg (by omega), if_neg (by omega), hI id l, if_neg (by omega), if_neg (by omega), if_neg (by omega), if_neg (by omega)]
             · rw [if_neg (by omega), if_neg (by omega), hI id l]
               have e2 : (0 ≤ (l : Int) - fm ∧ (l : Int) - fm < (k : Int)) ↔ (0 ≤ (l : Int) - fm ∧ (l : Int) - fm < ((k + 1 : Nat) : Int)) := by omega
               simp only [← and_assoc, e2])
          | (rw [hI id l]
             by_cases g : (l : Int) - fm = k
             · have e3 : ¬ (l < 16 ∧ tF I (bI b 7) (bI b 8) 5 ((l : Int) - fm) ≠ 0) := by
                 rw [g, ← f16]; omega
               rw [if_neg (by omega), if_neg (by omega), if_neg (by omega), if_neg (by omega)]
             · have e2 : (0 ≤ (l : Int) - fm ∧ (l : Int) - fm < (k : Int)) ↔ (0 ≤ (l : Int) - fm ∧ (l : Int) - fm < ((k + 1 : Nat) : Int)) := by omega
               simp only [← and_assoc, e2])
      · refine w_aload_n dX3_change_32 rfl ?_
        refine w_iload dX3_change_33 rfl ?_
        refine v_callV1 dX3_change_35 lX3_25 vX3_has (by decide) rfl rfl ⟨by decide, rfl⟩ (by decide) rfl (by decide) ?_
        refine x3_has_a (by omega) (fun q35 => ?_) (fun q35 => ?_)
        · refine v_if_eq 61 dX3_change_38 (by decide) (by decide) (fun q => absurd q (by decide)) (fun _ => ?_)
          refine w_aload_n dX3_change_41 rfl ?_
          refine v_getR (j := 146) dX3_change_42 fX3_9 ⟨by decide, rfl⟩ rfl rfl ?_
          refine w_iload dX3_change_45 rfl ?_
          refine w_iload dX3_change_47 rfl ?_
          refine v_iast dX3_change_49 ⟨by decide, rfl⟩ (by omega) (by omega) (by decide) ?_
          refine w_aload_n dX3_change_50 rfl ?_
          refine v_getR (j := 147) dX3_change_51 fX3_15 ⟨by decide, rfl⟩ rfl rfl ?_
          refine w_iload dX3_change_54 rfl ?_
          refine w_dup2 dX3_change_56 rfl rfl ?_
          refine v_iald dX3_change_57 ⟨by decide, rfl⟩ (by omega) (by omega) (by decide) (fun z57 e57 b57 => ?_)
          refine w_iload_n dX3_change_58 rfl ?_
          refine v_iadd dX3_change_59 ?_
          refine v_iast dX3_change_60 ⟨by decide, rfl⟩ (by omega) (by omega) (by decide) ?_
          refine v_iinc dX3_change_61 rfl rfl rfl ?_
          refine w_goto 3 dX3_change_64 (by decide) ?_
          refine w_keep 5 ?_
          refine ih (k + 1) _ (by omega) (by omega) ?_
          intro id l
          first
            | (have e0 : z57 = rd I 147 (fm + k).toNat := by
                 rw [e57, rd_wr_row (by decide), hI 147 (fm + k).toNat, if_neg (by omega), if_neg (by omega)]
               have e00 := htl (fm + k).toNat (by omega)
               rw [rd_wr (by omega) (by omega), rd_wr (by omega) (by omega)]
               by_cases g : l = (fm + k).toNat
               · have g2 : (l : Int) - fm = k := by omega
                 have e1 : z57 = rd I 147 l := by rw [g]; exact e0
                 by_cases g5 : id = 146
                 · subst g5
                   rw [if_neg (by omega), if_pos ⟨rfl, g⟩, if_pos ⟨rfl, by rw [g2, ← f16]; omega⟩, g2]
                   exact f16
                 · by_cases g6 : id = 147
                   · subst g6
                     rw [if_pos ⟨rfl, g⟩, if_neg (by omega), if_pos ⟨rfl, by rw [g2, ← f16]; omega⟩, e1]
                   · rw [if_neg (by omega), if_neg (by omega), hI id l, if_neg (by omega), if_neg (by omega), if_neg (by omega), if_neg (by omega)]
               · rw [if_neg (by omega), if_neg (by omega), hI id l]
                 have e2 : (0 ≤ (l : Int) - fm ∧ (l : Int) - fm < (k : Int)) ↔ (0 ≤ (l : Int) - fm ∧ (l : Int) - fm < ((k + 1 : Nat) : Int)) := by omega
                 simp only [← and_assoc, e2])
            | (rw [hI id l]
               by_cases g : (l : Int) - fm = k
               · have e3 : ¬ (l < 16 ∧ tF I (bI b 7) (bI b 8) 5 ((l : Int) - fm) ≠ 0) := by
                   rw [g, ← f16]; omega
                 rw [if_neg (by omega), if_neg (by omega), if_neg (by omega), if_neg (by omega)]
               · have e2 : (0 ≤ (l : Int) - fm ∧ (l : Int) - fm < (k : Int)) ↔ (0 ≤ (l : Int) - fm ∧ (l : Int) - fm < ((k + 1 : Nat) : Int)) := by omega
                 simp only [← and_assoc, e2])
        · refine v_if_eq 61 dX3_change_38 (by decide) (by decide) (fun _ => ?_) (fun q => absurd q (by decide))
          refine v_iinc dX3_change_61 rfl rfl rfl ?_
          refine w_goto 3 dX3_change_64 (by decide) ?_
          refine w_keep 5 ?_
          refine ih (k + 1) _ (by omega) (by omega) ?_
          intro id l
          first
            | (have e0 : z57 = rd I 147 (fm + k).toNat := by
                 rw [e57, rd_wr_row (by decide), hI 147 (fm + k).toNat, if_neg (by omega), if_neg (by omega)]
               have e00 := htl (fm + k).toNat (by omega)
               rw [rd_wr (by omega) (by omega), rd_wr (by omega) (by omega)]
               by_cases g : l = (fm + k).toNat
               · have g2 : (l : Int) - fm = k := by omega
                 have e1 : z57 = rd I 147 l := by rw [g]; exact e0
                 by_cases g5 : id = 146
                 · subst g5
                   rw [if_neg (by omega), if_pos ⟨rfl, g⟩, if_pos ⟨rfl, by rw [g2, ← f16]; omega⟩, g2]
                   exact f16
                 · by_cases g6 : id = 147
                   · subst g6
                     rw [if_pos ⟨rfl, g⟩, if_neg (by omega), if_pos ⟨rfl, by rw [g2, ← f16]; omega⟩, e1]
                   · rw [if_neg (by omega), if_neg (by omega), hI id l, if_neg (by omega), if_neg (by omega), if_neg (by omega), if_neg (by omega)]
               · rw [if_neg (by omega), if_neg (by omega), hI id l]
                 have e2 : (0 ≤ (l : Int) - fm ∧ (l : Int) - fm < (k : Int)) ↔ (0 ≤ (l : Int) - fm ∧ (l : Int) - fm < ((k + 1 : Nat) : Int)) := by omega
                 simp only [← and_assoc, e2])
            | (rw [hI id l]
               by_cases g : (l : Int) - fm = k
               · have e3 : ¬ (l < 16 ∧ tF I (bI b 7) (bI b 8) 5 ((l : Int) - fm) ≠ 0) := by
                   rw [g, ← f16]; omega
                 rw [if_neg (by omega), if_neg (by omega), if_neg (by omega), if_neg (by omega)]
               · have e2 : (0 ≤ (l : Int) - fm ∧ (l : Int) - fm < (k : Int)) ↔ (0 ≤ (l : Int) - fm ∧ (l : Int) - fm < ((k + 1 : Nat) : Int)) := by omega
                 simp only [← and_assoc, e2])
theorem x3_change_a {I : Nat → Nat → Int32} {J : Nat → Nat → Int64} {F : Option Value → zM → Prop} {b : Nat} (hb : b < 10) {fm ch : Int} (hfm : -1000 ≤ fm ∧ fm ≤ 1000) (hch : -1 ≤ ch ∧ ch ≤ 1) (htl : ∀ l : Nat, l < 16 → 0 ≤ rd I 147 l ∧ rd I 147 l ≤ 1000) (h : ∀ I', (∀ id l, rd I' id l = if id = 146 ∧ (0 ≤ (l : Int) - fm ∧ (l : Int) - fm < 5 ∧ l < 16 ∧ tF I (bI b 7) (bI b 8) 5 ((l : Int) - fm) ≠ 0) then tF I (bI b 7) (bI b 8) 5 ((l : Int) - fm) else if id = 147 ∧ (0 ≤ (l : Int) - fm ∧ (l : Int) - fm < 5 ∧ l < 16 ∧ tF I (bI b 7) (bI b 8) 5 ((l : Int) - fm) ≠ 0) then rd I 147 l + ch else rd I id l) → F none (gM I' J)) : Cl yX3_change kX3_change [.ref 145, .ref (bI b 6), .int (iI fm), .int (iI ch)] (gM I J) F := by
  refine cl_s (by decide) (by decide) (Nat.le_of_ble_eq_true rfl) rt_v ?_
  show Wp _ F 0 [(0, .ref 145), (1, .ref (bI b 6)), (2, .int (iI fm)), (3, .int (iI ch))] [] _
  refine w_iconst (v := iI 0) dX3_change_0 rfl ?_
  refine w_istore dX3_change_1 rfl rfl ?_
  exact x3_change_a_l hb hfm hch htl h 6 0 I (by omega) (by omega) (fun id l => by rw [if_neg (by omega), if_neg (by omega)])
theorem x3_pairsWorth_a_l {I : Nat → Nat → Int32} {J : Nat → Nat → Int64} {F : Option Value → zM → Prop} (h : F (some (.int (iI (smN (fun l => rd I 147 l * (rd I 147 l - 1)) 16)))) (gM I J)) : ∀ (n : Nat) (k : Nat) (acc : Int), 16 - k < n → k ≤ 16 → acc = smN (fun l => rd I 147 l * (rd I 147 l - 1)) k → Wp (sE kX3_pairsWorth RX3) F 4 [(0, .ref 145), (1, .int (iI acc)), (2, .int (iI (k : Int)))] [] (gM I J) := by
  intro n
  induction n with
  | zero =>
    intro k acc hn hk ha
    exact absurd hn (Nat.not_lt_zero _)
  | succ n ih =>
    intro k acc hn hk ha
    refine w_iload_n dX3_pairsWorth_4 rfl ?_
    refine w_aload_n dX3_pairsWorth_5 rfl ?_
    refine v_getR (j := 147) dX3_pairsWorth_6 fX3_15 ⟨by decide, rfl⟩ rfl rfl ?_
    refine v_alen0 dX3_pairsWorth_9 ⟨by decide, rfl⟩ ?_
    refine v_icmp_ge 37 dX3_pairsWorth_10 (by decide) (by omega) (by omega) (fun c10 => ?_) (fun c10 => ?_)
    · refine w_iload_n dX3_pairsWorth_37 rfl ?_
      refine v_iret dX3_pairsWorth_38 rfl ⟨rfl, rfl⟩ ?_
      have hk2 : k = 16 := by omega
      subst hk2
      rw [ha]
      exact h
    · refine w_iload_n dX3_pairsWorth_13 rfl ?_
      refine w_aload_n dX3_pairsWorth_14 rfl ?_
      refine v_getR (j := 147) dX3_pairsWorth_15 fX3_15 ⟨by decide, rfl⟩ rfl rfl ?_
      refine w_iload_n dX3_pairsWorth_18 rfl ?_
      refine v_iald dX3_pairsWorth_19 ⟨by decide, rfl⟩ (by omega) (by omega) (by decide) (fun z19 e19 b19 => ?_)
      refine w_aload_n dX3_pairsWorth_20 rfl ?_
      refine v_getR (j := 147) dX3_pairsWorth_21 fX3_15 ⟨by decide, rfl⟩ rfl rfl ?_
      refine w_iload_n dX3_pairsWorth_24 rfl ?_
      refine v_iald dX3_pairsWorth_25 ⟨by decide, rfl⟩ (by omega) (by omega) (by decide) (fun z25 e25 b25 => ?_)
      refine w_iconst (v := iI 1) dX3_pairsWorth_26 rfl ?_
      refine v_isub dX3_pairsWorth_27 ?_
      refine v_imul dX3_pairsWorth_28 ?_
      refine v_iadd dX3_pairsWorth_29 ?_
      refine w_istore_n dX3_pairsWorth_30 rfl rfl ?_
      refine v_iinc dX3_pairsWorth_31 rfl rfl rfl ?_
      refine w_goto 4 dX3_pairsWorth_34 (by decide) ?_
      refine ih (k + 1) _ (by omega) (by omega) ?_
      rw [smN, ← ha, e19, e25]
      simp only [Int.toNat_natCast]
theorem x3_pairsWorth_a {I : Nat → Nat → Int32} {J : Nat → Nat → Int64} {F : Option Value → zM → Prop} (h : F (some (.int (iI (smN (fun l => rd I 147 l * (rd I 147 l - 1)) 16)))) (gM I J)) : Cl yX3_pairsWorth kX3_pairsWorth [.ref 145] (gM I J) F := by
  refine cl_s (by decide) (by decide) (Nat.le_of_ble_eq_true rfl) rt_i ?_
  show Wp _ F 0 [(0, .ref 145)] [] _
  refine w_iconst (v := iI 0) dX3_pairsWorth_0 rfl ?_
  refine w_istore_n dX3_pairsWorth_1 rfl rfl ?_
  refine w_iconst (v := iI 0) dX3_pairsWorth_2 rfl ?_
  refine w_istore_n dX3_pairsWorth_3 rfl rfl ?_
  exact x3_pairsWorth_a_l h 17 0 0 (by omega) (by omega) rfl
theorem x3_has_d {I : Nat → Nat → Int32} {J : Nat → Nat → Int64} {F : Option Value → zM → Prop} {l : Int} (bl : -2147483648 ≤ l ∧ l < 2147483648) (ht : 0 ≤ l ∧ l < 32 → F (some (.int (iI 1))) (gM I J)) (hf : ¬ (0 ≤ l ∧ l < 32) → F (some (.int (iI 0))) (gM I J)) : Cl yX3_has kX3_has [.ref 148, .int (iI l)] (gM I J) F := by
  refine cl_s (by decide) (by decide) (Nat.le_of_ble_eq_true rfl) rt_z ?_
  show Wp _ F 0 [(0, .ref 148), (1, .int (iI l))] [] _
  refine w_iload_n dX3_has_0 rfl ?_
  refine v_if_lt 17 dX3_has_1 (by decide) (by omega) (fun c1 => ?_) (fun c1 => ?_)
  · refine w_iconst (v := iI 0) dX3_has_17 rfl ?_
    refine v_zret dX3_has_18 rfl ⟨rfl, rfl⟩ (by decide) ?_
    first | exact ht (by omega) | exact hf (by omega)
  · refine w_iload_n dX3_has_4 rfl ?_
    refine w_aload_n dX3_has_5 rfl ?_
    refine v_getR (j := 149) dX3_has_6 fX3_9 ⟨by decide, rfl⟩ rfl rfl ?_
    refine v_alen0 dX3_has_9 ⟨by decide, rfl⟩ ?_
    refine v_icmp_ge 17 dX3_has_10 (by decide) (by omega) (by omega) (fun c10 => ?_) (fun c10 => ?_)
    · refine w_iconst (v := iI 0) dX3_has_17 rfl ?_
      refine v_zret dX3_has_18 rfl ⟨rfl, rfl⟩ (by decide) ?_
      first | exact ht (by omega) | exact hf (by omega)
    · refine w_iconst (v := iI 1) dX3_has_13 rfl ?_
      refine w_goto 18 dX3_has_14 (by decide) ?_
      refine v_zret dX3_has_18 rfl ⟨rfl, rfl⟩ (by decide) ?_
      first | exact ht (by omega) | exact hf (by omega)
theorem x3_worthOf_d_l {I : Nat → Nat → Int32} {J : Nat → Nat → Int64} {F : Option Value → zM → Prop} {b : Nat} (hb : b < 10) {fm : Int} (hfm : -1000 ≤ fm ∧ fm ≤ 1000) (hq : (∃ j : Nat, j < 10 ∧ (wLc I 150 32 (fun i : Int => tF I (bI b 10) (bI b 11) 10 i) fm j ∧ rd I 149 (fm + j).toNat ≠ tF I (bI b 10) (bI b 11) 10 (j : Int))) → F (some (.int (iI (-1)))) (gM I J)) (hs : (∀ j : Nat, j < 10 → ¬ (wLc I 150 32 (fun i : Int => tF I (bI b 10) (bI b 11) 10 i) fm j ∧ rd I 149 (fm + j).toNat ≠ tF I (bI b 10) (bI b 11) 10 (j : Int))) → F (some (.int (iI (wLs I 150 32 (fun i : Int => tF I (bI b 10) (bI b 11) 10 i) fm 10)))) (gM I J)) : ∀ (n : Nat) (k : Nat) (acc : Int), 10 - k < n → k ≤ 10 → acc = wLs I 150 32 (fun i : Int => tF I (bI b 10) (bI b 11) 10 i) fm k → (∀ j : Nat, j < k → ¬ (wLc I 150 32 (fun i : Int => tF I (bI b 10) (bI b 11) 10 i) fm j ∧ rd I 149 (fm + j).toNat ≠ tF I (bI b 10) (bI b 11) 10 (j : Int))) → Wp (sE kX3_worthOf RX3) F 5 [(0, .ref 148), (1, .ref (bI b 9)), (2, .int (iI fm)), (3, .int (iI acc)), (4, .int (iI (k : Int)))] [] (gM I J) := by
  intro n
  induction n with
  | zero =>
    intro k acc hn hk ha hno
    exact absurd hn (Nat.not_lt_zero _)
  | succ n ih =>
    intro k acc hn hk ha hno
    refine w_iload dX3_worthOf_5 rfl ?_
    refine w_aload_n dX3_worthOf_7 rfl ?_
    refine v_getR (j := bI b 10) dX3_worthOf_8 fX3_18 (sO_b hb (by decide) rfl) rfl (r0_b hb (by decide)) ?_
    refine v_alen0 dX3_worthOf_11 (sA_b hb (by decide) rfl) ?_
    refine v_icmp_ge 85 dX3_worthOf_12 (by decide) (by omega) (by omega) (fun c12 => ?_) (fun c12 => ?_)
    · refine w_iload_n dX3_worthOf_85 rfl ?_
      refine v_iret dX3_worthOf_86 rfl ⟨rfl, rfl⟩ ?_
      have hk2 : k = 10 := by omega
      subst hk2
      rw [ha]
      exact hs hno
    · refine w_aload_n dX3_worthOf_15 rfl ?_
      refine w_iload dX3_worthOf_16 rfl ?_
      refine v_callV1 dX3_worthOf_18 lX3_21 vX1_told (by decide) rfl rfl (sO_b hb (by decide) rfl) (by decide) rfl (by decide) ?_
      refine x1_told_d hb (by omega) (fun z18 e18 b18 => ?_)
      refine w_istore dX3_worthOf_21 rfl rfl ?_
      refine w_iload_n dX3_worthOf_23 rfl ?_
      refine w_iload dX3_worthOf_24 rfl ?_
      refine v_iadd dX3_worthOf_26 ?_
      refine w_istore dX3_worthOf_27 rfl rfl ?_
      refine w_iload dX3_worthOf_29 rfl ?_
      refine v_if_eq 79 dX3_worthOf_31 (by decide) (by omega) (fun c31 => ?_) (fun c31 => ?_)
      · refine v_iinc dX3_worthOf_79 rfl rfl rfl ?_
        refine w_goto 5 dX3_worthOf_82 (by decide) ?_
        refine w_keep 5 ?_
        refine ih (k + 1) _ (by omega) (by omega) ?_ ?_
        · rw [wLs, ← ha]
          simp only [wLc, ← e18]
          first
            | (rw [if_pos (by first | omega | exact ⟨by omega, by omega, by omega, by rw [← e49]; omega⟩), e75]; done)
            | (rw [if_neg (by first | omega | (rintro ⟨g1, g2, g3, g4⟩; first | omega | (rw [← e49] at g4; omega)))]; omega)
        · intro j hj
          rcases Nat.lt_succ_iff_lt_or_eq.mp hj with g | g
          · exact hno j g
          · subst g
            rintro ⟨⟨g1, g2, g3, g4⟩, g5⟩
            simp only [← e18] at g1 g5
            first | omega | (rw [← e49] at g4; omega) | (rw [← e59] at g5; omega)
      · refine w_aload_n dX3_worthOf_34 rfl ?_
        refine w_iload dX3_worthOf_35 rfl ?_
        refine v_callV1 dX3_worthOf_37 lX3_25 vX3_has (by decide) rfl rfl ⟨by decide, rfl⟩ (by decide) rfl (by decide) ?_
        refine x3_has_d (by omega) (fun q37 => ?_) (fun q37 => ?_)
        · refine v_if_eq 79 dX3_worthOf_40 (by decide) (by decide) (fun q => absurd q (by decide)) (fun _ => ?_)
          refine w_aload_n dX3_worthOf_43 rfl ?_
          refine v_getR (j := 150) dX3_worthOf_44 fX3_15 ⟨by decide, rfl⟩ rfl rfl ?_
          refine w_iload dX3_worthOf_47 rfl ?_
          refine v_iald dX3_worthOf_49 ⟨by decide, rfl⟩ (by omega) (by omega) (by decide) (fun z49 e49 b49 => ?_)
          refine v_if_le 79 dX3_worthOf_50 (by decide) (by omega) (fun c50 => ?_) (fun c50 => ?_)
          · refine v_iinc dX3_worthOf_79 rfl rfl rfl ?_
            refine w_goto 5 dX3_worthOf_82 (by decide) ?_
            refine w_keep 5 ?_
            refine ih (k + 1) _ (by omega) (by omega) ?_ ?_
            · rw [wLs, ← ha]
              simp only [wLc, ← e18]
              first
                | (rw [if_pos (by first | omega | exact ⟨by omega, by omega, by omega, by rw [← e49]; omega⟩), e75]; done)
                | (rw [if_neg (by first | omega | (rintro ⟨g1, g2, g3, g4⟩; first | omega | (rw [← e49] at g4; omega)))]; omega)
            · intro j hj
              rcases Nat.lt_succ_iff_lt_or_eq.mp hj with g | g
              · exact hno j g
              · subst g
                rintro ⟨⟨g1, g2, g3, g4⟩, g5⟩
                simp only [← e18] at g1 g5
                first | omega | (rw [← e49] at g4; omega) | (rw [← e59] at g5; omega)
          · refine w_aload_n dX3_worthOf_53 rfl ?_
            refine v_getR (j := 149) dX3_worthOf_54 fX3_9 ⟨by decide, rfl⟩ rfl rfl ?_
            refine w_iload dX3_worthOf_57 rfl ?_
            refine v_iald dX3_worthOf_59 ⟨by decide, rfl⟩ (by omega) (by omega) (by decide) (fun z59 e59 b59 => ?_)
            refine w_iload dX3_worthOf_60 rfl ?_
            refine v_icmp_eq 67 dX3_worthOf_62 (by decide) (by omega) (by omega) (fun c62 => ?_) (fun c62 => ?_)
            · refine w_iload_n dX3_worthOf_67 rfl ?_
              refine w_iconst (v := iI 2) dX3_worthOf_68 rfl ?_
              refine w_aload_n dX3_worthOf_69 rfl ?_
              refine v_getR (j := 150) dX3_worthOf_70 fX3_15 ⟨by decide, rfl⟩ rfl rfl ?_
              refine w_iload dX3_worthOf_73 rfl ?_
              refine v_iald dX3_worthOf_75 ⟨by decide, rfl⟩ (by omega) (by omega) (by decide) (fun z75 e75 b75 => ?_)
              refine v_imul dX3_worthOf_76 ?_
              refine v_iadd dX3_worthOf_77 ?_
              refine w_istore_n dX3_worthOf_78 rfl rfl ?_
              refine v_iinc dX3_worthOf_79 rfl rfl rfl ?_
              refine w_goto 5 dX3_worthOf_82 (by decide) ?_
              refine w_keep 5 ?_
              refine ih (k + 1) _ (by omega) (by omega) ?_ ?_
              · rw [wLs, ← ha]
                simp only [wLc, ← e18]
                first
                  | (rw [if_pos (by first | omega | exact ⟨by omega, by omega, by omega, by rw [← e49]; omega⟩), e75]; done)
                  | (rw [if_neg (by first | omega | (rintro ⟨g1, g2, g3, g4⟩; first | omega | (rw [← e49] at g4; omega)))]; omega)
              · intro j hj
                rcases Nat.lt_succ_iff_lt_or_eq.mp hj with g | g
                · exact hno j g
                · subst g
                  rintro ⟨⟨g1, g2, g3, g4⟩, g5⟩
                  simp only [← e18] at g1 g5
                  first | omega | (rw [← e49] at g4; omega) | (rw [← e59] at g5; omega)
            · refine w_iconst (v := iI (-1)) dX3_worthOf_65 rfl ?_
              refine v_iret dX3_worthOf_66 rfl ⟨rfl, rfl⟩ ?_
              exact hq ⟨k, by omega, ⟨by simp only [← e18]; omega, by omega, by omega, by rw [← e49]; omega⟩, by simp only [← e18]; rw [← e59]; omega⟩
        · refine v_if_eq 79 dX3_worthOf_40 (by decide) (by decide) (fun _ => ?_) (fun q => absurd q (by decide))
          refine v_iinc dX3_worthOf_79 rfl rfl rfl ?_
          refine w_goto 5 dX3_worthOf_82 (by decide) ?_
          refine w_keep 5 ?_
          refine ih (k + 1) _ (by omega) (by omega) ?_ ?_
          · rw [wLs, ← ha]
            simp only [wLc, ← e18]
            first
              | (rw [if_pos (by first | omega | exact ⟨by omega, by omega, by omega, by rw [← e49]; omega⟩), e75]; done)
              | (rw [if_neg (by first | omega | (rintro ⟨g1, g2, g3, g4⟩; first | omega | (rw [← e49] at g4; omega)))]; omega)
          · intro j hj
            rcases Nat.lt_succ_iff_lt_or_eq.mp hj with g | g
            · exact hno j g
            · subst g
              rintro ⟨⟨g1, g2, g3, g4⟩, g5⟩
              simp only [← e18] at g1 g5
              first | omega | (rw [← e49] at g4; omega) | (rw [← e59] at g5; omega)
theorem x3_worthOf_d {I : Nat → Nat → Int32} {J : Nat → Nat → Int64} {F : Option Value → zM → Prop} {b : Nat} (hb : b < 10) {fm : Int} (hfm : -1000 ≤ fm ∧ fm ≤ 1000) (hq : (∃ j : Nat, j < 10 ∧ (wLc I 150 32 (fun i : Int => tF I (bI b 10) (bI b 11) 10 i) fm j ∧ rd I 149 (fm + j).toNat ≠ tF I (bI b 10) (bI b 11) 10 (j : Int))) → F (some (.int (iI (-1)))) (gM I J)) (hs : (∀ j : Nat, j < 10 → ¬ (wLc I 150 32 (fun i : Int => tF I (bI b 10) (bI b 11) 10 i) fm j ∧ rd I 149 (fm + j).toNat ≠ tF I (bI b 10) (bI b 11) 10 (j : Int))) → F (some (.int (iI (wLs I 150 32 (fun i : Int => tF I (bI b 10) (bI b 11) 10 i) fm 10)))) (gM I J)) : Cl yX3_worthOf kX3_worthOf [.ref 148, .ref (bI b 9), .int (iI fm)] (gM I J) F := by
  refine cl_s (by decide) (by decide) (Nat.le_of_ble_eq_true rfl) rt_i ?_
  show Wp _ F 0 [(0, .ref 148), (1, .ref (bI b 9)), (2, .int (iI fm))] [] _
  refine w_iconst (v := iI 0) dX3_worthOf_0 rfl ?_
  refine w_istore_n dX3_worthOf_1 rfl rfl ?_
  refine w_iconst (v := iI 0) dX3_worthOf_2 rfl ?_
  refine w_istore dX3_worthOf_3 rfl rfl ?_
  exact x3_worthOf_d_l hb hfm hq hs 11 0 0 (by omega) (by omega) rfl (fun j hj => by omega)
theorem x3_change_d_l {I : Nat → Nat → Int32} {J : Nat → Nat → Int64} {F : Option Value → zM → Prop} {b : Nat} (hb : b < 10) {fm ch : Int} (hfm : -1000 ≤ fm ∧ fm ≤ 1000) (hch : -1 ≤ ch ∧ ch ≤ 1) (htl : ∀ l : Nat, l < 32 → 0 ≤ rd I 150 l ∧ rd I 150 l ≤ 1000) (h : ∀ I', (∀ id l, rd I' id l = if id = 149 ∧ (0 ≤ (l : Int) - fm ∧ (l : Int) - fm < 10 ∧ l < 32 ∧ tF I (bI b 10) (bI b 11) 10 ((l : Int) - fm) ≠ 0) then tF I (bI b 10) (bI b 11) 10 ((l : Int) - fm) else if id = 150 ∧ (0 ≤ (l : Int) - fm ∧ (l : Int) - fm < 10 ∧ l < 32 ∧ tF I (bI b 10) (bI b 11) 10 ((l : Int) - fm) ≠ 0) then rd I 150 l + ch else rd I id l) → F none (gM I' J)) : ∀ (n : Nat) (k : Nat) (I' : Nat → Nat → Int32), 10 - k < n → k ≤ 10 → (∀ id l, rd I' id l = if id = 149 ∧ (0 ≤ (l : Int) - fm ∧ (l : Int) - fm < k ∧ l < 32 ∧ tF I (bI b 10) (bI b 11) 10 ((l : Int) - fm) ≠ 0) then tF I (bI b 10) (bI b 11) 10 ((l : Int) - fm) else if id = 150 ∧ (0 ≤ (l : Int) - fm ∧ (l : Int) - fm < k ∧ l < 32 ∧ tF I (bI b 10) (bI b 11) 10 ((l : Int) - fm) ≠ 0) then rd I 150 l + ch else rd I id l) → Wp (sE kX3_change RX3) F 3 [(0, .ref 148), (1, .ref (bI b 9)), (2, .int (iI fm)), (3, .int (iI ch)), (4, .int (iI (k : Int)))] [] (gM I' J) := by
  intro n
  induction n with
  | zero =>
    intro k I' hn hk hI
    exact absurd hn (Nat.not_lt_zero _)
  | succ n ih =>
    intro k I' hn hk hI
    have hfr : ∀ id l, id ≠ 149 → id ≠ 150 → rd I' id l = rd I id l := fun id l g1 g2 => by rw [hI id l, if_neg (fun g => g1 g.1), if_neg (fun g => g2 g.1)]
    have htF : ∀ j : Nat, tF I' (bI b 10) (bI b 11) 10 (j : Int) = tF I (bI b 10) (bI b 11) 10 (j : Int) := fun j => by
      unfold tF
      rw [hfr _ _ (by unfold bI; omega) (by unfold bI; omega), hfr _ _ (by unfold bI; omega) (by unfold bI; omega)]
    refine w_iload dX3_change_3 rfl ?_
    refine w_aload_n dX3_change_5 rfl ?_
    refine v_getR (j := bI b 10) dX3_change_6 fX3_18 (sO_b hb (by decide) rfl) rfl (r0_b hb (by decide)) ?_
    refine v_alen0 dX3_change_9 (sA_b hb (by decide) rfl) ?_
    refine v_icmp_ge 67 dX3_change_10 (by decide) (by omega) (by omega) (fun c10 => ?_) (fun c10 => ?_)
    · refine v_vret dX3_change_67 rfl ⟨rfl, rfl⟩ ?_
      exact h I' (by have hk2 : k = 10 := (by omega); subst hk2; exact hI)
    · refine w_aload_n dX3_change_13 rfl ?_
      refine w_iload dX3_change_14 rfl ?_
      refine v_callV1 dX3_change_16 lX3_21 vX1_told (by decide) rfl rfl (sO_b hb (by decide) rfl) (by decide) rfl (by decide) ?_
      refine x1_told_d hb (by omega) (fun z16 e16 b16 => ?_)
      have f16 := e16.trans (htF k)
      refine w_istore dX3_change_19 rfl rfl ?_
      refine w_iload_n dX3_change_21 rfl ?_
      refine w_iload dX3_change_22 rfl ?_
      refine v_iadd dX3_change_24 ?_
      refine w_istore dX3_change_25 rfl rfl ?_
      refine w_iload dX3_change_27 rfl ?_
      refine v_if_eq 61 dX3_change_29 (by decide) (by omega) (fun c29 => ?_) (fun c29 => ?_)
      · refine v_iinc dX3_change_61 rfl rfl rfl ?_
        refine w_goto 3 dX3_change_64 (by decide) ?_
        refine w_keep 5 ?_
        refine ih (k + 1) _ (by omega) (by omega) ?_
        intro id l
        first
          | (have e0 : z57 = rd I 150 (fm + k).toNat := by
               rw [e57, rd_wr_row (by decide), hI 150 (fm + k).toNat, if_neg (by omega), if_neg (by omega)]
             have e00 := htl (fm + k).toNat (by omega)
             rw [rd_wr (by omega) (by omega), rd_wr (by omega) (by omega)]
             by_cases g : l = (fm + k).toNat
             · have g2 : (l : Int) - fm = k := by omega
               have e1 : z57 = rd I 150 l := by rw [g]; exact e0
               by_cases g5 : id = 149
               · subst g5
                 rw [if_neg (by omega), if_pos ⟨rfl, g⟩, if_pos ⟨rfl, by rw [g2, ← f16]; omega⟩, g2]
                 exact f16
               · by_cases g6 : id = 150
                 · subst g6
                   rw [if_pos ⟨rfl, g⟩, if_neg (by omega), if_pos ⟨rfl, by rw [g2, ← f16]; omega⟩, e1]
                 · rw [if_neg (by omega), if_neg (by omega), hI id l, if_neg (by omega), if_neg (by omega), if_neg (by omega), if_neg (by omega)]
             · rw [if_neg (by omega), if_neg (by omega), hI id l]
               have e2 : (0 ≤ (l : Int) - fm ∧ (l : Int) - fm < (k : Int)) ↔ (0 ≤ (l : Int) - fm ∧ (l : Int) - fm < ((k + 1 : Nat) : Int)) := by omega
               simp only [← and_assoc, e2])
          | (rw [hI id l]
             by_cases g : (l : Int) - fm = k
             · have e3 : ¬ (l < 32 ∧ tF I (bI b 10) (bI b 11) 10 ((l : Int) - fm) ≠ 0) := by
                 rw [g, ← f16]; omega
               rw [if_neg (by omega), if_neg (by omega), if_neg (by omega), if_neg (by omega)]
             · have e2 : (0 ≤ (l : Int) - fm ∧ (l : Int) - fm < (k : Int)) ↔ (0 ≤ (l : Int) - fm ∧ (l : Int) - fm < ((k + 1 : Nat) : Int)) := by omega
               simp only [← and_assoc, e2])
      · refine w_aload_n dX3_change_32 rfl ?_
        refine w_iload dX3_change_33 rfl ?_
        refine v_callV1 dX3_change_35 lX3_25 vX3_has (by decide) rfl rfl ⟨by decide, rfl⟩ (by decide) rfl (by decide) ?_
        refine x3_has_d (by omega) (fun q35 => ?_) (fun q35 => ?_)
        · refine v_if_eq 61 dX3_change_38 (by decide) (by decide) (fun q => absurd q (by decide)) (fun _ => ?_)
          refine w_aload_n dX3_change_41 rfl ?_
          refine v_getR (j := 149) dX3_change_42 fX3_9 ⟨by decide, rfl⟩ rfl rfl ?_
          refine w_iload dX3_change_45 rfl ?_
          refine w_iload dX3_change_47 rfl ?_
          refine v_iast dX3_change_49 ⟨by decide, rfl⟩ (by omega) (by omega) (by decide) ?_
          refine w_aload_n dX3_change_50 rfl ?_
          refine v_getR (j := 150) dX3_change_51 fX3_15 ⟨by decide, rfl⟩ rfl rfl ?_
          refine w_iload dX3_change_54 rfl ?_
          refine w_dup2 dX3_change_56 rfl rfl ?_
          refine v_iald dX3_change_57 ⟨by decide, rfl⟩ (by omega) (by omega) (by decide) (fun z57 e57 b57 => ?_)
          refine w_iload_n dX3_change_58 rfl ?_
          refine v_iadd dX3_change_59 ?_
          refine v_iast dX3_change_60 ⟨by decide, rfl⟩ (by omega) (by omega) (by decide) ?_
          refine v_iinc dX3_change_61 rfl rfl rfl ?_
          refine w_goto 3 dX3_change_64 (by decide) ?_
          refine w_keep 5 ?_
          refine ih (k + 1) _ (by omega) (by omega) ?_
          intro id l
          first
            | (have e0 : z57 = rd I 150 (fm + k).toNat := by
                 rw [e57, rd_wr_row (by decide), hI 150 (fm + k).toNat, if_neg (by omega), if_neg (by omega)]
               have e00 := htl (fm + k).toNat (by omega)
               rw [rd_wr (by omega) (by omega), rd_wr (by omega) (by omega)]
               by_cases g : l = (fm + k).toNat
               · have g2 : (l : Int) - fm = k := by omega
                 have e1 : z57 = rd I 150 l := by rw [g]; exact e0
                 by_cases g5 : id = 149
                 · subst g5
                   rw [if_neg (by omega), if_pos ⟨rfl, g⟩, if_pos ⟨rfl, by rw [g2, ← f16]; omega⟩, g2]
                   exact f16
                 · by_cases g6 : id = 150
                   · subst g6
                     rw [if_pos ⟨rfl, g⟩, if_neg (by omega), if_pos ⟨rfl, by rw [g2, ← f16]; omega⟩, e1]
                   · rw [if_neg (by omega), if_neg (by omega), hI id l, if_neg (by omega), if_neg (by omega), if_neg (by omega), if_neg (by omega)]
               · rw [if_neg (by omega), if_neg (by omega), hI id l]
                 have e2 : (0 ≤ (l : Int) - fm ∧ (l : Int) - fm < (k : Int)) ↔ (0 ≤ (l : Int) - fm ∧ (l : Int) - fm < ((k + 1 : Nat) : Int)) := by omega
                 simp only [← and_assoc, e2])
            | (rw [hI id l]
               by_cases g : (l : Int) - fm = k
               · have e3 : ¬ (l < 32 ∧ tF I (bI b 10) (bI b 11) 10 ((l : Int) - fm) ≠ 0) := by
                   rw [g, ← f16]; omega
                 rw [if_neg (by omega), if_neg (by omega), if_neg (by omega), if_neg (by omega)]
               · have e2 : (0 ≤ (l : Int) - fm ∧ (l : Int) - fm < (k : Int)) ↔ (0 ≤ (l : Int) - fm ∧ (l : Int) - fm < ((k + 1 : Nat) : Int)) := by omega
                 simp only [← and_assoc, e2])
        · refine v_if_eq 61 dX3_change_38 (by decide) (by decide) (fun _ => ?_) (fun q => absurd q (by decide))
          refine v_iinc dX3_change_61 rfl rfl rfl ?_
          refine w_goto 3 dX3_change_64 (by decide) ?_
          refine w_keep 5 ?_
          refine ih (k + 1) _ (by omega) (by omega) ?_
          intro id l
          first
            | (have e0 : z57 = rd I 150 (fm + k).toNat := by
                 rw [e57, rd_wr_row (by decide), hI 150 (fm + k).toNat, if_neg (by omega), if_neg (by omega)]
               have e00 := htl (fm + k).toNat (by omega)
               rw [rd_wr (by omega) (by omega), rd_wr (by omega) (by omega)]
               by_cases g : l = (fm + k).toNat
               · have g2 : (l : Int) - fm = k := by omega
                 have e1 : z57 = rd I 150 l := by rw [g]; exact e0
                 by_cases g5 : id = 149
                 · subst g5
                   rw [if_neg (by omega), if_pos ⟨rfl, g⟩, if_pos ⟨rfl, by rw [g2, ← f16]; omega⟩, g2]
                   exact f16
                 · by_cases g6 : id = 150
                   · subst g6
                     rw [if_pos ⟨rfl, g⟩, if_neg (by omega), if_pos ⟨rfl, by rw [g2, ← f16]; omega⟩, e1]
                   · rw [if_neg (by omega), if_neg (by omega), hI id l, if_neg (by omega), if_neg (by omega), if_neg (by omega), if_neg (by omega)]
               · rw [if_neg (by omega), if_neg (by omega), hI id l]
                 have e2 : (0 ≤ (l : Int) - fm ∧ (l : Int) - fm < (k : Int)) ↔ (0 ≤ (l : Int) - fm ∧ (l : Int) - fm < ((k + 1 : Nat) : Int)) := by omega
                 simp only [← and_assoc, e2])
            | (rw [hI id l]
               by_cases g : (l : Int) - fm = k
               · have e3 : ¬ (l < 32 ∧ tF I (bI b 10) (bI b 11) 10 ((l : Int) - fm) ≠ 0) := by
                   rw [g, ← f16]; omega
                 rw [if_neg (by omega), if_neg (by omega), if_neg (by omega), if_neg (by omega)]
               · have e2 : (0 ≤ (l : Int) - fm ∧ (l : Int) - fm < (k : Int)) ↔ (0 ≤ (l : Int) - fm ∧ (l : Int) - fm < ((k + 1 : Nat) : Int)) := by omega
                 simp only [← and_assoc, e2])
theorem x3_change_d {I : Nat → Nat → Int32} {J : Nat → Nat → Int64} {F : Option Value → zM → Prop} {b : Nat} (hb : b < 10) {fm ch : Int} (hfm : -1000 ≤ fm ∧ fm ≤ 1000) (hch : -1 ≤ ch ∧ ch ≤ 1) (htl : ∀ l : Nat, l < 32 → 0 ≤ rd I 150 l ∧ rd I 150 l ≤ 1000) (h : ∀ I', (∀ id l, rd I' id l = if id = 149 ∧ (0 ≤ (l : Int) - fm ∧ (l : Int) - fm < 10 ∧ l < 32 ∧ tF I (bI b 10) (bI b 11) 10 ((l : Int) - fm) ≠ 0) then tF I (bI b 10) (bI b 11) 10 ((l : Int) - fm) else if id = 150 ∧ (0 ≤ (l : Int) - fm ∧ (l : Int) - fm < 10 ∧ l < 32 ∧ tF I (bI b 10) (bI b 11) 10 ((l : Int) - fm) ≠ 0) then rd I 150 l + ch else rd I id l) → F none (gM I' J)) : Cl yX3_change kX3_change [.ref 148, .ref (bI b 9), .int (iI fm), .int (iI ch)] (gM I J) F := by
  refine cl_s (by decide) (by decide) (Nat.le_of_ble_eq_true rfl) rt_v ?_
  show Wp _ F 0 [(0, .ref 148), (1, .ref (bI b 9)), (2, .int (iI fm)), (3, .int (iI ch))] [] _
  refine w_iconst (v := iI 0) dX3_change_0 rfl ?_
  refine w_istore dX3_change_1 rfl rfl ?_
  exact x3_change_d_l hb hfm hch htl h 11 0 I (by omega) (by omega) (fun id l => by rw [if_neg (by omega), if_neg (by omega)])
theorem x3_pairsWorth_d_l {I : Nat → Nat → Int32} {J : Nat → Nat → Int64} {F : Option Value → zM → Prop} (h : F (some (.int (iI (smN (fun l => rd I 150 l * (rd I 150 l - 1)) 32)))) (gM I J)) : ∀ (n : Nat) (k : Nat) (acc : Int), 32 - k < n → k ≤ 32 → acc = smN (fun l => rd I 150 l * (rd I 150 l - 1)) k → Wp (sE kX3_pairsWorth RX3) F 4 [(0, .ref 148), (1, .int (iI acc)), (2, .int (iI (k : Int)))] [] (gM I J) := by
  intro n
  induction n with
  | zero =>
    intro k acc hn hk ha
    exact absurd hn (Nat.not_lt_zero _)
  | succ n ih =>
    intro k acc hn hk ha
    refine w_iload_n dX3_pairsWorth_4 rfl ?_
    refine w_aload_n dX3_pairsWorth_5 rfl ?_
    refine v_getR (j := 150) dX3_pairsWorth_6 fX3_15 ⟨by decide, rfl⟩ rfl rfl ?_
    refine v_alen0 dX3_pairsWorth_9 ⟨by decide, rfl⟩ ?_
    refine v_icmp_ge 37 dX3_pairsWorth_10 (by decide) (by omega) (by omega) (fun c10 => ?_) (fun c10 => ?_)
    · refine w_iload_n dX3_pairsWorth_37 rfl ?_
      refine v_iret dX3_pairsWorth_38 rfl ⟨rfl, rfl⟩ ?_
      have hk2 : k = 32 := by omega
      subst hk2
      rw [ha]
      exact h
    · refine w_iload_n dX3_pairsWorth_13 rfl ?_
      refine w_aload_n dX3_pairsWorth_14 rfl ?_
      refine v_getR (j := 150) dX3_pairsWorth_15 fX3_15 ⟨by decide, rfl⟩ rfl rfl ?_
      refine w_iload_n dX3_pairsWorth_18 rfl ?_
      refine v_iald dX3_pairsWorth_19 ⟨by decide, rfl⟩ (by omega) (by omega) (by decide) (fun z19 e19 b19 => ?_)
      refine w_aload_n dX3_pairsWorth_20 rfl ?_
      refine v_getR (j := 150) dX3_pairsWorth_21 fX3_15 ⟨by decide, rfl⟩ rfl rfl ?_
      refine w_iload_n dX3_pairsWorth_24 rfl ?_
      refine v_iald dX3_pairsWorth_25 ⟨by decide, rfl⟩ (by omega) (by omega) (by decide) (fun z25 e25 b25 => ?_)
      refine w_iconst (v := iI 1) dX3_pairsWorth_26 rfl ?_
      refine v_isub dX3_pairsWorth_27 ?_
      refine v_imul dX3_pairsWorth_28 ?_
      refine v_iadd dX3_pairsWorth_29 ?_
      refine w_istore_n dX3_pairsWorth_30 rfl rfl ?_
      refine v_iinc dX3_pairsWorth_31 rfl rfl rfl ?_
      refine w_goto 4 dX3_pairsWorth_34 (by decide) ?_
      refine ih (k + 1) _ (by omega) (by omega) ?_
      rw [smN, ← ha, e19, e25]
      simp only [Int.toNat_natCast]
theorem x3_pairsWorth_d {I : Nat → Nat → Int32} {J : Nat → Nat → Int64} {F : Option Value → zM → Prop} (h : F (some (.int (iI (smN (fun l => rd I 150 l * (rd I 150 l - 1)) 32)))) (gM I J)) : Cl yX3_pairsWorth kX3_pairsWorth [.ref 148] (gM I J) F := by
  refine cl_s (by decide) (by decide) (Nat.le_of_ble_eq_true rfl) rt_i ?_
  show Wp _ F 0 [(0, .ref 148)] [] _
  refine w_iconst (v := iI 0) dX3_pairsWorth_0 rfl ?_
  refine w_istore_n dX3_pairsWorth_1 rfl rfl ?_
  refine w_iconst (v := iI 0) dX3_pairsWorth_2 rfl ?_
  refine w_istore_n dX3_pairsWorth_3 rfl rfl ?_
  exact x3_pairsWorth_d_l h 33 0 0 (by omega) (by omega) rfl
