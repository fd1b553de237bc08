/-! known texts: what is asked, and the reference -/
abbrev SatC (ce tx : Nat → Int) (len : Nat) (w i : Int) (r c : Nat) : Prop := isTx (ce (10 * r + c)) → 0 ≤ i + r * w + c ∧ i + r * w + c < len ∧ (i + r * w + c) / w = i / w + r ∧ (ce (10 * r + c) = 46 ∨ ce (10 * r + c) = tx (i + r * w + c).toNat)
abbrev Sat (ce tx : Nat → Int) (len : Nat) (w i : Int) : Prop := ∀ r, r < 5 → ∀ c, c < 10 → SatC ce tx len w i r c
abbrev ink (ce : Nat → Int) : Prop := ∃ k, k < 50 ∧ isTx (ce k)
def stQ (ce tx : Nat → Int) (len : Nat) (w : Int) : Nat → Bool := fun j => decide (Sat ce tx len w ((j : Int) - 5 * w - 10))
def stM (len : Nat) (w : Int) : Nat := len + (5 * w + 10).toNat
theorem edv_bd {x w N : Int} (hw : 0 < w) (hN : 0 ≤ N) (h : -N ≤ x ∧ x ≤ N) : -N ≤ x / w ∧ x / w ≤ N := by
  have h1 := Int.mul_ediv_add_emod x w
  have h2 := Int.emod_nonneg x (show w ≠ 0 by omega)
  have h3 := Int.emod_lt_of_pos x hw
  constructor
  · rcases Int.lt_or_le (x / w) (-N) with q | q
    · exfalso
      have h4 := Int.mul_le_mul_of_nonpos_right (show (1 : Int) ≤ w by omega) (show x / w + 1 ≤ 0 by omega)
      rw [Int.mul_add] at h4
      omega
    · exact q
  · rcases Int.lt_or_le N (x / w) with q | q
    · exfalso
      have h4 := Int.mul_le_mul_of_nonneg_right (show (1 : Int) ≤ w by omega) (show 0 ≤ x / w by omega)
      omega
    · exact q
theorem rw_bd {r : Nat} {w : Int} (hr : r < 5) (hw : 2 ≤ w ∧ w ≤ 60) : 0 ≤ (r : Int) * w ∧ (r : Int) * w ≤ 240 := by
  constructor
  · exact Int.mul_nonneg (by omega) (by omega)
  · exact Int.le_trans (Int.mul_le_mul (show (r : Int) ≤ 4 by omega) hw.2 (by omega) (by omega)) (by decide)
theorem x12_hasInk_l {I : Nat → Nat → Int32} {J : Nat → Nat → Int64} {F : Option Value → zM → Prop} {b : Nat} (hb : b < 10) (hy : ink (fun k => rd I 174 (50 * b + k)) → F (some (.int (iI 1))) (gM I J)) (hn : ¬ ink (fun k => rd I 174 (50 * b + k)) → F (some (.int (iI 0))) (gM I J)) : ∀ (n : Nat) (k : Nat), 50 - k < n → k ≤ 50 → (∀ j, j < k → ¬ isTx ((fun k => rd I 174 (50 * b + k)) j)) → Wp (sE kX12_hasInk RX12) F 2 [(0, .ref 171), (1, .int (iI (b : Int))), (2, .int (iI (k : Int)))] [] (gM I J) := by
  intro n
  induction n with
  | zero =>
    intro k hmz hk ha
    exact absurd hmz (Nat.not_lt_zero _)
  | succ n ih =>
    intro k hmz hk ha
    refine w_iload_n dX12_hasInk_2 rfl ?_
    refine w_bipush (v := iI 50) dX12_hasInk_3 (by decide) ?_
    refine v_icmp_ge 49 dX12_hasInk_5 (by decide) (by omega) (by omega) (fun c5 => ?_) (fun c5 => ?_)
    · refine w_iconst (v := iI 0) dX12_hasInk_49 rfl ?_
      refine v_zret dX12_hasInk_50 rfl ⟨rfl, rfl⟩ (by decide) ?_
      refine hn (fun g => ?_)
      obtain ⟨j, g1, g2⟩ := g
      exact ha j (by omega) g2
    · refine w_aload_n dX12_hasInk_8 rfl ?_
      refine v_getR (j := 174) dX12_hasInk_9 fX12_17 ⟨by decide, rfl⟩ rfl rfl ?_
      refine w_bipush (v := iI 50) dX12_hasInk_12 (by decide) ?_
      refine w_iload_n dX12_hasInk_14 rfl ?_
      refine v_imul dX12_hasInk_15 ?_
      refine w_iload_n dX12_hasInk_16 rfl ?_
      refine v_iadd dX12_hasInk_17 ?_
      refine v_iald dX12_hasInk_18 ⟨by decide, rfl⟩ (by omega) (by omega) (by decide) (fun z18 e18 b18 => ?_)
      have f18 : z18 = rd I 174 (50 * b + k) := by rw [e18]; congr 1
      refine v_callS1 dX12_hasInk_19 lX12_73 vX12_isLetter (by decide) rfl rfl (Nat.le_of_ble_eq_true rfl) ?_
      refine x12_isLetter (by omega) (fun q19 => ?_) (fun q19 => ?_)
      · refine v_if_ne 41 dX12_hasInk_22 (by decide) (by decide) (fun _ => ?_) (fun q => absurd q (by decide))
        refine w_iconst (v := iI 1) dX12_hasInk_41 rfl ?_
        refine v_zret dX12_hasInk_42 rfl ⟨rfl, rfl⟩ (by decide) ?_
        refine hy ⟨k, by omega, ?_⟩
        dsimp only
        first | (rw [← f18]; omega) | (rw [← f35]; omega)
      · refine v_if_ne 41 dX12_hasInk_22 (by decide) (by decide) (fun q => absurd q (by decide)) (fun _ => ?_)
        refine w_aload_n dX12_hasInk_25 rfl ?_
        refine v_getR (j := 174) dX12_hasInk_26 fX12_17 ⟨by decide, rfl⟩ rfl rfl ?_
        refine w_bipush (v := iI 50) dX12_hasInk_29 (by decide) ?_
        refine w_iload_n dX12_hasInk_31 rfl ?_
        refine v_imul dX12_hasInk_32 ?_
        refine w_iload_n dX12_hasInk_33 rfl ?_
        refine v_iadd dX12_hasInk_34 ?_
        refine v_iald dX12_hasInk_35 ⟨by decide, rfl⟩ (by omega) (by omega) (by decide) (fun z35 e35 b35 => ?_)
        have f35 : z35 = rd I 174 (50 * b + k) := by rw [e35]; congr 1
        refine w_bipush (v := iI 46) dX12_hasInk_36 (by decide) ?_
        refine v_icmp_ne 43 dX12_hasInk_38 (by decide) (by omega) (by omega) (fun c38 => ?_) (fun c38 => ?_)
        · refine v_iinc dX12_hasInk_43 rfl rfl rfl ?_
          refine w_goto 2 dX12_hasInk_46 (by decide) ?_
          refine ih (k + 1) (by omega) (by omega) (fun j hj => ?_)
          rcases Nat.lt_succ_iff_lt_or_eq.mp hj with g | g
          · exact ha j g
          · subst g
            dsimp only
            rw [← f18]
            omega
        · refine w_iconst (v := iI 1) dX12_hasInk_41 rfl ?_
          refine v_zret dX12_hasInk_42 rfl ⟨rfl, rfl⟩ (by decide) ?_
          refine hy ⟨k, by omega, ?_⟩
          dsimp only
          first | (rw [← f18]; omega) | (rw [← f35]; omega)
theorem x12_hasInk {I : Nat → Nat → Int32} {J : Nat → Nat → Int64} {F : Option Value → zM → Prop} {b : Nat} (hb : b < 10) (hy : ink (fun k => rd I 174 (50 * b + k)) → F (some (.int (iI 1))) (gM I J)) (hn : ¬ ink (fun k => rd I 174 (50 * b + k)) → F (some (.int (iI 0))) (gM I J)) : Cl yX12_hasInk kX12_hasInk [.ref 171, .int (iI (b : Int))] (gM I J) F := by
  refine cl_s (by decide) (by decide) (Nat.le_of_ble_eq_true rfl) rt_z ?_
  show Wp _ F 0 [(0, .ref 171), (1, .int (iI (b : Int)))] [] _
  refine w_iconst (v := iI 0) dX12_hasInk_0 rfl ?_
  refine w_istore_n dX12_hasInk_1 rfl rfl ?_
  exact x12_hasInk_l hb hy hn 51 0 (by omega) (by omega) (fun j hj => by omega)
theorem x12_standsAt_i {I : Nat → Nat → Int32} {J : Nat → Nat → Int64} {F : Option Value → zM → Prop} {b : Nat} (hb : b < 10) {len : Nat} (hl : rd I 171 28 = len) (hl2 : len ≤ 200) {w i : Int} (hw : 2 ≤ w ∧ w ≤ 60) (hi : -400 ≤ i ∧ i ≤ 400) (hy : Sat (fun k => rd I 174 (50 * b + k)) (fun k => rd I 189 k) len w i → F (some (.int (iI 1))) (gM I J)) (hn : ¬ Sat (fun k => rd I 174 (50 * b + k)) (fun k => rd I 189 k) len w i → F (some (.int (iI 0))) (gM I J)) {r : Nat} (hr5 : r < 5) (hout : (∀ j, j < 10 → SatC (fun k => rd I 174 (50 * b + k)) (fun k => rd I 189 k) len w i r j) → Wp (sE kX12_standsAt RX12) F 3 [(0, .ref 171), (1, .int (iI (b : Int))), (2, .int (iI w)), (3, .int (iI i)), (4, .int (iI ((r : Int) + 1)))] [] (gM I J)) : ∀ (n : Nat) (c : Nat), 10 - c < n → c ≤ 10 → (∀ j, j < c → SatC (fun k => rd I 174 (50 * b + k)) (fun k => rd I 189 k) len w i r j) → Wp (sE kX12_standsAt RX12) F 12 [(0, .ref 171), (1, .int (iI (b : Int))), (2, .int (iI w)), (3, .int (iI i)), (4, .int (iI (r : Int))), (5, .int (iI (c : Int)))] [] (gM I J) := by
  intro n
  induction n with
  | zero =>
    intro c hmz hc ha
    exact absurd hmz (Nat.not_lt_zero _)
  | succ n ih =>
    intro c hmz hc ha
    refine w_iload dX12_standsAt_12 rfl ?_
    refine w_bipush (v := iI 10) dX12_standsAt_14 (by decide) ?_
    refine v_icmp_ge 118 dX12_standsAt_16 (by decide) (by omega) (by omega) (fun c16 => ?_) (fun c16 => ?_)
    · refine v_iinc dX12_standsAt_118 rfl rfl rfl ?_
      refine w_goto 3 dX12_standsAt_121 (by decide) ?_
      refine w_keep 5 ?_
      exact hout (fun j hj => ha j (by omega))
    · refine w_aload_n dX12_standsAt_19 rfl ?_
      refine w_iload_n dX12_standsAt_20 rfl ?_
      refine w_iload dX12_standsAt_21 rfl ?_
      refine w_iload dX12_standsAt_23 rfl ?_
      refine v_callV3 dX12_standsAt_25 lX12_86 vX12_at (by decide) rfl rfl ⟨by decide, rfl⟩ (by decide) rfl (Nat.le_of_ble_eq_true rfl) ?_
      refine x12_at hb (by omega) (by omega) (fun z25 e25 b25 => ?_)
      have f25 : z25 = rd I 174 (50 * b + (10 * r + c)) := by rw [e25]; congr 1; omega
      have hrw := rw_bd hr5 hw
      refine w_istore dX12_standsAt_28 rfl rfl ?_
      refine w_iload dX12_standsAt_30 rfl ?_
      refine v_callS1 dX12_standsAt_32 lX12_73 vX12_isLetter (by decide) rfl rfl (Nat.le_of_ble_eq_true rfl) ?_
      refine x12_isLetter (by omega) (fun q32 => ?_) (fun q32 => ?_)
      · refine v_if_ne 48 dX12_standsAt_35 (by decide) (by decide) (fun _ => ?_) (fun q => absurd q (by decide))
        refine w_iload_n dX12_standsAt_48 rfl ?_
        refine w_iload dX12_standsAt_49 rfl ?_
        refine w_iload_n dX12_standsAt_51 rfl ?_
        refine v_imul dX12_standsAt_52 ?_
        refine v_iadd dX12_standsAt_53 ?_
        refine w_iload dX12_standsAt_54 rfl ?_
        refine v_iadd dX12_standsAt_56 ?_
        refine w_istore dX12_standsAt_57 rfl rfl ?_
        refine w_iload dX12_standsAt_59 rfl ?_
        refine w_iconst (v := iI 0) dX12_standsAt_61 rfl ?_
        refine w_aload_n dX12_standsAt_62 rfl ?_
        refine v_getI dX12_standsAt_63 fX12_228 ⟨by decide, rfl⟩ (Or.inl rfl) (fun z63 e63 b63 => ?_)
        have f63 : z63 = len := by rw [e63]; exact hl
        have d1 := edv_bd (x := i + (r : Int) * w + (c : Int)) (w := w) (N := 1000) (by omega) (by omega) (by omega)
        have d2 := edv_bd (x := i) (w := w) (N := 1000) (by omega) (by omega) (by omega)
        refine w_iconst (v := iI 1) dX12_standsAt_66 rfl ?_
        refine v_isub dX12_standsAt_67 ?_
        refine v_callS3 dX12_standsAt_68 lX12_69 vX12_isIn (by decide) rfl rfl (Nat.le_of_ble_eq_true rfl) ?_
        refine x12_isIn (by omega) (by omega) (by omega) (fun q68 => ?_) (fun q68 => ?_)
        · refine v_if_eq 110 dX12_standsAt_71 (by decide) (by decide) (fun q => absurd q (by decide)) (fun _ => ?_)
          refine w_iload dX12_standsAt_74 rfl ?_
          refine w_iload_n dX12_standsAt_76 rfl ?_
          refine v_callS2 dX12_standsAt_77 lX12_231 vX12_floor (by decide) rfl rfl (Nat.le_of_ble_eq_true rfl) ?_
          refine x12_floor (by omega) (by omega) ?_
          refine w_iload_n dX12_standsAt_80 rfl ?_
          refine w_iload_n dX12_standsAt_81 rfl ?_
          refine v_callS2 dX12_standsAt_82 lX12_231 vX12_floor (by decide) rfl rfl (Nat.le_of_ble_eq_true rfl) ?_
          refine x12_floor (by omega) (by omega) ?_
          refine w_iload dX12_standsAt_85 rfl ?_
          refine v_iadd dX12_standsAt_87 ?_
          refine v_icmp_ne 110 dX12_standsAt_88 (by decide) (by omega) (by omega) (fun c88 => ?_) (fun c88 => ?_)
          · refine w_iconst (v := iI 0) dX12_standsAt_110 rfl ?_
            refine v_zret dX12_standsAt_111 rfl ⟨rfl, rfl⟩ (by decide) ?_
            refine hn (fun g => ?_)
            have g1 := g r hr5 c (by omega)
            dsimp only [SatC] at g1
            rw [← f25] at g1
            have g2 := g1 (by omega)
            first | omega | (rw [← e106] at g2; omega)
          · refine w_iload dX12_standsAt_91 rfl ?_
            refine w_bipush (v := iI 46) dX12_standsAt_93 (by decide) ?_
            refine v_icmp_eq 112 dX12_standsAt_95 (by decide) (by omega) (by omega) (fun c95 => ?_) (fun c95 => ?_)
            · refine v_iinc dX12_standsAt_112 rfl rfl rfl ?_
              refine w_goto 12 dX12_standsAt_115 (by decide) ?_
              refine w_keep 6 ?_
              refine ih (c + 1) (by omega) (by omega) (fun j hj => ?_)
              rcases Nat.lt_succ_iff_lt_or_eq.mp hj with g | g
              · exact ha j g
              · subst g
                intro g
                dsimp only at g ⊢
                rw [← f25] at g ⊢
                first | (exfalso; omega) | exact ⟨by omega, by omega, by omega, by first | omega | (rw [← e106]; omega)⟩
            · refine w_iload dX12_standsAt_98 rfl ?_
              refine w_aload_n dX12_standsAt_100 rfl ?_
              refine v_getR (j := 189) dX12_standsAt_101 fX12_62 ⟨by decide, rfl⟩ rfl rfl ?_
              refine w_iload dX12_standsAt_104 rfl ?_
              refine v_iald dX12_standsAt_106 ⟨by decide, rfl⟩ (by omega) (by omega) (by decide) (fun z106 e106 b106 => ?_)
              refine v_icmp_eq 112 dX12_standsAt_107 (by decide) (by omega) (by omega) (fun c107 => ?_) (fun c107 => ?_)
              · refine v_iinc dX12_standsAt_112 rfl rfl rfl ?_
                refine w_goto 12 dX12_standsAt_115 (by decide) ?_
                refine w_keep 6 ?_
                refine ih (c + 1) (by omega) (by omega) (fun j hj => ?_)
                rcases Nat.lt_succ_iff_lt_or_eq.mp hj with g | g
                · exact ha j g
                · subst g
                  intro g
                  dsimp only at g ⊢
                  rw [← f25] at g ⊢
                  first | (exfalso; omega) | exact ⟨by omega, by omega, by omega, by first | omega | (rw [← e106]; omega)⟩
              · refine w_iconst (v := iI 0) dX12_standsAt_110 rfl ?_
                refine v_zret dX12_standsAt_111 rfl ⟨rfl, rfl⟩ (by decide) ?_
                refine hn (fun g => ?_)
                have g1 := g r hr5 c (by omega)
                dsimp only [SatC] at g1
                rw [← f25] at g1
                have g2 := g1 (by omega)
                first | omega | (rw [← e106] at g2; omega)
        · refine v_if_eq 110 dX12_standsAt_71 (by decide) (by decide) (fun _ => ?_) (fun q => absurd q (by decide))
          refine w_iconst (v := iI 0) dX12_standsAt_110 rfl ?_
          refine v_zret dX12_standsAt_111 rfl ⟨rfl, rfl⟩ (by decide) ?_
          refine hn (fun g => ?_)
          have g1 := g r hr5 c (by omega)
          dsimp only [SatC] at g1
          rw [← f25] at g1
          have g2 := g1 (by omega)
          first | omega | (rw [← e106] at g2; omega)
      · refine v_if_ne 48 dX12_standsAt_35 (by decide) (by decide) (fun q => absurd q (by decide)) (fun _ => ?_)
        refine w_iload dX12_standsAt_38 rfl ?_
        refine w_bipush (v := iI 46) dX12_standsAt_40 (by decide) ?_
        refine v_icmp_eq 48 dX12_standsAt_42 (by decide) (by omega) (by omega) (fun c42 => ?_) (fun c42 => ?_)
        · refine w_iload_n dX12_standsAt_48 rfl ?_
          refine w_iload dX12_standsAt_49 rfl ?_
          refine w_iload_n dX12_standsAt_51 rfl ?_
          refine v_imul dX12_standsAt_52 ?_
          refine v_iadd dX12_standsAt_53 ?_
          refine w_iload dX12_standsAt_54 rfl ?_
          refine v_iadd dX12_standsAt_56 ?_
          refine w_istore dX12_standsAt_57 rfl rfl ?_
          refine w_iload dX12_standsAt_59 rfl ?_
          refine w_iconst (v := iI 0) dX12_standsAt_61 rfl ?_
          refine w_aload_n dX12_standsAt_62 rfl ?_
          refine v_getI dX12_standsAt_63 fX12_228 ⟨by decide, rfl⟩ (Or.inl rfl) (fun z63 e63 b63 => ?_)
          have f63 : z63 = len := by rw [e63]; exact hl
          have d1 := edv_bd (x := i + (r : Int) * w + (c : Int)) (w := w) (N := 1000) (by omega) (by omega) (by omega)
          have d2 := edv_bd (x := i) (w := w) (N := 1000) (by omega) (by omega) (by omega)
          refine w_iconst (v := iI 1) dX12_standsAt_66 rfl ?_
          refine v_isub dX12_standsAt_67 ?_
          refine v_callS3 dX12_standsAt_68 lX12_69 vX12_isIn (by decide) rfl rfl (Nat.le_of_ble_eq_true rfl) ?_
          refine x12_isIn (by omega) (by omega) (by omega) (fun q68 => ?_) (fun q68 => ?_)
          · refine v_if_eq 110 dX12_standsAt_71 (by decide) (by decide) (fun q => absurd q (by decide)) (fun _ => ?_)
            refine w_iload dX12_standsAt_74 rfl ?_
            refine w_iload_n dX12_standsAt_76 rfl ?_
            refine v_callS2 dX12_standsAt_77 lX12_231 vX12_floor (by decide) rfl rfl (Nat.le_of_ble_eq_true rfl) ?_
            refine x12_floor (by omega) (by omega) ?_
            refine w_iload_n dX12_standsAt_80 rfl ?_
            refine w_iload_n dX12_standsAt_81 rfl ?_
            refine v_callS2 dX12_standsAt_82 lX12_231 vX12_floor (by decide) rfl rfl (Nat.le_of_ble_eq_true rfl) ?_
            refine x12_floor (by omega) (by omega) ?_
            refine w_iload dX12_standsAt_85 rfl ?_
            refine v_iadd dX12_standsAt_87 ?_
            refine v_icmp_ne 110 dX12_standsAt_88 (by decide) (by omega) (by omega) (fun c88 => ?_) (fun c88 => ?_)
            · refine w_iconst (v := iI 0) dX12_standsAt_110 rfl ?_
              refine v_zret dX12_standsAt_111 rfl ⟨rfl, rfl⟩ (by decide) ?_
              refine hn (fun g => ?_)
              have g1 := g r hr5 c (by omega)
              dsimp only [SatC] at g1
              rw [← f25] at g1
              have g2 := g1 (by omega)
              first | omega | (rw [← e106] at g2; omega)
            · refine w_iload dX12_standsAt_91 rfl ?_
              refine w_bipush (v := iI 46) dX12_standsAt_93 (by decide) ?_
              refine v_icmp_eq 112 dX12_standsAt_95 (by decide) (by omega) (by omega) (fun c95 => ?_) (fun c95 => ?_)
              · refine v_iinc dX12_standsAt_112 rfl rfl rfl ?_
                refine w_goto 12 dX12_standsAt_115 (by decide) ?_
                refine w_keep 6 ?_
                refine ih (c + 1) (by omega) (by omega) (fun j hj => ?_)
                rcases Nat.lt_succ_iff_lt_or_eq.mp hj with g | g
                · exact ha j g
                · subst g
                  intro g
                  dsimp only at g ⊢
                  rw [← f25] at g ⊢
                  first | (exfalso; omega) | exact ⟨by omega, by omega, by omega, by first | omega | (rw [← e106]; omega)⟩
              · refine w_iload dX12_standsAt_98 rfl ?_
                refine w_aload_n dX12_standsAt_100 rfl ?_
                refine v_getR (j := 189) dX12_standsAt_101 fX12_62 ⟨by decide, rfl⟩ rfl rfl ?_
                refine w_iload dX12_standsAt_104 rfl ?_
                refine v_iald dX12_standsAt_106 ⟨by decide, rfl⟩ (by omega) (by omega) (by decide) (fun z106 e106 b106 => ?_)
                refine v_icmp_eq 112 dX12_standsAt_107 (by decide) (by omega) (by omega) (fun c107 => ?_) (fun c107 => ?_)
                · refine v_iinc dX12_standsAt_112 rfl rfl rfl ?_
                  refine w_goto 12 dX12_standsAt_115 (by decide) ?_
                  refine w_keep 6 ?_
                  refine ih (c + 1) (by omega) (by omega) (fun j hj => ?_)
                  rcases Nat.lt_succ_iff_lt_or_eq.mp hj with g | g
                  · exact ha j g
                  · subst g
                    intro g
                    dsimp only at g ⊢
                    rw [← f25] at g ⊢
                    first | (exfalso; omega) | exact ⟨by omega, by omega, by omega, by first | omega | (rw [← e106]; omega)⟩
                · refine w_iconst (v := iI 0) dX12_standsAt_110 rfl ?_
                  refine v_zret dX12_standsAt_111 rfl ⟨rfl, rfl⟩ (by decide) ?_
                  refine hn (fun g => ?_)
                  have g1 := g r hr5 c (by omega)
                  dsimp only [SatC] at g1
                  rw [← f25] at g1
                  have g2 := g1 (by omega)
                  first | omega | (rw [← e106] at g2; omega)
          · refine v_if_eq 110 dX12_standsAt_71 (by decide) (by decide) (fun _ => ?_) (fun q => absurd q (by decide))
            refine w_iconst (v := iI 0) dX12_standsAt_110 rfl ?_
            refine v_zret dX12_standsAt_111 rfl ⟨rfl, rfl⟩ (by decide) ?_
            refine hn (fun g => ?_)
            have g1 := g r hr5 c (by omega)
            dsimp only [SatC] at g1
            rw [← f25] at g1
            have g2 := g1 (by omega)
            first | omega | (rw [← e106] at g2; omega)
        · refine w_goto 112 dX12_standsAt_45 (by decide) ?_
          refine v_iinc dX12_standsAt_112 rfl rfl rfl ?_
          refine w_goto 12 dX12_standsAt_115 (by decide) ?_
          refine w_keep 6 ?_
          refine ih (c + 1) (by omega) (by omega) (fun j hj => ?_)
          rcases Nat.lt_succ_iff_lt_or_eq.mp hj with g | g
          · exact ha j g
          · subst g
            intro g
            dsimp only at g ⊢
            rw [← f25] at g ⊢
            first | (exfalso; omega) | exact ⟨by omega, by omega, by omega, by first | omega | (rw [← e106]; omega)⟩
theorem x12_standsAt_o {I : Nat → Nat → Int32} {J : Nat → Nat → Int64} {F : Option Value → zM → Prop} {b : Nat} (hb : b < 10) {len : Nat} (hl : rd I 171 28 = len) (hl2 : len ≤ 200) {w i : Int} (hw : 2 ≤ w ∧ w ≤ 60) (hi : -400 ≤ i ∧ i ≤ 400) (hy : Sat (fun k => rd I 174 (50 * b + k)) (fun k => rd I 189 k) len w i → F (some (.int (iI 1))) (gM I J)) (hn : ¬ Sat (fun k => rd I 174 (50 * b + k)) (fun k => rd I 189 k) len w i → F (some (.int (iI 0))) (gM I J)) : ∀ (n : Nat) (r : Nat), 5 - r < n → r ≤ 5 → (∀ r', r' < r → ∀ c, c < 10 → SatC (fun k => rd I 174 (50 * b + k)) (fun k => rd I 189 k) len w i r' c) → Wp (sE kX12_standsAt RX12) F 3 [(0, .ref 171), (1, .int (iI (b : Int))), (2, .int (iI w)), (3, .int (iI i)), (4, .int (iI (r : Int)))] [] (gM I J) := by
  intro n
  induction n with
  | zero =>
    intro r hmz hr ha
    exact absurd hmz (Nat.not_lt_zero _)
  | succ n ih =>
    intro r hmz hr ha
    refine w_iload dX12_standsAt_3 rfl ?_
    refine w_iconst (v := iI 5) dX12_standsAt_5 rfl ?_
    refine v_icmp_ge 124 dX12_standsAt_6 (by decide) (by omega) (by omega) (fun c6 => ?_) (fun c6 => ?_)
    · refine w_iconst (v := iI 1) dX12_standsAt_124 rfl ?_
      refine v_zret dX12_standsAt_125 rfl ⟨rfl, rfl⟩ (by decide) ?_
      refine hy (fun r' hr' => ha r' (by omega))
    · refine w_iconst (v := iI 0) dX12_standsAt_9 rfl ?_
      refine w_istore dX12_standsAt_10 rfl rfl ?_
      refine x12_standsAt_i hb hl hl2 hw hi hy hn (r := r) (by omega) (fun hrow => ih (r + 1) (by omega) (by omega) (fun r' hr' => ?_)) 11 0 (by omega) (by omega) (fun j hj => by omega)
      rcases Nat.lt_succ_iff_lt_or_eq.mp hr' with g | g
      · exact ha r' g
      · subst g; exact hrow
theorem x12_standsAt {I : Nat → Nat → Int32} {J : Nat → Nat → Int64} {F : Option Value → zM → Prop} {b : Nat} (hb : b < 10) {len : Nat} (hl : rd I 171 28 = len) (hl2 : len ≤ 200) {w i : Int} (hw : 2 ≤ w ∧ w ≤ 60) (hi : -400 ≤ i ∧ i ≤ 400) (hy : Sat (fun k => rd I 174 (50 * b + k)) (fun k => rd I 189 k) len w i → F (some (.int (iI 1))) (gM I J)) (hn : ¬ Sat (fun k => rd I 174 (50 * b + k)) (fun k => rd I 189 k) len w i → F (some (.int (iI 0))) (gM I J)) : Cl yX12_standsAt kX12_standsAt [.ref 171, .int (iI (b : Int)), .int (iI w), .int (iI i)] (gM I J) F := by
  refine cl_s (by decide) (by decide) (Nat.le_of_ble_eq_true rfl) rt_z ?_
  show Wp _ F 0 [(0, .ref 171), (1, .int (iI (b : Int))), (2, .int (iI w)), (3, .int (iI i))] [] _
  refine w_iconst (v := iI 0) dX12_standsAt_0 rfl ?_
  refine w_istore dX12_standsAt_1 rfl rfl ?_
  exact x12_standsAt_o hb hl hl2 hw hi hy hn 6 0 (by omega) (by omega) (fun r' hr' => by omega)
theorem x12_standsBy_l {I : Nat → Nat → Int32} {J : Nat → Nat → Int64} {F : Option Value → zM → Prop} {b : Nat} (hb : b < 10) {len : Nat} (hl : rd I 171 28 = len) (hl2 : len ≤ 200) {w t : Int} (hw : 2 ≤ w ∧ w ≤ 60) (bt : -2147483648 ≤ t ∧ t < 2147483648) (hy : ink (fun k => rd I 174 (50 * b + k)) → ∀ I', rd I' 171 27 = cn (stQ (fun k => rd I 174 (50 * b + k)) (fun k => rd I 189 k) len w) (stM len w) → (∀ id k, ¬ (id = 171 ∧ k = 27) → rd I' id k = rd I id k) → F (some (.int (iI (kf (stQ (fun k => rd I 174 (50 * b + k)) (fun k => rd I 189 k) len w) (fun j => (j : Int) - 5 * w - 10) t (-1000) (stM len w))))) (gM I' J)) (hn : ¬ ink (fun k => rd I 174 (50 * b + k)) → ∀ I', rd I' 171 27 = 0 → (∀ id k, ¬ (id = 171 ∧ k = 27) → rd I' id k = rd I id k) → F (some (.int (iI (-1000)))) (gM I' J)) : ∀ (n : Nat) (k : Nat) (fo : Int) (I' : Nat → Nat → Int32), stM len w - k < n → k ≤ stM len w → (0 < k → ink (fun k => rd I 174 (50 * b + k))) → rd I' 171 27 = cn (stQ (fun k => rd I 174 (50 * b + k)) (fun k => rd I 189 k) len w) k → (∀ id k, ¬ (id = 171 ∧ k = 27) → rd I' id k = rd I id k) → fo = kf (stQ (fun k => rd I 174 (50 * b + k)) (fun k => rd I 189 k) len w) (fun j => (j : Int) - 5 * w - 10) t (-1000) k → Wp (sE kX12_standsBy RX12) F 19 [(0, .ref 171), (1, .int (iI (b : Int))), (2, .int (iI w)), (3, .int (iI t)), (4, .int (iI fo)), (5, .int (iI ((k : Int) - 5 * w - 10)))] [] (gM I' J) := by
  intro n
  induction n with
  | zero =>
    intro k fo I' hmz hk hik hcn hx hf
    exact absurd hmz (Nat.not_lt_zero _)
  | succ n ih =>
    intro k fo I' hmz hk hik hcn hx hf
    have bc := cn_bd (stQ (fun k => rd I 174 (50 * b + k)) (fun k => rd I 189 k) len w) k
    have eC : (fun j => rd I' 174 (50 * b + j)) = (fun k => rd I 174 (50 * b + k)) := funext fun j => hx _ _ (by omega)
    have eT : (fun j => rd I' 189 j) = (fun k => rd I 189 k) := funext fun j => hx _ _ (by omega)
    have hM : (stM len w : Int) = len + 5 * w + 10 := by unfold stM; omega
    refine w_iload dX12_standsBy_19 rfl ?_
    refine w_aload_n dX12_standsBy_21 rfl ?_
    refine v_getI dX12_standsBy_22 fX12_228 ⟨by decide, rfl⟩ (Or.inl rfl) (fun z22 e22 b22 => ?_)
    have f22 : z22 = len := by rw [e22, hx _ _ (by omega)]; exact hl
    refine v_icmp_ge 78 dX12_standsBy_25 (by decide) (by omega) (by omega) (fun c25 => ?_) (fun c25 => ?_)
    · refine w_iload dX12_standsBy_78 rfl ?_
      refine v_iret dX12_standsBy_80 rfl ⟨rfl, rfl⟩ ?_
      by_cases gi : ink (fun k => rd I 174 (50 * b + k))
      · first
          | exact absurd gi q30
          | (have g : k = stM len w := by omega
             subst g
             rw [hf]
             exact hy gi I' hcn hx)
      · have g : k = 0 := by
          rcases Nat.eq_zero_or_pos k with q0 | q0
          · exact q0
          · exact absurd (hik q0) gi
        subst g
        rw [hf]
        exact hn gi I' hcn hx
    · refine w_aload_n dX12_standsBy_28 rfl ?_
      refine w_iload_n dX12_standsBy_29 rfl ?_
      refine v_callV1 dX12_standsBy_30 lX12_234 vX12_hasInk (by decide) rfl rfl ⟨by decide, rfl⟩ (by decide) rfl (Nat.le_of_ble_eq_true rfl) ?_
      refine x12_hasInk hb (fun q30 => ?_) (fun q30 => ?_)
      all_goals rw [eC] at q30
      · refine v_if_eq 78 dX12_standsBy_33 (by decide) (by decide) (fun q => absurd q (by decide)) (fun _ => ?_)
        refine w_aload_n dX12_standsBy_36 rfl ?_
        refine w_iload_n dX12_standsBy_37 rfl ?_
        refine w_iload_n dX12_standsBy_38 rfl ?_
        refine w_iload dX12_standsBy_39 rfl ?_
        refine v_callV3 dX12_standsBy_41 lX12_237 vX12_standsAt (by decide) rfl rfl ⟨by decide, rfl⟩ (by decide) rfl (Nat.le_of_ble_eq_true rfl) ?_
        refine x12_standsAt (len := len) hb (by rw [hx _ _ (by omega)]; exact hl) hl2 hw (by omega) (fun q41 => ?_) (fun q41 => ?_)
        all_goals rw [eC, eT] at q41
        · refine v_if_ne 50 dX12_standsBy_44 (by decide) (by decide) (fun _ => ?_) (fun q => absurd q (by decide))
          refine w_aload_n dX12_standsBy_50 rfl ?_
          refine v_getI dX12_standsBy_51 fX12_216 ⟨by decide, rfl⟩ (Or.inl rfl) (fun z51 e51 b51 => ?_)
          have f51 : z51 = cn (stQ (fun k => rd I 174 (50 * b + k)) (fun k => rd I 189 k) len w) k := by rw [e51]; exact hcn
          refine w_iload_n dX12_standsBy_54 rfl ?_
          refine v_icmp_ne 62 dX12_standsBy_55 (by decide) (by omega) (by omega) (fun c55 => ?_) (fun c55 => ?_)
          · refine w_aload_n dX12_standsBy_62 rfl ?_
            refine w_dup dX12_standsBy_63 rfl ?_
            refine v_getI dX12_standsBy_64 fX12_216 ⟨by decide, rfl⟩ (Or.inl rfl) (fun z64 e64 b64 => ?_)
            have f64 : z64 = cn (stQ (fun k => rd I 174 (50 * b + k)) (fun k => rd I 189 k) len w) k := by rw [e64]; exact hcn
            refine w_iconst (v := iI 1) dX12_standsBy_67 rfl ?_
            refine v_iadd dX12_standsBy_68 ?_
            refine v_putI dX12_standsBy_69 fX12_216 ⟨by decide, rfl⟩ rfl (Or.inl rfl) ?_
            refine v_iinc dX12_standsBy_72 rfl rfl rfl ?_
            refine w_goto 19 dX12_standsBy_75 (by decide) ?_
            have e6 : (k : Int) - 5 * w - 10 + 1 = ((k + 1 : Nat) : Int) - 5 * w - 10 := by omega
            rw [e6]
            refine ih (k + 1) _ _ (by omega) (by omega) (fun _ => q30) ?_ ?_ ?_
            · first
                | (have gq : (stQ (fun k => rd I 174 (50 * b + k)) (fun k => rd I 189 k) len w) k = true := decide_eq_true q41
                   rw [rd_wr_eq (by omega) (by omega), cn, if_pos gq, f64]; done)
                | (have gq : ¬ (stQ (fun k => rd I 174 (50 * b + k)) (fun k => rd I 189 k) len w) k = true := fun g => q41 (of_decide_eq_true g)
                   rw [cn, if_neg gq, hcn]; omega)
            · intro id j hj
              first | (rw [rd_wr_ne hj]; exact hx id j hj) | exact hx id j hj
            · unfold kf
              first
                | (have gq : (stQ (fun k => rd I 174 (50 * b + k)) (fun k => rd I 189 k) len w) k = true := decide_eq_true q41
                   rw [if_pos ⟨gq, by rw [← f51]; omega⟩]; done)
                | (rw [if_neg (fun g => by have g2 := g.2; rw [← f51] at g2; omega)]; exact hf)
                | (have gq : ¬ (stQ (fun k => rd I 174 (50 * b + k)) (fun k => rd I 189 k) len w) k = true := fun g => q41 (of_decide_eq_true g)
                   rw [if_neg (fun g => gq g.1)]; exact hf)
          · refine w_iload dX12_standsBy_58 rfl ?_
            refine w_istore dX12_standsBy_60 rfl rfl ?_
            refine w_aload_n dX12_standsBy_62 rfl ?_
            refine w_dup dX12_standsBy_63 rfl ?_
            refine v_getI dX12_standsBy_64 fX12_216 ⟨by decide, rfl⟩ (Or.inl rfl) (fun z64 e64 b64 => ?_)
            have f64 : z64 = cn (stQ (fun k => rd I 174 (50 * b + k)) (fun k => rd I 189 k) len w) k := by rw [e64]; exact hcn
            refine w_iconst (v := iI 1) dX12_standsBy_67 rfl ?_
            refine v_iadd dX12_standsBy_68 ?_
            refine v_putI dX12_standsBy_69 fX12_216 ⟨by decide, rfl⟩ rfl (Or.inl rfl) ?_
            refine v_iinc dX12_standsBy_72 rfl rfl rfl ?_
            refine w_goto 19 dX12_standsBy_75 (by decide) ?_
            have e6 : (k : Int) - 5 * w - 10 + 1 = ((k + 1 : Nat) : Int) - 5 * w - 10 := by omega
            rw [e6]
            refine ih (k + 1) _ _ (by omega) (by omega) (fun _ => q30) ?_ ?_ ?_
            · first
                | (have gq : (stQ (fun k => rd I 174 (50 * b + k)) (fun k => rd I 189 k) len w) k = true := decide_eq_true q41
                   rw [rd_wr_eq (by omega) (by omega), cn, if_pos gq, f64]; done)
                | (have gq : ¬ (stQ (fun k => rd I 174 (50 * b + k)) (fun k => rd I 189 k) len w) k = true := fun g => q41 (of_decide_eq_true g)
                   rw [cn, if_neg gq, hcn]; omega)
            · intro id j hj
              first | (rw [rd_wr_ne hj]; exact hx id j hj) | exact hx id j hj
            · unfold kf
              first
                | (have gq : (stQ (fun k => rd I 174 (50 * b + k)) (fun k => rd I 189 k) len w) k = true := decide_eq_true q41
                   rw [if_pos ⟨gq, by rw [← f51]; omega⟩]; done)
                | (rw [if_neg (fun g => by have g2 := g.2; rw [← f51] at g2; omega)]; exact hf)
                | (have gq : ¬ (stQ (fun k => rd I 174 (50 * b + k)) (fun k => rd I 189 k) len w) k = true := fun g => q41 (of_decide_eq_true g)
                   rw [if_neg (fun g => gq g.1)]; exact hf)
        · refine v_if_ne 50 dX12_standsBy_44 (by decide) (by decide) (fun q => absurd q (by decide)) (fun _ => ?_)
          refine w_goto 72 dX12_standsBy_47 (by decide) ?_
          refine v_iinc dX12_standsBy_72 rfl rfl rfl ?_
          refine w_goto 19 dX12_standsBy_75 (by decide) ?_
          have e6 : (k : Int) - 5 * w - 10 + 1 = ((k + 1 : Nat) : Int) - 5 * w - 10 := by omega
          rw [e6]
          refine ih (k + 1) _ _ (by omega) (by omega) (fun _ => q30) ?_ ?_ ?_
          · first
              | (have gq : (stQ (fun k => rd I 174 (50 * b + k)) (fun k => rd I 189 k) len w) k = true := decide_eq_true q41
                 rw [rd_wr_eq (by omega) (by omega), cn, if_pos gq, f64]; done)
              | (have gq : ¬ (stQ (fun k => rd I 174 (50 * b + k)) (fun k => rd I 189 k) len w) k = true := fun g => q41 (of_decide_eq_true g)
                 rw [cn, if_neg gq, hcn]; omega)
          · intro id j hj
            first | (rw [rd_wr_ne hj]; exact hx id j hj) | exact hx id j hj
          · unfold kf
            first
              | (have gq : (stQ (fun k => rd I 174 (50 * b + k)) (fun k => rd I 189 k) len w) k = true := decide_eq_true q41
                 rw [if_pos ⟨gq, by rw [← f51]; omega⟩]; done)
              | (rw [if_neg (fun g => by have g2 := g.2; rw [← f51] at g2; omega)]; exact hf)
              | (have gq : ¬ (stQ (fun k => rd I 174 (50 * b + k)) (fun k => rd I 189 k) len w) k = true := fun g => q41 (of_decide_eq_true g)
                 rw [if_neg (fun g => gq g.1)]; exact hf)
      · refine v_if_eq 78 dX12_standsBy_33 (by decide) (by decide) (fun _ => ?_) (fun q => absurd q (by decide))
        refine w_iload dX12_standsBy_78 rfl ?_
        refine v_iret dX12_standsBy_80 rfl ⟨rfl, rfl⟩ ?_
        by_cases gi : ink (fun k => rd I 174 (50 * b + k))
        · first
            | exact absurd gi q30
            | (have g : k = stM len w := by omega
               subst g
               rw [hf]
               exact hy gi I' hcn hx)
        · have g : k = 0 := by
            rcases Nat.eq_zero_or_pos k with q0 | q0
            · exact q0
            · exact absurd (hik q0) gi
          subst g
          rw [hf]
          exact hn gi I' hcn hx
theorem x12_standsBy {I : Nat → Nat → Int32} {J : Nat → Nat → Int64} {F : Option Value → zM → Prop} {b : Nat} (hb : b < 10) {len : Nat} (hl : rd I 171 28 = len) (hl2 : len ≤ 200) {w t : Int} (hw : 2 ≤ w ∧ w ≤ 60) (bt : -2147483648 ≤ t ∧ t < 2147483648) (hy : ink (fun k => rd I 174 (50 * b + k)) → ∀ I', rd I' 171 27 = cn (stQ (fun k => rd I 174 (50 * b + k)) (fun k => rd I 189 k) len w) (stM len w) → (∀ id k, ¬ (id = 171 ∧ k = 27) → rd I' id k = rd I id k) → F (some (.int (iI (kf (stQ (fun k => rd I 174 (50 * b + k)) (fun k => rd I 189 k) len w) (fun j => (j : Int) - 5 * w - 10) t (-1000) (stM len w))))) (gM I' J)) (hn : ¬ ink (fun k => rd I 174 (50 * b + k)) → ∀ I', rd I' 171 27 = 0 → (∀ id k, ¬ (id = 171 ∧ k = 27) → rd I' id k = rd I id k) → F (some (.int (iI (-1000)))) (gM I' J)) : Cl yX12_standsBy kX12_standsBy [.ref 171, .int (iI (b : Int)), .int (iI w), .int (iI t)] (gM I J) F := by
  refine cl_s (by decide) (by decide) (Nat.le_of_ble_eq_true rfl) rt_i ?_
  show Wp _ F 0 [(0, .ref 171), (1, .int (iI (b : Int))), (2, .int (iI w)), (3, .int (iI t))] [] _
  refine w_aload_n dX12_standsBy_0 rfl ?_
  refine w_iconst (v := iI 0) dX12_standsBy_1 rfl ?_
  refine v_putI dX12_standsBy_2 fX12_216 ⟨by decide, rfl⟩ rfl (Or.inl rfl) ?_
  refine w_sipush (v := iI (-1000)) dX12_standsBy_5 (by decide) ?_
  refine w_istore dX12_standsBy_8 rfl rfl ?_
  refine w_bipush (v := iI (-5)) dX12_standsBy_10 (by decide) ?_
  refine w_iload_n dX12_standsBy_12 rfl ?_
  refine v_imul dX12_standsBy_13 ?_
  refine w_bipush (v := iI 10) dX12_standsBy_14 (by decide) ?_
  refine v_isub dX12_standsBy_16 ?_
  refine w_istore dX12_standsBy_17 rfl rfl ?_
  have e6 : (-5 : Int) * w - 10 = ((0 : Nat) : Int) - 5 * w - 10 := by omega
  rw [e6]
  exact x12_standsBy_l hb hl hl2 hw bt hy hn (stM len w + 1) 0 (-1000) _ (by omega) (by omega) (fun g => by omega) (rd_wr_eq (by omega) (by omega)) (fun id k hk => rd_wr_ne hk) rfl
