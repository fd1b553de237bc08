/-! RUNS of the reference -/
def rsAt (I : Nat → Nat → Int32) (r c : Int) : Int := if inS r c then rd I 185 (r * 32 + c).toNat else 95
theorem rsAt_sB (I : Nat → Nat → Int32) (y : Int) : sB (fun x => rsAt I y x) := fun x hx => by
  show rsAt I y x = 95
  unfold rsAt
  rw [if_neg]
  intro g
  have : (0 ≤ y ∧ y < 16 ∧ 0 ≤ x ∧ x < 32) := g
  omega
theorem rsAt_in {I : Nat → Nat → Int32} {y x : Int} (h : 0 ≤ y ∧ y < 16) (h2 : 0 ≤ x ∧ x < 32) : rsAt I y x = rd I 185 (32 * y + x).toNat := by
  unfold rsAt
  rw [if_pos ⟨h.1, h.2, h2.1, h2.2⟩]; congr 2; omega
theorem rsAt_cong {I I' : Nat → Nat → Int32} (h : ∀ k, k < 512 → rd I' 185 k = rd I 185 k) (y x : Int) : rsAt I' y x = rsAt I y x := by
  unfold rsAt
  by_cases g : inS y x
  · have : (0 ≤ y ∧ y < 16 ∧ 0 ≤ x ∧ x < 32) := g
    rw [if_pos g, if_pos g, h _ (by omega)]
  · rw [if_neg g, if_neg g]
abbrev SR (id k : Nat) : Prop := id = 171 ∧ 17 ≤ k ∧ k ≤ 20
theorem x12_isInk {I : Nat → Nat → Int32} {J : Nat → Nat → Int64} {F : Option Value → zM → Prop} {k : Int} (hk : 0 ≤ k ∧ k < 512) (ht : isTx (rd I 185 k.toNat) → F (some (.int (iI 1))) (gM I J)) (hf : ¬ isTx (rd I 185 k.toNat) → F (some (.int (iI 0))) (gM I J)) : Cl yX12_isInk kX12_isInk [.ref 171, .int (iI k)] (gM I J) F := by
  refine cl_s (by decide) (by decide) (Nat.le_of_ble_eq_true rfl) rt_z ?_
  show Wp _ F 0 [(0, .ref 171), (1, .int (iI k))] [] _
  refine w_aload_n dX12_isInk_0 rfl ?_
  refine v_getR (j := 185) dX12_isInk_1 fX12_50 ⟨by decide, rfl⟩ rfl rfl ?_
  refine w_iload_n dX12_isInk_4 rfl ?_
  refine v_iald dX12_isInk_5 ⟨by decide, rfl⟩ (by omega) (by omega) (by decide) (fun z5 e5 b5 => ?_)
  have f5 := e5
  refine v_callS1 dX12_isInk_6 lX12_73 vX12_isLetter (by decide) rfl rfl (Nat.le_of_ble_eq_true rfl) ?_
  refine x12_isLetter (by omega) (fun q6 => ?_) (fun q6 => ?_)
  · refine v_if_ne 23 dX12_isInk_9 (by decide) (by decide) (fun _ => ?_) (fun q => absurd q (by decide))
    refine w_iconst (v := iI 1) dX12_isInk_23 rfl ?_
    refine w_goto 28 dX12_isInk_24 (by decide) ?_
    refine v_zret dX12_isInk_28 rfl ⟨rfl, rfl⟩ (by decide) ?_
    first
      | exact ht (by rw [← e5]; exact Or.inr q6)
      | exact ht (by rw [← e17]; exact Or.inl (by omega))
      | exact hf (by rw [← e17]; omega)
  · refine v_if_ne 23 dX12_isInk_9 (by decide) (by decide) (fun q => absurd q (by decide)) (fun _ => ?_)
    refine w_aload_n dX12_isInk_12 rfl ?_
    refine v_getR (j := 185) dX12_isInk_13 fX12_50 ⟨by decide, rfl⟩ rfl rfl ?_
    refine w_iload_n dX12_isInk_16 rfl ?_
    refine v_iald dX12_isInk_17 ⟨by decide, rfl⟩ (by omega) (by omega) (by decide) (fun z17 e17 b17 => ?_)
    have f17 := e17
    refine w_bipush (v := iI 46) dX12_isInk_18 (by decide) ?_
    refine v_icmp_ne 27 dX12_isInk_20 (by decide) (by omega) (by omega) (fun c20 => ?_) (fun c20 => ?_)
    · refine w_iconst (v := iI 0) dX12_isInk_27 rfl ?_
      refine v_zret dX12_isInk_28 rfl ⟨rfl, rfl⟩ (by decide) ?_
      first
        | exact ht (by rw [← e5]; exact Or.inr q6)
        | exact ht (by rw [← e17]; exact Or.inl (by omega))
        | exact hf (by rw [← e17]; omega)
    · refine w_iconst (v := iI 1) dX12_isInk_23 rfl ?_
      refine w_goto 28 dX12_isInk_24 (by decide) ?_
      refine v_zret dX12_isInk_28 rfl ⟨rfl, rfl⟩ (by decide) ?_
      first
        | exact ht (by rw [← e5]; exact Or.inr q6)
        | exact ht (by rw [← e17]; exact Or.inl (by omega))
        | exact hf (by rw [← e17]; omega)
theorem x12_isPlace {I : Nat → Nat → Int32} {J : Nat → Nat → Int64} {F : Option Value → zM → Prop} {r c : Int} (br : -2147483648 ≤ r ∧ r < 2147483648) (bc : -2147483648 ≤ c ∧ c < 2147483648) (ht : inS r c → F (some (.int (iI 1))) (gM I J)) (hf : ¬ inS r c → F (some (.int (iI 0))) (gM I J)) : Cl yX12_isPlace kX12_isPlace [.int (iI r), .int (iI c)] (gM I J) F := by
  refine cl_s (by decide) (by decide) (Nat.le_of_ble_eq_true rfl) rt_z ?_
  show Wp _ F 0 [(0, .int (iI r)), (1, .int (iI c))] [] _
  refine w_iload_n dX12_isPlace_0 rfl ?_
  refine w_iconst (v := iI 0) dX12_isPlace_1 rfl ?_
  refine w_bipush (v := iI 15) dX12_isPlace_2 (by decide) ?_
  refine v_callS3 dX12_isPlace_4 lX12_69 vX12_isIn (by decide) rfl rfl (Nat.le_of_ble_eq_true rfl) ?_
  refine x12_isIn (by omega) (by omega) (by omega) (fun q4 => ?_) (fun q4 => ?_)
  · refine v_if_eq 24 dX12_isPlace_7 (by decide) (by decide) (fun q => absurd q (by decide)) (fun _ => ?_)
    refine w_iload_n dX12_isPlace_10 rfl ?_
    refine w_iconst (v := iI 0) dX12_isPlace_11 rfl ?_
    refine w_bipush (v := iI 31) dX12_isPlace_12 (by decide) ?_
    refine v_callS3 dX12_isPlace_14 lX12_69 vX12_isIn (by decide) rfl rfl (Nat.le_of_ble_eq_true rfl) ?_
    refine x12_isIn (by omega) (by omega) (by omega) (fun q14 => ?_) (fun q14 => ?_)
    · refine v_if_eq 24 dX12_isPlace_17 (by decide) (by decide) (fun q => absurd q (by decide)) (fun _ => ?_)
      refine w_iconst (v := iI 1) dX12_isPlace_20 rfl ?_
      refine w_goto 25 dX12_isPlace_21 (by decide) ?_
      refine v_zret dX12_isPlace_25 rfl ⟨rfl, rfl⟩ (by decide) ?_
      first
        | exact ht (by show 0 ≤ r ∧ r < 16 ∧ 0 ≤ c ∧ c < 32; omega)
        | exact hf (by show ¬ (0 ≤ r ∧ r < 16 ∧ 0 ≤ c ∧ c < 32); omega)
    · refine v_if_eq 24 dX12_isPlace_17 (by decide) (by decide) (fun _ => ?_) (fun q => absurd q (by decide))
      refine w_iconst (v := iI 0) dX12_isPlace_24 rfl ?_
      refine v_zret dX12_isPlace_25 rfl ⟨rfl, rfl⟩ (by decide) ?_
      first
        | exact ht (by show 0 ≤ r ∧ r < 16 ∧ 0 ≤ c ∧ c < 32; omega)
        | exact hf (by show ¬ (0 ≤ r ∧ r < 16 ∧ 0 ≤ c ∧ c < 32); omega)
  · refine v_if_eq 24 dX12_isPlace_7 (by decide) (by decide) (fun _ => ?_) (fun q => absurd q (by decide))
    refine w_iconst (v := iI 0) dX12_isPlace_24 rfl ?_
    refine v_zret dX12_isPlace_25 rfl ⟨rfl, rfl⟩ (by decide) ?_
    first
      | exact ht (by show 0 ≤ r ∧ r < 16 ∧ 0 ≤ c ∧ c < 32; omega)
      | exact hf (by show ¬ (0 ≤ r ∧ r < 16 ∧ 0 ≤ c ∧ c < 32); omega)
theorem x12_runAt_e {I : Nat → Nat → Int32} {J : Nat → Nat → Int64} {F : Option Value → zM → Prop} {y x : Int} (hy : 0 ≤ y ∧ y < 16) (hx : 0 ≤ x ∧ x < 32) (htx : isTx (rsAt I y x)) (h : ∀ a e : Int, isRun (fun x => rsAt I y x) a e → a ≤ x → x < e → 0 ≤ a → e ≤ 32 → F none (gM (wr (wr (wr (wr I 171 19 (c44 (rsAt I y (a - 1)))) 171 20 (c44 (rsAt I y e))) 171 17 (32 * y + a)) 171 18 (32 * y + e)) J)) {a : Int} (ha0 : 0 ≤ a) (hax : a ≤ x) (hat : ∀ z, a ≤ z → z ≤ x → isTx (rsAt I y z)) (han : ¬ isTx (rsAt I y (a - 1))) : ∀ (nz : Nat) (e : Int), (32 - e).toNat < nz → x < e → e ≤ 32 → (∀ z, x < z → z < e → isTx (rsAt I y z)) → Wp (sE kX12_runAt RX12) F 32 [(0, .ref 171), (1, .int (iI y)), (2, .int (iI x)), (3, .int (iI a)), (4, .int (iI e))] [] (gM I J) := by
  intro nz
  induction nz with
  | zero =>
    intro e hmz he1 he2 het
    exact absurd hmz (Nat.not_lt_zero _)
  | succ nz ih =>
    intro e hmz he1 he2 het
    refine w_iload dX12_runAt_32 rfl ?_
    refine w_bipush (v := iI 32) dX12_runAt_34 (by decide) ?_
    refine v_icmp_ge 59 dX12_runAt_36 (by decide) (by omega) (by omega) (fun c36 => ?_) (fun c36 => ?_)
    · refine w_aload_n dX12_runAt_59 rfl ?_
      refine w_iload_n dX12_runAt_60 rfl ?_
      refine v_if_le 86 dX12_runAt_61 (by decide) (by omega) (fun c61 => ?_) (fun c61 => ?_)
      · first
          | (exfalso; omega)
          | (refine w_iconst (v := iI 0) dX12_runAt_86 rfl ?_
             refine v_putI dX12_runAt_87 fX12_109 ⟨by decide, rfl⟩ rfl (Or.inr ⟨rfl, by decide⟩) ?_
             refine w_aload_n dX12_runAt_90 rfl ?_
             refine w_iload dX12_runAt_91 rfl ?_
             refine w_bipush (v := iI 32) dX12_runAt_93 (by decide) ?_
             refine v_icmp_ge 119 dX12_runAt_95 (by decide) (by omega) (by omega) (fun c95 => ?_) (fun c95 => ?_)
             · refine w_iconst (v := iI 0) dX12_runAt_119 rfl ?_
               refine v_putI dX12_runAt_120 fX12_113 ⟨by decide, rfl⟩ rfl (Or.inr ⟨rfl, by decide⟩) ?_
               refine w_aload_n dX12_runAt_123 rfl ?_
               refine w_bipush (v := iI 32) dX12_runAt_124 (by decide) ?_
               refine w_iload_n dX12_runAt_126 rfl ?_
               refine v_imul dX12_runAt_127 ?_
               refine w_iload_n dX12_runAt_128 rfl ?_
               refine v_iadd dX12_runAt_129 ?_
               refine v_putI dX12_runAt_130 fX12_116 ⟨by decide, rfl⟩ rfl (Or.inl rfl) ?_
               refine w_aload_n dX12_runAt_133 rfl ?_
               refine w_bipush (v := iI 32) dX12_runAt_134 (by decide) ?_
               refine w_iload_n dX12_runAt_136 rfl ?_
               refine v_imul dX12_runAt_137 ?_
               refine w_iload dX12_runAt_138 rfl ?_
               refine v_iadd dX12_runAt_140 ?_
               refine v_putI dX12_runAt_141 fX12_119 ⟨by decide, rfl⟩ rfl (Or.inl rfl) ?_
               refine v_vret dX12_runAt_144 rfl ⟨rfl, rfl⟩ ?_
               first
                 | (exfalso; omega)
                 | (have hne : ¬ isTx (rsAt I y e) := by
                      first | exact q47 | exact fun g => by have := sB_in (rsAt_sB I y) g; omega
                    have ca : c44 (rsAt I y (a - 1)) = 1 ∨ c44 (rsAt I y (a - 1)) = 0 := by unfold c44; split <;> simp
                    have L := h a e ⟨by omega, fun z z1 z2 => (show isTx (rsAt I y z) by
                      by_cases g : z ≤ x
                      · exact hat z z1 g
                      · exact het z (by omega) z2), han, hne⟩ hax (by omega) ha0 he2
                    have c1 : c44 (rsAt I y (a - 1)) = 1 := by
                      unfold c44
                      first
                        | (rw [← f76]; first | rw [if_pos (by omega)] | rw [if_neg (by omega)])
                        | (rw [if_neg (fun g => by have := rsAt_sB I y (a - 1) (by omega); (try dsimp only at this); omega)])
                    have c2 : c44 (rsAt I y e) = 1 := by
                      unfold c44
                      first
                        | (rw [← f109]; first | rw [if_pos (by omega)] | rw [if_neg (by omega)])
                        | (rw [if_neg (fun g => by have := rsAt_sB I y e (by omega); (try dsimp only at this); omega)])
                    rw [c1, c2] at L
                    exact L)
                 | (have hne : ¬ isTx (rsAt I y e) := by
                      first | exact q47 | exact fun g => by have := sB_in (rsAt_sB I y) g; omega
                    have ca : c44 (rsAt I y (a - 1)) = 1 ∨ c44 (rsAt I y (a - 1)) = 0 := by unfold c44; split <;> simp
                    have L := h a e ⟨by omega, fun z z1 z2 => (show isTx (rsAt I y z) by
                      by_cases g : z ≤ x
                      · exact hat z z1 g
                      · exact het z (by omega) z2), han, hne⟩ hax (by omega) ha0 he2
                    have c1 : c44 (rsAt I y (a - 1)) = 1 := by
                      unfold c44
                      first
                        | (rw [← f76]; first | rw [if_pos (by omega)] | rw [if_neg (by omega)])
                        | (rw [if_neg (fun g => by have := rsAt_sB I y (a - 1) (by omega); (try dsimp only at this); omega)])
                    have c2 : c44 (rsAt I y e) = 0 := by
                      unfold c44
                      first
                        | (rw [← f109]; first | rw [if_pos (by omega)] | rw [if_neg (by omega)])
                        | (rw [if_neg (fun g => by have := rsAt_sB I y e (by omega); (try dsimp only at this); omega)])
                    rw [c1, c2] at L
                    exact L)
                 | (have hne : ¬ isTx (rsAt I y e) := by
                      first | exact q47 | exact fun g => by have := sB_in (rsAt_sB I y) g; omega
                    have ca : c44 (rsAt I y (a - 1)) = 1 ∨ c44 (rsAt I y (a - 1)) = 0 := by unfold c44; split <;> simp
                    have L := h a e ⟨by omega, fun z z1 z2 => (show isTx (rsAt I y z) by
                      by_cases g : z ≤ x
                      · exact hat z z1 g
                      · exact het z (by omega) z2), han, hne⟩ hax (by omega) ha0 he2
                    have c1 : c44 (rsAt I y (a - 1)) = 0 := by
                      unfold c44
                      first
                        | (rw [← f76]; first | rw [if_pos (by omega)] | rw [if_neg (by omega)])
                        | (rw [if_neg (fun g => by have := rsAt_sB I y (a - 1) (by omega); (try dsimp only at this); omega)])
                    have c2 : c44 (rsAt I y e) = 1 := by
                      unfold c44
                      first
                        | (rw [← f109]; first | rw [if_pos (by omega)] | rw [if_neg (by omega)])
                        | (rw [if_neg (fun g => by have := rsAt_sB I y e (by omega); (try dsimp only at this); omega)])
                    rw [c1, c2] at L
                    exact L)
                 | (have hne : ¬ isTx (rsAt I y e) := by
                      first | exact q47 | exact fun g => by have := sB_in (rsAt_sB I y) g; omega
                    have ca : c44 (rsAt I y (a - 1)) = 1 ∨ c44 (rsAt I y (a - 1)) = 0 := by unfold c44; split <;> simp
                    have L := h a e ⟨by omega, fun z z1 z2 => (show isTx (rsAt I y z) by
                      by_cases g : z ≤ x
                      · exact hat z z1 g
                      · exact het z (by omega) z2), han, hne⟩ hax (by omega) ha0 he2
                    have c1 : c44 (rsAt I y (a - 1)) = 0 := by
                      unfold c44
                      first
                        | (rw [← f76]; first | rw [if_pos (by omega)] | rw [if_neg (by omega)])
                        | (rw [if_neg (fun g => by have := rsAt_sB I y (a - 1) (by omega); (try dsimp only at this); omega)])
                    have c2 : c44 (rsAt I y e) = 0 := by
                      unfold c44
                      first
                        | (rw [← f109]; first | rw [if_pos (by omega)] | rw [if_neg (by omega)])
                        | (rw [if_neg (fun g => by have := rsAt_sB I y e (by omega); (try dsimp only at this); omega)])
                    rw [c1, c2] at L
                    exact L)
             · refine w_aload_n dX12_runAt_98 rfl ?_
               refine v_getR (j := 185) dX12_runAt_99 fX12_50 ⟨by decide, rfl⟩ rfl rfl ?_
               refine w_bipush (v := iI 32) dX12_runAt_102 (by decide) ?_
               refine w_iload_n dX12_runAt_104 rfl ?_
               refine v_imul dX12_runAt_105 ?_
               refine w_iload dX12_runAt_106 rfl ?_
               refine v_iadd dX12_runAt_108 ?_
               refine v_iald dX12_runAt_109 ⟨by decide, rfl⟩ (by omega) (by omega) (by decide) (fun z109 e109 b109 => ?_)
               have f109 : z109 = rsAt I y e := by rw [rsAt_in hy (by omega), e109, rd_wr_row (by decide)]
               refine w_bipush (v := iI 44) dX12_runAt_110 (by decide) ?_
               refine v_icmp_ne 119 dX12_runAt_112 (by decide) (by omega) (by omega) (fun c112 => ?_) (fun c112 => ?_)
               · refine w_iconst (v := iI 0) dX12_runAt_119 rfl ?_
                 refine v_putI dX12_runAt_120 fX12_113 ⟨by decide, rfl⟩ rfl (Or.inr ⟨rfl, by decide⟩) ?_
                 refine w_aload_n dX12_runAt_123 rfl ?_
                 refine w_bipush (v := iI 32) dX12_runAt_124 (by decide) ?_
                 refine w_iload_n dX12_runAt_126 rfl ?_
                 refine v_imul dX12_runAt_127 ?_
                 refine w_iload_n dX12_runAt_128 rfl ?_
                 refine v_iadd dX12_runAt_129 ?_
                 refine v_putI dX12_runAt_130 fX12_116 ⟨by decide, rfl⟩ rfl (Or.inl rfl) ?_
                 refine w_aload_n dX12_runAt_133 rfl ?_
                 refine w_bipush (v := iI 32) dX12_runAt_134 (by decide) ?_
                 refine w_iload_n dX12_runAt_136 rfl ?_
                 refine v_imul dX12_runAt_137 ?_
                 refine w_iload dX12_runAt_138 rfl ?_
                 refine v_iadd dX12_runAt_140 ?_
                 refine v_putI dX12_runAt_141 fX12_119 ⟨by decide, rfl⟩ rfl (Or.inl rfl) ?_
                 refine v_vret dX12_runAt_144 rfl ⟨rfl, rfl⟩ ?_
                 first
                   | (exfalso; omega)
                   | (have hne : ¬ isTx (rsAt I y e) := by
                        first | exact q47 | exact fun g => by have := sB_in (rsAt_sB I y) g; omega
                      have ca : c44 (rsAt I y (a - 1)) = 1 ∨ c44 (rsAt I y (a - 1)) = 0 := by unfold c44; split <;> simp
                      have L := h a e ⟨by omega, fun z z1 z2 => (show isTx (rsAt I y z) by
                        by_cases g : z ≤ x
                        · exact hat z z1 g
                        · exact het z (by omega) z2), han, hne⟩ hax (by omega) ha0 he2
                      have c1 : c44 (rsAt I y (a - 1)) = 1 := by
                        unfold c44
                        first
                          | (rw [← f76]; first | rw [if_pos (by omega)] | rw [if_neg (by omega)])
                          | (rw [if_neg (fun g => by have := rsAt_sB I y (a - 1) (by omega); (try dsimp only at this); omega)])
                      have c2 : c44 (rsAt I y e) = 1 := by
                        unfold c44
                        first
                          | (rw [← f109]; first | rw [if_pos (by omega)] | rw [if_neg (by omega)])
                          | (rw [if_neg (fun g => by have := rsAt_sB I y e (by omega); (try dsimp only at this); omega)])
                      rw [c1, c2] at L
                      exact L)
                   | (have hne : ¬ isTx (rsAt I y e) := by
                        first | exact q47 | exact fun g => by have := sB_in (rsAt_sB I y) g; omega
                      have ca : c44 (rsAt I y (a - 1)) = 1 ∨ c44 (rsAt I y (a - 1)) = 0 := by unfold c44; split <;> simp
                      have L := h a e ⟨by omega, fun z z1 z2 => (show isTx (rsAt I y z) by
                        by_cases g : z ≤ x
                        · exact hat z z1 g
                        · exact het z (by omega) z2), han, hne⟩ hax (by omega) ha0 he2
                      have c1 : c44 (rsAt I y (a - 1)) = 1 := by
                        unfold c44
                        first
                          | (rw [← f76]; first | rw [if_pos (by omega)] | rw [if_neg (by omega)])
                          | (rw [if_neg (fun g => by have := rsAt_sB I y (a - 1) (by omega); (try dsimp only at this); omega)])
                      have c2 : c44 (rsAt I y e) = 0 := by
                        unfold c44
                        first
                          | (rw [← f109]; first | rw [if_pos (by omega)] | rw [if_neg (by omega)])
                          | (rw [if_neg (fun g => by have := rsAt_sB I y e (by omega); (try dsimp only at this); omega)])
                      rw [c1, c2] at L
                      exact L)
                   | (have hne : ¬ isTx (rsAt I y e) := by
                        first | exact q47 | exact fun g => by have := sB_in (rsAt_sB I y) g; omega
                      have ca : c44 (rsAt I y (a - 1)) = 1 ∨ c44 (rsAt I y (a - 1)) = 0 := by unfold c44; split <;> simp
                      have L := h a e ⟨by omega, fun z z1 z2 => (show isTx (rsAt I y z) by
                        by_cases g : z ≤ x
                        · exact hat z z1 g
                        · exact het z (by omega) z2), han, hne⟩ hax (by omega) ha0 he2
                      have c1 : c44 (rsAt I y (a - 1)) = 0 := by
                        unfold c44
                        first
                          | (rw [← f76]; first | rw [if_pos (by omega)] | rw [if_neg (by omega)])
                          | (rw [if_neg (fun g => by have := rsAt_sB I y (a - 1) (by omega); (try dsimp only at this); omega)])
                      have c2 : c44 (rsAt I y e) = 1 := by
                        unfold c44
                        first
                          | (rw [← f109]; first | rw [if_pos (by omega)] | rw [if_neg (by omega)])
                          | (rw [if_neg (fun g => by have := rsAt_sB I y e (by omega); (try dsimp only at this); omega)])
                      rw [c1, c2] at L
                      exact L)
                   | (have hne : ¬ isTx (rsAt I y e) := by
                        first | exact q47 | exact fun g => by have := sB_in (rsAt_sB I y) g; omega
                      have ca : c44 (rsAt I y (a - 1)) = 1 ∨ c44 (rsAt I y (a - 1)) = 0 := by unfold c44; split <;> simp
                      have L := h a e ⟨by omega, fun z z1 z2 => (show isTx (rsAt I y z) by
                        by_cases g : z ≤ x
                        · exact hat z z1 g
                        · exact het z (by omega) z2), han, hne⟩ hax (by omega) ha0 he2
                      have c1 : c44 (rsAt I y (a - 1)) = 0 := by
                        unfold c44
                        first
                          | (rw [← f76]; first | rw [if_pos (by omega)] | rw [if_neg (by omega)])
                          | (rw [if_neg (fun g => by have := rsAt_sB I y (a - 1) (by omega); (try dsimp only at this); omega)])
                      have c2 : c44 (rsAt I y e) = 0 := by
                        unfold c44
                        first
                          | (rw [← f109]; first | rw [if_pos (by omega)] | rw [if_neg (by omega)])
                          | (rw [if_neg (fun g => by have := rsAt_sB I y e (by omega); (try dsimp only at this); omega)])
                      rw [c1, c2] at L
                      exact L)
               · refine w_iconst (v := iI 1) dX12_runAt_115 rfl ?_
                 refine w_goto 120 dX12_runAt_116 (by decide) ?_
                 refine v_putI dX12_runAt_120 fX12_113 ⟨by decide, rfl⟩ rfl (Or.inr ⟨rfl, by decide⟩) ?_
                 refine w_aload_n dX12_runAt_123 rfl ?_
                 refine w_bipush (v := iI 32) dX12_runAt_124 (by decide) ?_
                 refine w_iload_n dX12_runAt_126 rfl ?_
                 refine v_imul dX12_runAt_127 ?_
                 refine w_iload_n dX12_runAt_128 rfl ?_
                 refine v_iadd dX12_runAt_129 ?_
                 refine v_putI dX12_runAt_130 fX12_116 ⟨by decide, rfl⟩ rfl (Or.inl rfl) ?_
                 refine w_aload_n dX12_runAt_133 rfl ?_
                 refine w_bipush (v := iI 32) dX12_runAt_134 (by decide) ?_
                 refine w_iload_n dX12_runAt_136 rfl ?_
                 refine v_imul dX12_runAt_137 ?_
                 refine w_iload dX12_runAt_138 rfl ?_
                 refine v_iadd dX12_runAt_140 ?_
                 refine v_putI dX12_runAt_141 fX12_119 ⟨by decide, rfl⟩ rfl (Or.inl rfl) ?_
                 refine v_vret dX12_runAt_144 rfl ⟨rfl, rfl⟩ ?_
                 first
                   | (exfalso; omega)
                   | (have hne : ¬ isTx (rsAt I y e) := by
                        first | exact q47 | exact fun g => by have := sB_in (rsAt_sB I y) g; omega
                      have ca : c44 (rsAt I y (a - 1)) = 1 ∨ c44 (rsAt I y (a - 1)) = 0 := by unfold c44; split <;> simp
                      have L := h a e ⟨by omega, fun z z1 z2 => (show isTx (rsAt I y z) by
                        by_cases g : z ≤ x
                        · exact hat z z1 g
                        · exact het z (by omega) z2), han, hne⟩ hax (by omega) ha0 he2
                      have c1 : c44 (rsAt I y (a - 1)) = 1 := by
                        unfold c44
                        first
                          | (rw [← f76]; first | rw [if_pos (by omega)] | rw [if_neg (by omega)])
                          | (rw [if_neg (fun g => by have := rsAt_sB I y (a - 1) (by omega); (try dsimp only at this); omega)])
                      have c2 : c44 (rsAt I y e) = 1 := by
                        unfold c44
                        first
                          | (rw [← f109]; first | rw [if_pos (by omega)] | rw [if_neg (by omega)])
                          | (rw [if_neg (fun g => by have := rsAt_sB I y e (by omega); (try dsimp only at this); omega)])
                      rw [c1, c2] at L
                      exact L)
                   | (have hne : ¬ isTx (rsAt I y e) := by
                        first | exact q47 | exact fun g => by have := sB_in (rsAt_sB I y) g; omega
                      have ca : c44 (rsAt I y (a - 1)) = 1 ∨ c44 (rsAt I y (a - 1)) = 0 := by unfold c44; split <;> simp
                      have L := h a e ⟨by omega, fun z z1 z2 => (show isTx (rsAt I y z) by
                        by_cases g : z ≤ x
                        · exact hat z z1 g
                        · exact het z (by omega) z2), han, hne⟩ hax (by omega) ha0 he2
                      have c1 : c44 (rsAt I y (a - 1)) = 1 := by
                        unfold c44
                        first
                          | (rw [← f76]; first | rw [if_pos (by omega)] | rw [if_neg (by omega)])
                          | (rw [if_neg (fun g => by have := rsAt_sB I y (a - 1) (by omega); (try dsimp only at this); omega)])
                      have c2 : c44 (rsAt I y e) = 0 := by
                        unfold c44
                        first
                          | (rw [← f109]; first | rw [if_pos (by omega)] | rw [if_neg (by omega)])
                          | (rw [if_neg (fun g => by have := rsAt_sB I y e (by omega); (try dsimp only at this); omega)])
                      rw [c1, c2] at L
                      exact L)
                   | (have hne : ¬ isTx (rsAt I y e) := by
                        first | exact q47 | exact fun g => by have := sB_in (rsAt_sB I y) g; omega
                      have ca : c44 (rsAt I y (a - 1)) = 1 ∨ c44 (rsAt I y (a - 1)) = 0 := by unfold c44; split <;> simp
                      have L := h a e ⟨by omega, fun z z1 z2 => (show isTx (rsAt I y z) by
                        by_cases g : z ≤ x
                        · exact hat z z1 g
                        · exact het z (by omega) z2), han, hne⟩ hax (by omega) ha0 he2
                      have c1 : c44 (rsAt I y (a - 1)) = 0 := by
                        unfold c44
                        first
                          | (rw [← f76]; first | rw [if_pos (by omega)] | rw [if_neg (by omega)])
                          | (rw [if_neg (fun g => by have := rsAt_sB I y (a - 1) (by omega); (try dsimp only at this); omega)])
                      have c2 : c44 (rsAt I y e) = 1 := by
                        unfold c44
                        first
                          | (rw [← f109]; first | rw [if_pos (by omega)] | rw [if_neg (by omega)])
                          | (rw [if_neg (fun g => by have := rsAt_sB I y e (by omega); (try dsimp only at this); omega)])
                      rw [c1, c2] at L
                      exact L)
                   | (have hne : ¬ isTx (rsAt I y e) := by
                        first | exact q47 | exact fun g => by have := sB_in (rsAt_sB I y) g; omega
                      have ca : c44 (rsAt I y (a - 1)) = 1 ∨ c44 (rsAt I y (a - 1)) = 0 := by unfold c44; split <;> simp
                      have L := h a e ⟨by omega, fun z z1 z2 => (show isTx (rsAt I y z) by
                        by_cases g : z ≤ x
                        · exact hat z z1 g
                        · exact het z (by omega) z2), han, hne⟩ hax (by omega) ha0 he2
                      have c1 : c44 (rsAt I y (a - 1)) = 0 := by
                        unfold c44
                        first
                          | (rw [← f76]; first | rw [if_pos (by omega)] | rw [if_neg (by omega)])
                          | (rw [if_neg (fun g => by have := rsAt_sB I y (a - 1) (by omega); (try dsimp only at this); omega)])
                      have c2 : c44 (rsAt I y e) = 0 := by
                        unfold c44
                        first
                          | (rw [← f109]; first | rw [if_pos (by omega)] | rw [if_neg (by omega)])
                          | (rw [if_neg (fun g => by have := rsAt_sB I y e (by omega); (try dsimp only at this); omega)])
                      rw [c1, c2] at L
                      exact L))
      · first
          | (exfalso; omega)
          | (refine w_aload_n dX12_runAt_64 rfl ?_
             refine v_getR (j := 185) dX12_runAt_65 fX12_50 ⟨by decide, rfl⟩ rfl rfl ?_
             refine w_bipush (v := iI 32) dX12_runAt_68 (by decide) ?_
             refine w_iload_n dX12_runAt_70 rfl ?_
             refine v_imul dX12_runAt_71 ?_
             refine w_iload_n dX12_runAt_72 rfl ?_
             refine v_iadd dX12_runAt_73 ?_
             refine w_iconst (v := iI 1) dX12_runAt_74 rfl ?_
             refine v_isub dX12_runAt_75 ?_
             refine v_iald dX12_runAt_76 ⟨by decide, rfl⟩ (by omega) (by omega) (by decide) (fun z76 e76 b76 => ?_)
             have f76 : z76 = rsAt I y (a - 1) := by rw [rsAt_in hy (by omega), e76]; congr 2; omega
             refine w_bipush (v := iI 44) dX12_runAt_77 (by decide) ?_
             refine v_icmp_ne 86 dX12_runAt_79 (by decide) (by omega) (by omega) (fun c79 => ?_) (fun c79 => ?_)
             · refine w_iconst (v := iI 0) dX12_runAt_86 rfl ?_
               refine v_putI dX12_runAt_87 fX12_109 ⟨by decide, rfl⟩ rfl (Or.inr ⟨rfl, by decide⟩) ?_
               refine w_aload_n dX12_runAt_90 rfl ?_
               refine w_iload dX12_runAt_91 rfl ?_
               refine w_bipush (v := iI 32) dX12_runAt_93 (by decide) ?_
               refine v_icmp_ge 119 dX12_runAt_95 (by decide) (by omega) (by omega) (fun c95 => ?_) (fun c95 => ?_)
               · refine w_iconst (v := iI 0) dX12_runAt_119 rfl ?_
                 refine v_putI dX12_runAt_120 fX12_113 ⟨by decide, rfl⟩ rfl (Or.inr ⟨rfl, by decide⟩) ?_
                 refine w_aload_n dX12_runAt_123 rfl ?_
                 refine w_bipush (v := iI 32) dX12_runAt_124 (by decide) ?_
                 refine w_iload_n dX12_runAt_126 rfl ?_
                 refine v_imul dX12_runAt_127 ?_
                 refine w_iload_n dX12_runAt_128 rfl ?_
                 refine v_iadd dX12_runAt_129 ?_
                 refine v_putI dX12_runAt_130 fX12_116 ⟨by decide, rfl⟩ rfl (Or.inl rfl) ?_
                 refine w_aload_n dX12_runAt_133 rfl ?_
                 refine w_bipush (v := iI 32) dX12_runAt_134 (by decide) ?_
                 refine w_iload_n dX12_runAt_136 rfl ?_
                 refine v_imul dX12_runAt_137 ?_
                 refine w_iload dX12_runAt_138 rfl ?_
                 refine v_iadd dX12_runAt_140 ?_
                 refine v_putI dX12_runAt_141 fX12_119 ⟨by decide, rfl⟩ rfl (Or.inl rfl) ?_
                 refine v_vret dX12_runAt_144 rfl ⟨rfl, rfl⟩ ?_
                 first
                   | (exfalso; omega)
                   | (have hne : ¬ isTx (rsAt I y e) := by
                        first | exact q47 | exact fun g => by have := sB_in (rsAt_sB I y) g; omega
                      have ca : c44 (rsAt I y (a - 1)) = 1 ∨ c44 (rsAt I y (a - 1)) = 0 := by unfold c44; split <;> simp
                      have L := h a e ⟨by omega, fun z z1 z2 => (show isTx (rsAt I y z) by
                        by_cases g : z ≤ x
                        · exact hat z z1 g
                        · exact het z (by omega) z2), han, hne⟩ hax (by omega) ha0 he2
                      have c1 : c44 (rsAt I y (a - 1)) = 1 := by
                        unfold c44
                        first
                          | (rw [← f76]; first | rw [if_pos (by omega)] | rw [if_neg (by omega)])
                          | (rw [if_neg (fun g => by have := rsAt_sB I y (a - 1) (by omega); (try dsimp only at this); omega)])
                      have c2 : c44 (rsAt I y e) = 1 := by
                        unfold c44
                        first
                          | (rw [← f109]; first | rw [if_pos (by omega)] | rw [if_neg (by omega)])
                          | (rw [if_neg (fun g => by have := rsAt_sB I y e (by omega); (try dsimp only at this); omega)])
                      rw [c1, c2] at L
                      exact L)
                   | (have hne : ¬ isTx (rsAt I y e) := by
                        first | exact q47 | exact fun g => by have := sB_in (rsAt_sB I y) g; omega
                      have ca : c44 (rsAt I y (a - 1)) = 1 ∨ c44 (rsAt I y (a - 1)) = 0 := by unfold c44; split <;> simp
                      have L := h a e ⟨by omega, fun z z1 z2 => (show isTx (rsAt I y z) by
                        by_cases g : z ≤ x
                        · exact hat z z1 g
                        · exact het z (by omega) z2), han, hne⟩ hax (by omega) ha0 he2
                      have c1 : c44 (rsAt I y (a - 1)) = 1 := by
                        unfold c44
                        first
                          | (rw [← f76]; first | rw [if_pos (by omega)] | rw [if_neg (by omega)])
                          | (rw [if_neg (fun g => by have := rsAt_sB I y (a - 1) (by omega); (try dsimp only at this); omega)])
                      have c2 : c44 (rsAt I y e) = 0 := by
                        unfold c44
                        first
                          | (rw [← f109]; first | rw [if_pos (by omega)] | rw [if_neg (by omega)])
                          | (rw [if_neg (fun g => by have := rsAt_sB I y e (by omega); (try dsimp only at this); omega)])
                      rw [c1, c2] at L
                      exact L)
                   | (have hne : ¬ isTx (rsAt I y e) := by
                        first | exact q47 | exact fun g => by have := sB_in (rsAt_sB I y) g; omega
                      have ca : c44 (rsAt I y (a - 1)) = 1 ∨ c44 (rsAt I y (a - 1)) = 0 := by unfold c44; split <;> simp
                      have L := h a e ⟨by omega, fun z z1 z2 => (show isTx (rsAt I y z) by
                        by_cases g : z ≤ x
                        · exact hat z z1 g
                        · exact het z (by omega) z2), han, hne⟩ hax (by omega) ha0 he2
                      have c1 : c44 (rsAt I y (a - 1)) = 0 := by
                        unfold c44
                        first
                          | (rw [← f76]; first | rw [if_pos (by omega)] | rw [if_neg (by omega)])
                          | (rw [if_neg (fun g => by have := rsAt_sB I y (a - 1) (by omega); (try dsimp only at this); omega)])
                      have c2 : c44 (rsAt I y e) = 1 := by
                        unfold c44
                        first
                          | (rw [← f109]; first | rw [if_pos (by omega)] | rw [if_neg (by omega)])
                          | (rw [if_neg (fun g => by have := rsAt_sB I y e (by omega); (try dsimp only at this); omega)])
                      rw [c1, c2] at L
                      exact L)
                   | (have hne : ¬ isTx (rsAt I y e) := by
                        first | exact q47 | exact fun g => by have := sB_in (rsAt_sB I y) g; omega
                      have ca : c44 (rsAt I y (a - 1)) = 1 ∨ c44 (rsAt I y (a - 1)) = 0 := by unfold c44; split <;> simp
                      have L := h a e ⟨by omega, fun z z1 z2 => (show isTx (rsAt I y z) by
                        by_cases g : z ≤ x
                        · exact hat z z1 g
                        · exact het z (by omega) z2), han, hne⟩ hax (by omega) ha0 he2
                      have c1 : c44 (rsAt I y (a - 1)) = 0 := by
                        unfold c44
                        first
                          | (rw [← f76]; first | rw [if_pos (by omega)] | rw [if_neg (by omega)])
                          | (rw [if_neg (fun g => by have := rsAt_sB I y (a - 1) (by omega); (try dsimp only at this); omega)])
                      have c2 : c44 (rsAt I y e) = 0 := by
                        unfold c44
                        first
                          | (rw [← f109]; first | rw [if_pos (by omega)] | rw [if_neg (by omega)])
                          | (rw [if_neg (fun g => by have := rsAt_sB I y e (by omega); (try dsimp only at this); omega)])
                      rw [c1, c2] at L
                      exact L)
               · refine w_aload_n dX12_runAt_98 rfl ?_
                 refine v_getR (j := 185) dX12_runAt_99 fX12_50 ⟨by decide, rfl⟩ rfl rfl ?_
                 refine w_bipush (v := iI 32) dX12_runAt_102 (by decide) ?_
                 refine w_iload_n dX12_runAt_104 rfl ?_
                 refine v_imul dX12_runAt_105 ?_
                 refine w_iload dX12_runAt_106 rfl ?_
                 refine v_iadd dX12_runAt_108 ?_
                 refine v_iald dX12_runAt_109 ⟨by decide, rfl⟩ (by omega) (by omega) (by decide) (fun z109 e109 b109 => ?_)
                 have f109 : z109 = rsAt I y e := by rw [rsAt_in hy (by omega), e109, rd_wr_row (by decide)]
                 refine w_bipush (v := iI 44) dX12_runAt_110 (by decide) ?_
                 refine v_icmp_ne 119 dX12_runAt_112 (by decide) (by omega) (by omega) (fun c112 => ?_) (fun c112 => ?_)
                 · refine w_iconst (v := iI 0) dX12_runAt_119 rfl ?_
                   refine v_putI dX12_runAt_120 fX12_113 ⟨by decide, rfl⟩ rfl (Or.inr ⟨rfl, by decide⟩) ?_
                   refine w_aload_n dX12_runAt_123 rfl ?_
                   refine w_bipush (v := iI 32) dX12_runAt_124 (by decide) ?_
                   refine w_iload_n dX12_runAt_126 rfl ?_
                   refine v_imul dX12_runAt_127 ?_
                   refine w_iload_n dX12_runAt_128 rfl ?_
                   refine v_iadd dX12_runAt_129 ?_
                   refine v_putI dX12_runAt_130 fX12_116 ⟨by decide, rfl⟩ rfl (Or.inl rfl) ?_
                   refine w_aload_n dX12_runAt_133 rfl ?_
                   refine w_bipush (v := iI 32) dX12_runAt_134 (by decide) ?_
                   refine w_iload_n dX12_runAt_136 rfl ?_
                   refine v_imul dX12_runAt_137 ?_
                   refine w_iload dX12_runAt_138 rfl ?_
                   refine v_iadd dX12_runAt_140 ?_
                   refine v_putI dX12_runAt_141 fX12_119 ⟨by decide, rfl⟩ rfl (Or.inl rfl) ?_
                   refine v_vret dX12_runAt_144 rfl ⟨rfl, rfl⟩ ?_
                   first
                     | (exfalso; omega)
                     | (have hne : ¬ isTx (rsAt I y e) := by
                          first | exact q47 | exact fun g => by have := sB_in (rsAt_sB I y) g; omega
                        have ca : c44 (rsAt I y (a - 1)) = 1 ∨ c44 (rsAt I y (a - 1)) = 0 := by unfold c44; split <;> simp
                        have L := h a e ⟨by omega, fun z z1 z2 => (show isTx (rsAt I y z) by
                          by_cases g : z ≤ x
                          · exact hat z z1 g
                          · exact het z (by omega) z2), han, hne⟩ hax (by omega) ha0 he2
                        have c1 : c44 (rsAt I y (a - 1)) = 1 := by
                          unfold c44
                          first
                            | (rw [← f76]; first | rw [if_pos (by omega)] | rw [if_neg (by omega)])
                            | (rw [if_neg (fun g => by have := rsAt_sB I y (a - 1) (by omega); (try dsimp only at this); omega)])
                        have c2 : c44 (rsAt I y e) = 1 := by
                          unfold c44
                          first
                            | (rw [← f109]; first | rw [if_pos (by omega)] | rw [if_neg (by omega)])
                            | (rw [if_neg (fun g => by have := rsAt_sB I y e (by omega); (try dsimp only at this); omega)])
                        rw [c1, c2] at L
                        exact L)
                     | (have hne : ¬ isTx (rsAt I y e) := by
                          first | exact q47 | exact fun g => by have := sB_in (rsAt_sB I y) g; omega
                        have ca : c44 (rsAt I y (a - 1)) = 1 ∨ c44 (rsAt I y (a - 1)) = 0 := by unfold c44; split <;> simp
                        have L := h a e ⟨by omega, fun z z1 z2 => (show isTx (rsAt I y z) by
                          by_cases g : z ≤ x
                          · exact hat z z1 g
                          · exact het z (by omega) z2), han, hne⟩ hax (by omega) ha0 he2
                        have c1 : c44 (rsAt I y (a - 1)) = 1 := by
                          unfold c44
                          first
                            | (rw [← f76]; first | rw [if_pos (by omega)] | rw [if_neg (by omega)])
                            | (rw [if_neg (fun g => by have := rsAt_sB I y (a - 1) (by omega); (try dsimp only at this); omega)])
                        have c2 : c44 (rsAt I y e) = 0 := by
                          unfold c44
                          first
                            | (rw [← f109]; first | rw [if_pos (by omega)] | rw [if_neg (by omega)])
                            | (rw [if_neg (fun g => by have := rsAt_sB I y e (by omega); (try dsimp only at this); omega)])
                        rw [c1, c2] at L
                        exact L)
                     | (have hne : ¬ isTx (rsAt I y e) := by
                          first | exact q47 | exact fun g => by have := sB_in (rsAt_sB I y) g; omega
                        have ca : c44 (rsAt I y (a - 1)) = 1 ∨ c44 (rsAt I y (a - 1)) = 0 := by unfold c44; split <;> simp
                        have L := h a e ⟨by omega, fun z z1 z2 => (show isTx (rsAt I y z) by
                          by_cases g : z ≤ x
                          · exact hat z z1 g
                          · exact het z (by omega) z2), han, hne⟩ hax (by omega) ha0 he2
                        have c1 : c44 (rsAt I y (a - 1)) = 0 := by
                          unfold c44
                          first
                            | (rw [← f76]; first | rw [if_pos (by omega)] | rw [if_neg (by omega)])
                            | (rw [if_neg (fun g => by have := rsAt_sB I y (a - 1) (by omega); (try dsimp only at this); omega)])
                        have c2 : c44 (rsAt I y e) = 1 := by
                          unfold c44
                          first
                            | (rw [← f109]; first | rw [if_pos (by omega)] | rw [if_neg (by omega)])
                            | (rw [if_neg (fun g => by have := rsAt_sB I y e (by omega); (try dsimp only at this); omega)])
                        rw [c1, c2] at L
                        exact L)
                     | (have hne : ¬ isTx (rsAt I y e) := by
                          first | exact q47 | exact fun g => by have := sB_in (rsAt_sB I y) g; omega
                        have ca : c44 (rsAt I y (a - 1)) = 1 ∨ c44 (rsAt I y (a - 1)) = 0 := by unfold c44; split <;> simp
                        have L := h a e ⟨by omega, fun z z1 z2 => (show isTx (rsAt I y z) by
                          by_cases g : z ≤ x
                          · exact hat z z1 g
                          · exact het z (by omega) z2), han, hne⟩ hax (by omega) ha0 he2
                        have c1 : c44 (rsAt I y (a - 1)) = 0 := by
                          unfold c44
                          first
                            | (rw [← f76]; first | rw [if_pos (by omega)] | rw [if_neg (by omega)])
                            | (rw [if_neg (fun g => by have := rsAt_sB I y (a - 1) (by omega); (try dsimp only at this); omega)])
                        have c2 : c44 (rsAt I y e) = 0 := by
                          unfold c44
                          first
                            | (rw [← f109]; first | rw [if_pos (by omega)] | rw [if_neg (by omega)])
                            | (rw [if_neg (fun g => by have := rsAt_sB I y e (by omega); (try dsimp only at this); omega)])
                        rw [c1, c2] at L
                        exact L)
                 · refine w_iconst (v := iI 1) dX12_runAt_115 rfl ?_
                   refine w_goto 120 dX12_runAt_116 (by decide) ?_
                   refine v_putI dX12_runAt_120 fX12_113 ⟨by decide, rfl⟩ rfl (Or.inr ⟨rfl, by decide⟩) ?_
                   refine w_aload_n dX12_runAt_123 rfl ?_
                   refine w_bipush (v := iI 32) dX12_runAt_124 (by decide) ?_
                   refine w_iload_n dX12_runAt_126 rfl ?_
                   refine v_imul dX12_runAt_127 ?_
                   refine w_iload_n dX12_runAt_128 rfl ?_
                   refine v_iadd dX12_runAt_129 ?_
                   refine v_putI dX12_runAt_130 fX12_116 ⟨by decide, rfl⟩ rfl (Or.inl rfl) ?_
                   refine w_aload_n dX12_runAt_133 rfl ?_
                   refine w_bipush (v := iI 32) dX12_runAt_134 (by decide) ?_
                   refine w_iload_n dX12_runAt_136 rfl ?_
                   refine v_imul dX12_runAt_137 ?_
                   refine w_iload dX12_runAt_138 rfl ?_
                   refine v_iadd dX12_runAt_140 ?_
                   refine v_putI dX12_runAt_141 fX12_119 ⟨by decide, rfl⟩ rfl (Or.inl rfl) ?_
                   refine v_vret dX12_runAt_144 rfl ⟨rfl, rfl⟩ ?_
                   first
                     | (exfalso; omega)
                     | (have hne : ¬ isTx (rsAt I y e) := by
                          first | exact q47 | exact fun g => by have := sB_in (rsAt_sB I y) g; omega
                        have ca : c44 (rsAt I y (a - 1)) = 1 ∨ c44 (rsAt I y (a - 1)) = 0 := by unfold c44; split <;> simp
                        have L := h a e ⟨by omega, fun z z1 z2 => (show isTx (rsAt I y z) by
                          by_cases g : z ≤ x
                          · exact hat z z1 g
                          · exact het z (by omega) z2), han, hne⟩ hax (by omega) ha0 he2
                        have c1 : c44 (rsAt I y (a - 1)) = 1 := by
                          unfold c44
                          first
                            | (rw [← f76]; first | rw [if_pos (by omega)] | rw [if_neg (by omega)])
                            | (rw [if_neg (fun g => by have := rsAt_sB I y (a - 1) (by omega); (try dsimp only at this); omega)])
                        have c2 : c44 (rsAt I y e) = 1 := by
                          unfold c44
                          first
                            | (rw [← f109]; first | rw [if_pos (by omega)] | rw [if_neg (by omega)])
                            | (rw [if_neg (fun g => by have := rsAt_sB I y e (by omega); (try dsimp only at this); omega)])
                        rw [c1, c2] at L
                        exact L)
                     | (have hne : ¬ isTx (rsAt I y e) := by
                          first | exact q47 | exact fun g => by have := sB_in (rsAt_sB I y) g; omega
                        have ca : c44 (rsAt I y (a - 1)) = 1 ∨ c44 (rsAt I y (a - 1)) = 0 := by unfold c44; split <;> simp
                        have L := h a e ⟨by omega, fun z z1 z2 => (show isTx (rsAt I y z) by
                          by_cases g : z ≤ x
                          · exact hat z z1 g
                          · exact het z (by omega) z2), han, hne⟩ hax (by omega) ha0 he2
                        have c1 : c44 (rsAt I y (a - 1)) = 1 := by
                          unfold c44
                          first
                            | (rw [← f76]; first | rw [if_pos (by omega)] | rw [if_neg (by omega)])
                            | (rw [if_neg (fun g => by have := rsAt_sB I y (a - 1) (by omega); (try dsimp only at this); omega)])
                        have c2 : c44 (rsAt I y e) = 0 := by
                          unfold c44
                          first
                            | (rw [← f109]; first | rw [if_pos (by omega)] | rw [if_neg (by omega)])
                            | (rw [if_neg (fun g => by have := rsAt_sB I y e (by omega); (try dsimp only at this); omega)])
                        rw [c1, c2] at L
                        exact L)
                     | (have hne : ¬ isTx (rsAt I y e) := by
                          first | exact q47 | exact fun g => by have := sB_in (rsAt_sB I y) g; omega
                        have ca : c44 (rsAt I y (a - 1)) = 1 ∨ c44 (rsAt I y (a - 1)) = 0 := by unfold c44; split <;> simp
                        have L := h a e ⟨by omega, fun z z1 z2 => (show isTx (rsAt I y z) by
                          by_cases g : z ≤ x
                          · exact hat z z1 g
                          · exact het z (by omega) z2), han, hne⟩ hax (by omega) ha0 he2
                        have c1 : c44 (rsAt I y (a - 1)) = 0 := by
                          unfold c44
                          first
                            | (rw [← f76]; first | rw [if_pos (by omega)] | rw [if_neg (by omega)])
                            | (rw [if_neg (fun g => by have := rsAt_sB I y (a - 1) (by omega); (try dsimp only at this); omega)])
                        have c2 : c44 (rsAt I y e) = 1 := by
                          unfold c44
                          first
                            | (rw [← f109]; first | rw [if_pos (by omega)] | rw [if_neg (by omega)])
                            | (rw [if_neg (fun g => by have := rsAt_sB I y e (by omega); (try dsimp only at this); omega)])
                        rw [c1, c2] at L
                        exact L)
                     | (have hne : ¬ isTx (rsAt I y e) := by
                          first | exact q47 | exact fun g => by have := sB_in (rsAt_sB I y) g; omega
                        have ca : c44 (rsAt I y (a - 1)) = 1 ∨ c44 (rsAt I y (a - 1)) = 0 := by unfold c44; split <;> simp
                        have L := h a e ⟨by omega, fun z z1 z2 => (show isTx (rsAt I y z) by
                          by_cases g : z ≤ x
                          · exact hat z z1 g
                          · exact het z (by omega) z2), han, hne⟩ hax (by omega) ha0 he2
                        have c1 : c44 (rsAt I y (a - 1)) = 0 := by
                          unfold c44
                          first
                            | (rw [← f76]; first | rw [if_pos (by omega)] | rw [if_neg (by omega)])
                            | (rw [if_neg (fun g => by have := rsAt_sB I y (a - 1) (by omega); (try dsimp only at this); omega)])
                        have c2 : c44 (rsAt I y e) = 0 := by
                          unfold c44
                          first
                            | (rw [← f109]; first | rw [if_pos (by omega)] | rw [if_neg (by omega)])
                            | (rw [if_neg (fun g => by have := rsAt_sB I y e (by omega); (try dsimp only at this); omega)])
                        rw [c1, c2] at L
                        exact L)
             · refine w_iconst (v := iI 1) dX12_runAt_82 rfl ?_
               refine w_goto 87 dX12_runAt_83 (by decide) ?_
               refine v_putI dX12_runAt_87 fX12_109 ⟨by decide, rfl⟩ rfl (Or.inr ⟨rfl, by decide⟩) ?_
               refine w_aload_n dX12_runAt_90 rfl ?_
               refine w_iload dX12_runAt_91 rfl ?_
               refine w_bipush (v := iI 32) dX12_runAt_93 (by decide) ?_
               refine v_icmp_ge 119 dX12_runAt_95 (by decide) (by omega) (by omega) (fun c95 => ?_) (fun c95 => ?_)
               · refine w_iconst (v := iI 0) dX12_runAt_119 rfl ?_
                 refine v_putI dX12_runAt_120 fX12_113 ⟨by decide, rfl⟩ rfl (Or.inr ⟨rfl, by decide⟩) ?_
                 refine w_aload_n dX12_runAt_123 rfl ?_
                 refine w_bipush (v := iI 32) dX12_runAt_124 (by decide) ?_
                 refine w_iload_n dX12_runAt_126 rfl ?_
                 refine v_imul dX12_runAt_127 ?_
                 refine w_iload_n dX12_runAt_128 rfl ?_
                 refine v_iadd dX12_runAt_129 ?_
                 refine v_putI dX12_runAt_130 fX12_116 ⟨by decide, rfl⟩ rfl (Or.inl rfl) ?_
                 refine w_aload_n dX12_runAt_133 rfl ?_
                 refine w_bipush (v := iI 32) dX12_runAt_134 (by decide) ?_
                 refine w_iload_n dX12_runAt_136 rfl ?_
                 refine v_imul dX12_runAt_137 ?_
                 refine w_iload dX12_runAt_138 rfl ?_
                 refine v_iadd dX12_runAt_140 ?_
                 refine v_putI dX12_runAt_141 fX12_119 ⟨by decide, rfl⟩ rfl (Or.inl rfl) ?_
                 refine v_vret dX12_runAt_144 rfl ⟨rfl, rfl⟩ ?_
                 first
                   | (exfalso; omega)
                   | (have hne : ¬ isTx (rsAt I y e) := by
                        first | exact q47 | exact fun g => by have := sB_in (rsAt_sB I y) g; omega
                      have ca : c44 (rsAt I y (a - 1)) = 1 ∨ c44 (rsAt I y (a - 1)) = 0 := by unfold c44; split <;> simp
                      have L := h a e ⟨by omega, fun z z1 z2 => (show isTx (rsAt I y z) by
                        by_cases g : z ≤ x
                        · exact hat z z1 g
                        · exact het z (by omega) z2), han, hne⟩ hax (by omega) ha0 he2
                      have c1 : c44 (rsAt I y (a - 1)) = 1 := by
                        unfold c44
                        first
                          | (rw [← f76]; first | rw [if_pos (by omega)] | rw [if_neg (by omega)])
                          | (rw [if_neg (fun g => by have := rsAt_sB I y (a - 1) (by omega); (try dsimp only at this); omega)])
                      have c2 : c44 (rsAt I y e) = 1 := by
                        unfold c44
                        first
                          | (rw [← f109]; first | rw [if_pos (by omega)] | rw [if_neg (by omega)])
                          | (rw [if_neg (fun g => by have := rsAt_sB I y e (by omega); (try dsimp only at this); omega)])
                      rw [c1, c2] at L
                      exact L)
                   | (have hne : ¬ isTx (rsAt I y e) := by
                        first | exact q47 | exact fun g => by have := sB_in (rsAt_sB I y) g; omega
                      have ca : c44 (rsAt I y (a - 1)) = 1 ∨ c44 (rsAt I y (a - 1)) = 0 := by unfold c44; split <;> simp
                      have L := h a e ⟨by omega, fun z z1 z2 => (show isTx (rsAt I y z) by
                        by_cases g : z ≤ x
                        · exact hat z z1 g
                        · exact het z (by omega) z2), han, hne⟩ hax (by omega) ha0 he2
                      have c1 : c44 (rsAt I y (a - 1)) = 1 := by
                        unfold c44
                        first
                          | (rw [← f76]; first | rw [if_pos (by omega)] | rw [if_neg (by omega)])
                          | (rw [if_neg (fun g => by have := rsAt_sB I y (a - 1) (by omega); (try dsimp only at this); omega)])
                      have c2 : c44 (rsAt I y e) = 0 := by
                        unfold c44
                        first
                          | (rw [← f109]; first | rw [if_pos (by omega)] | rw [if_neg (by omega)])
                          | (rw [if_neg (fun g => by have := rsAt_sB I y e (by omega); (try dsimp only at this); omega)])
                      rw [c1, c2] at L
                      exact L)
                   | (have hne : ¬ isTx (rsAt I y e) := by
                        first | exact q47 | exact fun g => by have := sB_in (rsAt_sB I y) g; omega
                      have ca : c44 (rsAt I y (a - 1)) = 1 ∨ c44 (rsAt I y (a - 1)) = 0 := by unfold c44; split <;> simp
                      have L := h a e ⟨by omega, fun z z1 z2 => (show isTx (rsAt I y z) by
                        by_cases g : z ≤ x
                        · exact hat z z1 g
                        · exact het z (by omega) z2), han, hne⟩ hax (by omega) ha0 he2
                      have c1 : c44 (rsAt I y (a - 1)) = 0 := by
                        unfold c44
                        first
                          | (rw [← f76]; first | rw [if_pos (by omega)] | rw [if_neg (by omega)])
                          | (rw [if_neg (fun g => by have := rsAt_sB I y (a - 1) (by omega); (try dsimp only at this); omega)])
                      have c2 : c44 (rsAt I y e) = 1 := by
                        unfold c44
                        first
                          | (rw [← f109]; first | rw [if_pos (by omega)] | rw [if_neg (by omega)])
                          | (rw [if_neg (fun g => by have := rsAt_sB I y e (by omega); (try dsimp only at this); omega)])
                      rw [c1, c2] at L
                      exact L)
                   | (have hne : ¬ isTx (rsAt I y e) := by
                        first | exact q47 | exact fun g => by have := sB_in (rsAt_sB I y) g; omega
                      have ca : c44 (rsAt I y (a - 1)) = 1 ∨ c44 (rsAt I y (a - 1)) = 0 := by unfold c44; split <;> simp
                      have L := h a e ⟨by omega, fun z z1 z2 => (show isTx (rsAt I y z) by
                        by_cases g : z ≤ x
                        · exact hat z z1 g
                        · exact het z (by omega) z2), han, hne⟩ hax (by omega) ha0 he2
                      have c1 : c44 (rsAt I y (a - 1)) = 0 := by
                        unfold c44
                        first
                          | (rw [← f76]; first | rw [if_pos (by omega)] | rw [if_neg (by omega)])
                          | (rw [if_neg (fun g => by have := rsAt_sB I y (a - 1) (by omega); (try dsimp only at this); omega)])
                      have c2 : c44 (rsAt I y e) = 0 := by
                        unfold c44
                        first
                          | (rw [← f109]; first | rw [if_pos (by omega)] | rw [if_neg (by omega)])
                          | (rw [if_neg (fun g => by have := rsAt_sB I y e (by omega); (try dsimp only at this); omega)])
                      rw [c1, c2] at L
                      exact L)
               · refine w_aload_n dX12_runAt_98 rfl ?_
                 refine v_getR (j := 185) dX12_runAt_99 fX12_50 ⟨by decide, rfl⟩ rfl rfl ?_
                 refine w_bipush (v := iI 32) dX12_runAt_102 (by decide) ?_
                 refine w_iload_n dX12_runAt_104 rfl ?_
                 refine v_imul dX12_runAt_105 ?_
                 refine w_iload dX12_runAt_106 rfl ?_
                 refine v_iadd dX12_runAt_108 ?_
                 refine v_iald dX12_runAt_109 ⟨by decide, rfl⟩ (by omega) (by omega) (by decide) (fun z109 e109 b109 => ?_)
                 have f109 : z109 = rsAt I y e := by rw [rsAt_in hy (by omega), e109, rd_wr_row (by decide)]
                 refine w_bipush (v := iI 44) dX12_runAt_110 (by decide) ?_
                 refine v_icmp_ne 119 dX12_runAt_112 (by decide) (by omega) (by omega) (fun c112 => ?_) (fun c112 => ?_)
                 · refine w_iconst (v := iI 0) dX12_runAt_119 rfl ?_
                   refine v_putI dX12_runAt_120 fX12_113 ⟨by decide, rfl⟩ rfl (Or.inr ⟨rfl, by decide⟩) ?_
                   refine w_aload_n dX12_runAt_123 rfl ?_
                   refine w_bipush (v := iI 32) dX12_runAt_124 (by decide) ?_
                   refine w_iload_n dX12_runAt_126 rfl ?_
                   refine v_imul dX12_runAt_127 ?_
                   refine w_iload_n dX12_runAt_128 rfl ?_
                   refine v_iadd dX12_runAt_129 ?_
                   refine v_putI dX12_runAt_130 fX12_116 ⟨by decide, rfl⟩ rfl (Or.inl rfl) ?_
                   refine w_aload_n dX12_runAt_133 rfl ?_
                   refine w_bipush (v := iI 32) dX12_runAt_134 (by decide) ?_
                   refine w_iload_n dX12_runAt_136 rfl ?_
                   refine v_imul dX12_runAt_137 ?_
                   refine w_iload dX12_runAt_138 rfl ?_
                   refine v_iadd dX12_runAt_140 ?_
                   refine v_putI dX12_runAt_141 fX12_119 ⟨by decide, rfl⟩ rfl (Or.inl rfl) ?_
                   refine v_vret dX12_runAt_144 rfl ⟨rfl, rfl⟩ ?_
                   first
                     | (exfalso; omega)
                     | (have hne : ¬ isTx (rsAt I y e) := by
                          first | exact q47 | exact fun g => by have := sB_in (rsAt_sB I y) g; omega
                        have ca : c44 (rsAt I y (a - 1)) = 1 ∨ c44 (rsAt I y (a - 1)) = 0 := by unfold c44; split <;> simp
                        have L := h a e ⟨by omega, fun z z1 z2 => (show isTx (rsAt I y z) by
                          by_cases g : z ≤ x
                          · exact hat z z1 g
                          · exact het z (by omega) z2), han, hne⟩ hax (by omega) ha0 he2
                        have c1 : c44 (rsAt I y (a - 1)) = 1 := by
                          unfold c44
                          first
                            | (rw [← f76]; first | rw [if_pos (by omega)] | rw [if_neg (by omega)])
                            | (rw [if_neg (fun g => by have := rsAt_sB I y (a - 1) (by omega); (try dsimp only at this); omega)])
                        have c2 : c44 (rsAt I y e) = 1 := by
                          unfold c44
                          first
                            | (rw [← f109]; first | rw [if_pos (by omega)] | rw [if_neg (by omega)])
                            | (rw [if_neg (fun g => by have := rsAt_sB I y e (by omega); (try dsimp only at this); omega)])
                        rw [c1, c2] at L
                        exact L)
                     | (have hne : ¬ isTx (rsAt I y e) := by
                          first | exact q47 | exact fun g => by have := sB_in (rsAt_sB I y) g; omega
                        have ca : c44 (rsAt I y (a - 1)) = 1 ∨ c44 (rsAt I y (a - 1)) = 0 := by unfold c44; split <;> simp
                        have L := h a e ⟨by omega, fun z z1 z2 => (show isTx (rsAt I y z) by
                          by_cases g : z ≤ x
                          · exact hat z z1 g
                          · exact het z (by omega) z2), han, hne⟩ hax (by omega) ha0 he2
                        have c1 : c44 (rsAt I y (a - 1)) = 1 := by
                          unfold c44
                          first
                            | (rw [← f76]; first | rw [if_pos (by omega)] | rw [if_neg (by omega)])
                            | (rw [if_neg (fun g => by have := rsAt_sB I y (a - 1) (by omega); (try dsimp only at this); omega)])
                        have c2 : c44 (rsAt I y e) = 0 := by
                          unfold c44
                          first
                            | (rw [← f109]; first | rw [if_pos (by omega)] | rw [if_neg (by omega)])
                            | (rw [if_neg (fun g => by have := rsAt_sB I y e (by omega); (try dsimp only at this); omega)])
                        rw [c1, c2] at L
                        exact L)
                     | (have hne : ¬ isTx (rsAt I y e) := by
                          first | exact q47 | exact fun g => by have := sB_in (rsAt_sB I y) g; omega
                        have ca : c44 (rsAt I y (a - 1)) = 1 ∨ c44 (rsAt I y (a - 1)) = 0 := by unfold c44; split <;> simp
                        have L := h a e ⟨by omega, fun z z1 z2 => (show isTx (rsAt I y z) by
                          by_cases g : z ≤ x
                          · exact hat z z1 g
                          · exact het z (by omega) z2), han, hne⟩ hax (by omega) ha0 he2
                        have c1 : c44 (rsAt I y (a - 1)) = 0 := by
                          unfold c44
                          first
                            | (rw [← f76]; first | rw [if_pos (by omega)] | rw [if_neg (by omega)])
                            | (rw [if_neg (fun g => by have := rsAt_sB I y (a - 1) (by omega); (try dsimp only at this); omega)])
                        have c2 : c44 (rsAt I y e) = 1 := by
                          unfold c44
                          first
                            | (rw [← f109]; first | rw [if_pos (by omega)] | rw [if_neg (by omega)])
                            | (rw [if_neg (fun g => by have := rsAt_sB I y e (by omega); (try dsimp only at this); omega)])
                        rw [c1, c2] at L
                        exact L)
                     | (have hne : ¬ isTx (rsAt I y e) := by
                          first | exact q47 | exact fun g => by have := sB_in (rsAt_sB I y) g; omega
                        have ca : c44 (rsAt I y (a - 1)) = 1 ∨ c44 (rsAt I y (a - 1)) = 0 := by unfold c44; split <;> simp
                        have L := h a e ⟨by omega, fun z z1 z2 => (show isTx (rsAt I y z) by
                          by_cases g : z ≤ x
                          · exact hat z z1 g
                          · exact het z (by omega) z2), han, hne⟩ hax (by omega) ha0 he2
                        have c1 : c44 (rsAt I y (a - 1)) = 0 := by
                          unfold c44
                          first
                            | (rw [← f76]; first | rw [if_pos (by omega)] | rw [if_neg (by omega)])
                            | (rw [if_neg (fun g => by have := rsAt_sB I y (a - 1) (by omega); (try dsimp only at this); omega)])
                        have c2 : c44 (rsAt I y e) = 0 := by
                          unfold c44
                          first
                            | (rw [← f109]; first | rw [if_pos (by omega)] | rw [if_neg (by omega)])
                            | (rw [if_neg (fun g => by have := rsAt_sB I y e (by omega); (try dsimp only at this); omega)])
                        rw [c1, c2] at L
                        exact L)
                 · refine w_iconst (v := iI 1) dX12_runAt_115 rfl ?_
                   refine w_goto 120 dX12_runAt_116 (by decide) ?_
                   refine v_putI dX12_runAt_120 fX12_113 ⟨by decide, rfl⟩ rfl (Or.inr ⟨rfl, by decide⟩) ?_
                   refine w_aload_n dX12_runAt_123 rfl ?_
                   refine w_bipush (v := iI 32) dX12_runAt_124 (by decide) ?_
                   refine w_iload_n dX12_runAt_126 rfl ?_
                   refine v_imul dX12_runAt_127 ?_
                   refine w_iload_n dX12_runAt_128 rfl ?_
                   refine v_iadd dX12_runAt_129 ?_
                   refine v_putI dX12_runAt_130 fX12_116 ⟨by decide, rfl⟩ rfl (Or.inl rfl) ?_
                   refine w_aload_n dX12_runAt_133 rfl ?_
                   refine w_bipush (v := iI 32) dX12_runAt_134 (by decide) ?_
                   refine w_iload_n dX12_runAt_136 rfl ?_
                   refine v_imul dX12_runAt_137 ?_
                   refine w_iload dX12_runAt_138 rfl ?_
                   refine v_iadd dX12_runAt_140 ?_
                   refine v_putI dX12_runAt_141 fX12_119 ⟨by decide, rfl⟩ rfl (Or.inl rfl) ?_
                   refine v_vret dX12_runAt_144 rfl ⟨rfl, rfl⟩ ?_
                   first
                     | (exfalso; omega)
                     | (have hne : ¬ isTx (rsAt I y e) := by
                          first | exact q47 | exact fun g => by have := sB_in (rsAt_sB I y) g; omega
                        have ca : c44 (rsAt I y (a - 1)) = 1 ∨ c44 (rsAt I y (a - 1)) = 0 := by unfold c44; split <;> simp
                        have L := h a e ⟨by omega, fun z z1 z2 => (show isTx (rsAt I y z) by
                          by_cases g : z ≤ x
                          · exact hat z z1 g
                          · exact het z (by omega) z2), han, hne⟩ hax (by omega) ha0 he2
                        have c1 : c44 (rsAt I y (a - 1)) = 1 := by
                          unfold c44
                          first
                            | (rw [← f76]; first | rw [if_pos (by omega)] | rw [if_neg (by omega)])
                            | (rw [if_neg (fun g => by have := rsAt_sB I y (a - 1) (by omega); (try dsimp only at this); omega)])
                        have c2 : c44 (rsAt I y e) = 1 := by
                          unfold c44
                          first
                            | (rw [← f109]; first | rw [if_pos (by omega)] | rw [if_neg (by omega)])
                            | (rw [if_neg (fun g => by have := rsAt_sB I y e (by omega); (try dsimp only at this); omega)])
                        rw [c1, c2] at L
                        exact L)
                     | (have hne : ¬ isTx (rsAt I y e) := by
                          first | exact q47 | exact fun g => by have := sB_in (rsAt_sB I y) g; omega
                        have ca : c44 (rsAt I y (a - 1)) = 1 ∨ c44 (rsAt I y (a - 1)) = 0 := by unfold c44; split <;> simp
                        have L := h a e ⟨by omega, fun z z1 z2 => (show isTx (rsAt I y z) by
                          by_cases g : z ≤ x
                          · exact hat z z1 g
                          · exact het z (by omega) z2), han, hne⟩ hax (by omega) ha0 he2
                        have c1 : c44 (rsAt I y (a - 1)) = 1 := by
                          unfold c44
                          first
                            | (rw [← f76]; first | rw [if_pos (by omega)] | rw [if_neg (by omega)])
                            | (rw [if_neg (fun g => by have := rsAt_sB I y (a - 1) (by omega); (try dsimp only at this); omega)])
                        have c2 : c44 (rsAt I y e) = 0 := by
                          unfold c44
                          first
                            | (rw [← f109]; first | rw [if_pos (by omega)] | rw [if_neg (by omega)])
                            | (rw [if_neg (fun g => by have := rsAt_sB I y e (by omega); (try dsimp only at this); omega)])
                        rw [c1, c2] at L
                        exact L)
                     | (have hne : ¬ isTx (rsAt I y e) := by
                          first | exact q47 | exact fun g => by have := sB_in (rsAt_sB I y) g; omega
                        have ca : c44 (rsAt I y (a - 1)) = 1 ∨ c44 (rsAt I y (a - 1)) = 0 := by unfold c44; split <;> simp
                        have L := h a e ⟨by omega, fun z z1 z2 => (show isTx (rsAt I y z) by
                          by_cases g : z ≤ x
                          · exact hat z z1 g
                          · exact het z (by omega) z2), han, hne⟩ hax (by omega) ha0 he2
                        have c1 : c44 (rsAt I y (a - 1)) = 0 := by
                          unfold c44
                          first
                            | (rw [← f76]; first | rw [if_pos (by omega)] | rw [if_neg (by omega)])
                            | (rw [if_neg (fun g => by have := rsAt_sB I y (a - 1) (by omega); (try dsimp only at this); omega)])
                        have c2 : c44 (rsAt I y e) = 1 := by
                          unfold c44
                          first
                            | (rw [← f109]; first | rw [if_pos (by omega)] | rw [if_neg (by omega)])
                            | (rw [if_neg (fun g => by have := rsAt_sB I y e (by omega); (try dsimp only at this); omega)])
                        rw [c1, c2] at L
                        exact L)
                     | (have hne : ¬ isTx (rsAt I y e) := by
                          first | exact q47 | exact fun g => by have := sB_in (rsAt_sB I y) g; omega
                        have ca : c44 (rsAt I y (a - 1)) = 1 ∨ c44 (rsAt I y (a - 1)) = 0 := by unfold c44; split <;> simp
                        have L := h a e ⟨by omega, fun z z1 z2 => (show isTx (rsAt I y z) by
                          by_cases g : z ≤ x
                          · exact hat z z1 g
                          · exact het z (by omega) z2), han, hne⟩ hax (by omega) ha0 he2
                        have c1 : c44 (rsAt I y (a - 1)) = 0 := by
                          unfold c44
                          first
                            | (rw [← f76]; first | rw [if_pos (by omega)] | rw [if_neg (by omega)])
                            | (rw [if_neg (fun g => by have := rsAt_sB I y (a - 1) (by omega); (try dsimp only at this); omega)])
                        have c2 : c44 (rsAt I y e) = 0 := by
                          unfold c44
                          first
                            | (rw [← f109]; first | rw [if_pos (by omega)] | rw [if_neg (by omega)])
                            | (rw [if_neg (fun g => by have := rsAt_sB I y e (by omega); (try dsimp only at this); omega)])
                        rw [c1, c2] at L
                        exact L))
    · refine w_aload_n dX12_runAt_39 rfl ?_
      refine w_bipush (v := iI 32) dX12_runAt_40 (by decide) ?_
      refine w_iload_n dX12_runAt_42 rfl ?_
      refine v_imul dX12_runAt_43 ?_
      refine w_iload dX12_runAt_44 rfl ?_
      refine v_iadd dX12_runAt_46 ?_
      refine v_callV1 dX12_runAt_47 lX12_106 vX12_isInk (by decide) rfl rfl ⟨by decide, rfl⟩ (by decide) rfl (Nat.le_of_ble_eq_true rfl) ?_
      refine x12_isInk (by omega) (fun q47 => ?_) (fun q47 => ?_)
      all_goals rw [← rsAt_in hy (by omega)] at q47
      · refine v_if_eq 59 dX12_runAt_50 (by decide) (by decide) (fun q => absurd q (by decide)) (fun _ => ?_)
        refine v_iinc dX12_runAt_53 rfl rfl rfl ?_
        refine w_goto 32 dX12_runAt_56 (by decide) ?_
        refine ih (e + 1) (by omega) (by omega) (by omega) (fun z z1 z2 => ?_)
        by_cases g : z = e
        · rw [g]; exact q47
        · exact het z z1 (by omega)
      · refine v_if_eq 59 dX12_runAt_50 (by decide) (by decide) (fun _ => ?_) (fun q => absurd q (by decide))
        refine w_aload_n dX12_runAt_59 rfl ?_
        refine w_iload_n dX12_runAt_60 rfl ?_
        refine v_if_le 86 dX12_runAt_61 (by decide) (by omega) (fun c61 => ?_) (fun c61 => ?_)
        · first
            | (exfalso; omega)
            | (refine w_iconst (v := iI 0) dX12_runAt_86 rfl ?_
               refine v_putI dX12_runAt_87 fX12_109 ⟨by decide, rfl⟩ rfl (Or.inr ⟨rfl, by decide⟩) ?_
               refine w_aload_n dX12_runAt_90 rfl ?_
               refine w_iload dX12_runAt_91 rfl ?_
               refine w_bipush (v := iI 32) dX12_runAt_93 (by decide) ?_
               refine v_icmp_ge 119 dX12_runAt_95 (by decide) (by omega) (by omega) (fun c95 => ?_) (fun c95 => ?_)
               · refine w_iconst (v := iI 0) dX12_runAt_119 rfl ?_
                 refine v_putI dX12_runAt_120 fX12_113 ⟨by decide, rfl⟩ rfl (Or.inr ⟨rfl, by decide⟩) ?_
                 refine w_aload_n dX12_runAt_123 rfl ?_
                 refine w_bipush (v := iI 32) dX12_runAt_124 (by decide) ?_
                 refine w_iload_n dX12_runAt_126 rfl ?_
                 refine v_imul dX12_runAt_127 ?_
                 refine w_iload_n dX12_runAt_128 rfl ?_
                 refine v_iadd dX12_runAt_129 ?_
                 refine v_putI dX12_runAt_130 fX12_116 ⟨by decide, rfl⟩ rfl (Or.inl rfl) ?_
                 refine w_aload_n dX12_runAt_133 rfl ?_
                 refine w_bipush (v := iI 32) dX12_runAt_134 (by decide) ?_
                 refine w_iload_n dX12_runAt_136 rfl ?_
                 refine v_imul dX12_runAt_137 ?_
                 refine w_iload dX12_runAt_138 rfl ?_
                 refine v_iadd dX12_runAt_140 ?_
                 refine v_putI dX12_runAt_141 fX12_119 ⟨by decide, rfl⟩ rfl (Or.inl rfl) ?_
                 refine v_vret dX12_runAt_144 rfl ⟨rfl, rfl⟩ ?_
                 first
                   | (exfalso; omega)
                   | (have hne : ¬ isTx (rsAt I y e) := by
                        first | exact q47 | exact fun g => by have := sB_in (rsAt_sB I y) g; omega
                      have ca : c44 (rsAt I y (a - 1)) = 1 ∨ c44 (rsAt I y (a - 1)) = 0 := by unfold c44; split <;> simp
                      have L := h a e ⟨by omega, fun z z1 z2 => (show isTx (rsAt I y z) by
                        by_cases g : z ≤ x
                        · exact hat z z1 g
                        · exact het z (by omega) z2), han, hne⟩ hax (by omega) ha0 he2
                      have c1 : c44 (rsAt I y (a - 1)) = 1 := by
                        unfold c44
                        first
                          | (rw [← f76]; first | rw [if_pos (by omega)] | rw [if_neg (by omega)])
                          | (rw [if_neg (fun g => by have := rsAt_sB I y (a - 1) (by omega); (try dsimp only at this); omega)])
                      have c2 : c44 (rsAt I y e) = 1 := by
                        unfold c44
                        first
                          | (rw [← f109]; first | rw [if_pos (by omega)] | rw [if_neg (by omega)])
                          | (rw [if_neg (fun g => by have := rsAt_sB I y e (by omega); (try dsimp only at this); omega)])
                      rw [c1, c2] at L
                      exact L)
                   | (have hne : ¬ isTx (rsAt I y e) := by
                        first | exact q47 | exact fun g => by have := sB_in (rsAt_sB I y) g; omega
                      have ca : c44 (rsAt I y (a - 1)) = 1 ∨ c44 (rsAt I y (a - 1)) = 0 := by unfold c44; split <;> simp
                      have L := h a e ⟨by omega, fun z z1 z2 => (show isTx (rsAt I y z) by
                        by_cases g : z ≤ x
                        · exact hat z z1 g
                        · exact het z (by omega) z2), han, hne⟩ hax (by omega) ha0 he2
                      have c1 : c44 (rsAt I y (a - 1)) = 1 := by
                        unfold c44
                        first
                          | (rw [← f76]; first | rw [if_pos (by omega)] | rw [if_neg (by omega)])
                          | (rw [if_neg (fun g => by have := rsAt_sB I y (a - 1) (by omega); (try dsimp only at this); omega)])
                      have c2 : c44 (rsAt I y e) = 0 := by
                        unfold c44
                        first
                          | (rw [← f109]; first | rw [if_pos (by omega)] | rw [if_neg (by omega)])
                          | (rw [if_neg (fun g => by have := rsAt_sB I y e (by omega); (try dsimp only at this); omega)])
                      rw [c1, c2] at L
                      exact L)
                   | (have hne : ¬ isTx (rsAt I y e) := by
                        first | exact q47 | exact fun g => by have := sB_in (rsAt_sB I y) g; omega
                      have ca : c44 (rsAt I y (a - 1)) = 1 ∨ c44 (rsAt I y (a - 1)) = 0 := by unfold c44; split <;> simp
                      have L := h a e ⟨by omega, fun z z1 z2 => (show isTx (rsAt I y z) by
                        by_cases g : z ≤ x
                        · exact hat z z1 g
                        · exact het z (by omega) z2), han, hne⟩ hax (by omega) ha0 he2
                      have c1 : c44 (rsAt I y (a - 1)) = 0 := by
                        unfold c44
                        first
                          | (rw [← f76]; first | rw [if_pos (by omega)] | rw [if_neg (by omega)])
                          | (rw [if_neg (fun g => by have := rsAt_sB I y (a - 1) (by omega); (try dsimp only at this); omega)])
                      have c2 : c44 (rsAt I y e) = 1 := by
                        unfold c44
                        first
                          | (rw [← f109]; first | rw [if_pos (by omega)] | rw [if_neg (by omega)])
                          | (rw [if_neg (fun g => by have := rsAt_sB I y e (by omega); (try dsimp only at this); omega)])
                      rw [c1, c2] at L
                      exact L)
                   | (have hne : ¬ isTx (rsAt I y e) := by
                        first | exact q47 | exact fun g => by have := sB_in (rsAt_sB I y) g; omega
                      have ca : c44 (rsAt I y (a - 1)) = 1 ∨ c44 (rsAt I y (a - 1)) = 0 := by unfold c44; split <;> simp
                      have L := h a e ⟨by omega, fun z z1 z2 => (show isTx (rsAt I y z) by
                        by_cases g : z ≤ x
                        · exact hat z z1 g
                        · exact het z (by omega) z2), han, hne⟩ hax (by omega) ha0 he2
                      have c1 : c44 (rsAt I y (a - 1)) = 0 := by
                        unfold c44
                        first
                          | (rw [← f76]; first | rw [if_pos (by omega)] | rw [if_neg (by omega)])
                          | (rw [if_neg (fun g => by have := rsAt_sB I y (a - 1) (by omega); (try dsimp only at this); omega)])
                      have c2 : c44 (rsAt I y e) = 0 := by
                        unfold c44
                        first
                          | (rw [← f109]; first | rw [if_pos (by omega)] | rw [if_neg (by omega)])
                          | (rw [if_neg (fun g => by have := rsAt_sB I y e (by omega); (try dsimp only at this); omega)])
                      rw [c1, c2] at L
                      exact L)
               · refine w_aload_n dX12_runAt_98 rfl ?_
                 refine v_getR (j := 185) dX12_runAt_99 fX12_50 ⟨by decide, rfl⟩ rfl rfl ?_
                 refine w_bipush (v := iI 32) dX12_runAt_102 (by decide) ?_
                 refine w_iload_n dX12_runAt_104 rfl ?_
                 refine v_imul dX12_runAt_105 ?_
                 refine w_iload dX12_runAt_106 rfl ?_
                 refine v_iadd dX12_runAt_108 ?_
                 refine v_iald dX12_runAt_109 ⟨by decide, rfl⟩ (by omega) (by omega) (by decide) (fun z109 e109 b109 => ?_)
                 have f109 : z109 = rsAt I y e := by rw [rsAt_in hy (by omega), e109, rd_wr_row (by decide)]
                 refine w_bipush (v := iI 44) dX12_runAt_110 (by decide) ?_
                 refine v_icmp_ne 119 dX12_runAt_112 (by decide) (by omega) (by omega) (fun c112 => ?_) (fun c112 => ?_)
                 · refine w_iconst (v := iI 0) dX12_runAt_119 rfl ?_
                   refine v_putI dX12_runAt_120 fX12_113 ⟨by decide, rfl⟩ rfl (Or.inr ⟨rfl, by decide⟩) ?_
                   refine w_aload_n dX12_runAt_123 rfl ?_
                   refine w_bipush (v := iI 32) dX12_runAt_124 (by decide) ?_
                   refine w_iload_n dX12_runAt_126 rfl ?_
                   refine v_imul dX12_runAt_127 ?_
                   refine w_iload_n dX12_runAt_128 rfl ?_
                   refine v_iadd dX12_runAt_129 ?_
                   refine v_putI dX12_runAt_130 fX12_116 ⟨by decide, rfl⟩ rfl (Or.inl rfl) ?_
                   refine w_aload_n dX12_runAt_133 rfl ?_
                   refine w_bipush (v := iI 32) dX12_runAt_134 (by decide) ?_
                   refine w_iload_n dX12_runAt_136 rfl ?_
                   refine v_imul dX12_runAt_137 ?_
                   refine w_iload dX12_runAt_138 rfl ?_
                   refine v_iadd dX12_runAt_140 ?_
                   refine v_putI dX12_runAt_141 fX12_119 ⟨by decide, rfl⟩ rfl (Or.inl rfl) ?_
                   refine v_vret dX12_runAt_144 rfl ⟨rfl, rfl⟩ ?_
                   first
                     | (exfalso; omega)
                     | (have hne : ¬ isTx (rsAt I y e) := by
                          first | exact q47 | exact fun g => by have := sB_in (rsAt_sB I y) g; omega
                        have ca : c44 (rsAt I y (a - 1)) = 1 ∨ c44 (rsAt I y (a - 1)) = 0 := by unfold c44; split <;> simp
                        have L := h a e ⟨by omega, fun z z1 z2 => (show isTx (rsAt I y z) by
                          by_cases g : z ≤ x
                          · exact hat z z1 g
                          · exact het z (by omega) z2), han, hne⟩ hax (by omega) ha0 he2
                        have c1 : c44 (rsAt I y (a - 1)) = 1 := by
                          unfold c44
                          first
                            | (rw [← f76]; first | rw [if_pos (by omega)] | rw [if_neg (by omega)])
                            | (rw [if_neg (fun g => by have := rsAt_sB I y (a - 1) (by omega); (try dsimp only at this); omega)])
                        have c2 : c44 (rsAt I y e) = 1 := by
                          unfold c44
                          first
                            | (rw [← f109]; first | rw [if_pos (by omega)] | rw [if_neg (by omega)])
                            | (rw [if_neg (fun g => by have := rsAt_sB I y e (by omega); (try dsimp only at this); omega)])
                        rw [c1, c2] at L
                        exact L)
                     | (have hne : ¬ isTx (rsAt I y e) := by
                          first | exact q47 | exact fun g => by have := sB_in (rsAt_sB I y) g; omega
                        have ca : c44 (rsAt I y (a - 1)) = 1 ∨ c44 (rsAt I y (a - 1)) = 0 := by unfold c44; split <;> simp
                        have L := h a e ⟨by omega, fun z z1 z2 => (show isTx (rsAt I y z) by
                          by_cases g : z ≤ x
                          · exact hat z z1 g
                          · exact het z (by omega) z2), han, hne⟩ hax (by omega) ha0 he2
                        have c1 : c44 (rsAt I y (a - 1)) = 1 := by
                          unfold c44
                          first
                            | (rw [← f76]; first | rw [if_pos (by omega)] | rw [if_neg (by omega)])
                            | (rw [if_neg (fun g => by have := rsAt_sB I y (a - 1) (by omega); (try dsimp only at this); omega)])
                        have c2 : c44 (rsAt I y e) = 0 := by
                          unfold c44
                          first
                            | (rw [← f109]; first | rw [if_pos (by omega)] | rw [if_neg (by omega)])
                            | (rw [if_neg (fun g => by have := rsAt_sB I y e (by omega); (try dsimp only at this); omega)])
                        rw [c1, c2] at L
                        exact L)
                     | (have hne : ¬ isTx (rsAt I y e) := by
                          first | exact q47 | exact fun g => by have := sB_in (rsAt_sB I y) g; omega
                        have ca : c44 (rsAt I y (a - 1)) = 1 ∨ c44 (rsAt I y (a - 1)) = 0 := by unfold c44; split <;> simp
                        have L := h a e ⟨by omega, fun z z1 z2 => (show isTx (rsAt I y z) by
                          by_cases g : z ≤ x
                          · exact hat z z1 g
                          · exact het z (by omega) z2), han, hne⟩ hax (by omega) ha0 he2
                        have c1 : c44 (rsAt I y (a - 1)) = 0 := by
                          unfold c44
                          first
                            | (rw [← f76]; first | rw [if_pos (by omega)] | rw [if_neg (by omega)])
                            | (rw [if_neg (fun g => by have := rsAt_sB I y (a - 1) (by omega); (try dsimp only at this); omega)])
                        have c2 : c44 (rsAt I y e) = 1 := by
                          unfold c44
                          first
                            | (rw [← f109]; first | rw [if_pos (by omega)] | rw [if_neg (by omega)])
                            | (rw [if_neg (fun g => by have := rsAt_sB I y e (by omega); (try dsimp only at this); omega)])
                        rw [c1, c2] at L
                        exact L)
                     | (have hne : ¬ isTx (rsAt I y e) := by
                          first | exact q47 | exact fun g => by have := sB_in (rsAt_sB I y) g; omega
                        have ca : c44 (rsAt I y (a - 1)) = 1 ∨ c44 (rsAt I y (a - 1)) = 0 := by unfold c44; split <;> simp
                        have L := h a e ⟨by omega, fun z z1 z2 => (show isTx (rsAt I y z) by
                          by_cases g : z ≤ x
                          · exact hat z z1 g
                          · exact het z (by omega) z2), han, hne⟩ hax (by omega) ha0 he2
                        have c1 : c44 (rsAt I y (a - 1)) = 0 := by
                          unfold c44
                          first
                            | (rw [← f76]; first | rw [if_pos (by omega)] | rw [if_neg (by omega)])
                            | (rw [if_neg (fun g => by have := rsAt_sB I y (a - 1) (by omega); (try dsimp only at this); omega)])
                        have c2 : c44 (rsAt I y e) = 0 := by
                          unfold c44
                          first
                            | (rw [← f109]; first | rw [if_pos (by omega)] | rw [if_neg (by omega)])
                            | (rw [if_neg (fun g => by have := rsAt_sB I y e (by omega); (try dsimp only at this); omega)])
                        rw [c1, c2] at L
                        exact L)
                 · refine w_iconst (v := iI 1) dX12_runAt_115 rfl ?_
                   refine w_goto 120 dX12_runAt_116 (by decide) ?_
                   refine v_putI dX12_runAt_120 fX12_113 ⟨by decide, rfl⟩ rfl (Or.inr ⟨rfl, by decide⟩) ?_
                   refine w_aload_n dX12_runAt_123 rfl ?_
                   refine w_bipush (v := iI 32) dX12_runAt_124 (by decide) ?_
                   refine w_iload_n dX12_runAt_126 rfl ?_
                   refine v_imul dX12_runAt_127 ?_
                   refine w_iload_n dX12_runAt_128 rfl ?_
                   refine v_iadd dX12_runAt_129 ?_
                   refine v_putI dX12_runAt_130 fX12_116 ⟨by decide, rfl⟩ rfl (Or.inl rfl) ?_
                   refine w_aload_n dX12_runAt_133 rfl ?_
                   refine w_bipush (v := iI 32) dX12_runAt_134 (by decide) ?_
                   refine w_iload_n dX12_runAt_136 rfl ?_
                   refine v_imul dX12_runAt_137 ?_
                   refine w_iload dX12_runAt_138 rfl ?_
                   refine v_iadd dX12_runAt_140 ?_
                   refine v_putI dX12_runAt_141 fX12_119 ⟨by decide, rfl⟩ rfl (Or.inl rfl) ?_
                   refine v_vret dX12_runAt_144 rfl ⟨rfl, rfl⟩ ?_
                   first
                     | (exfalso; omega)
                     | (have hne : ¬ isTx (rsAt I y e) := by
                          first | exact q47 | exact fun g => by have := sB_in (rsAt_sB I y) g; omega
                        have ca : c44 (rsAt I y (a - 1)) = 1 ∨ c44 (rsAt I y (a - 1)) = 0 := by unfold c44; split <;> simp
                        have L := h a e ⟨by omega, fun z z1 z2 => (show isTx (rsAt I y z) by
                          by_cases g : z ≤ x
                          · exact hat z z1 g
                          · exact het z (by omega) z2), han, hne⟩ hax (by omega) ha0 he2
                        have c1 : c44 (rsAt I y (a - 1)) = 1 := by
                          unfold c44
                          first
                            | (rw [← f76]; first | rw [if_pos (by omega)] | rw [if_neg (by omega)])
                            | (rw [if_neg (fun g => by have := rsAt_sB I y (a - 1) (by omega); (try dsimp only at this); omega)])
                        have c2 : c44 (rsAt I y e) = 1 := by
                          unfold c44
                          first
                            | (rw [← f109]; first | rw [if_pos (by omega)] | rw [if_neg (by omega)])
                            | (rw [if_neg (fun g => by have := rsAt_sB I y e (by omega); (try dsimp only at this); omega)])
                        rw [c1, c2] at L
                        exact L)
                     | (have hne : ¬ isTx (rsAt I y e) := by
                          first | exact q47 | exact fun g => by have := sB_in (rsAt_sB I y) g; omega
                        have ca : c44 (rsAt I y (a - 1)) = 1 ∨ c44 (rsAt I y (a - 1)) = 0 := by unfold c44; split <;> simp
                        have L := h a e ⟨by omega, fun z z1 z2 => (show isTx (rsAt I y z) by
                          by_cases g : z ≤ x
                          · exact hat z z1 g
                          · exact het z (by omega) z2), han, hne⟩ hax (by omega) ha0 he2
                        have c1 : c44 (rsAt I y (a - 1)) = 1 := by
                          unfold c44
                          first
                            | (rw [← f76]; first | rw [if_pos (by omega)] | rw [if_neg (by omega)])
                            | (rw [if_neg (fun g => by have := rsAt_sB I y (a - 1) (by omega); (try dsimp only at this); omega)])
                        have c2 : c44 (rsAt I y e) = 0 := by
                          unfold c44
                          first
                            | (rw [← f109]; first | rw [if_pos (by omega)] | rw [if_neg (by omega)])
                            | (rw [if_neg (fun g => by have := rsAt_sB I y e (by omega); (try dsimp only at this); omega)])
                        rw [c1, c2] at L
                        exact L)
                     | (have hne : ¬ isTx (rsAt I y e) := by
                          first | exact q47 | exact fun g => by have := sB_in (rsAt_sB I y) g; omega
                        have ca : c44 (rsAt I y (a - 1)) = 1 ∨ c44 (rsAt I y (a - 1)) = 0 := by unfold c44; split <;> simp
                        have L := h a e ⟨by omega, fun z z1 z2 => (show isTx (rsAt I y z) by
                          by_cases g : z ≤ x
                          · exact hat z z1 g
                          · exact het z (by omega) z2), han, hne⟩ hax (by omega) ha0 he2
                        have c1 : c44 (rsAt I y (a - 1)) = 0 := by
                          unfold c44
                          first
                            | (rw [← f76]; first | rw [if_pos (by omega)] | rw [if_neg (by omega)])
                            | (rw [if_neg (fun g => by have := rsAt_sB I y (a - 1) (by omega); (try dsimp only at this); omega)])
                        have c2 : c44 (rsAt I y e) = 1 := by
                          unfold c44
                          first
                            | (rw [← f109]; first | rw [if_pos (by omega)] | rw [if_neg (by omega)])
                            | (rw [if_neg (fun g => by have := rsAt_sB I y e (by omega); (try dsimp only at this); omega)])
                        rw [c1, c2] at L
                        exact L)
                     | (have hne : ¬ isTx (rsAt I y e) := by
                          first | exact q47 | exact fun g => by have := sB_in (rsAt_sB I y) g; omega
                        have ca : c44 (rsAt I y (a - 1)) = 1 ∨ c44 (rsAt I y (a - 1)) = 0 := by unfold c44; split <;> simp
                        have L := h a e ⟨by omega, fun z z1 z2 => (show isTx (rsAt I y z) by
                          by_cases g : z ≤ x
                          · exact hat z z1 g
                          · exact het z (by omega) z2), han, hne⟩ hax (by omega) ha0 he2
                        have c1 : c44 (rsAt I y (a - 1)) = 0 := by
                          unfold c44
                          first
                            | (rw [← f76]; first | rw [if_pos (by omega)] | rw [if_neg (by omega)])
                            | (rw [if_neg (fun g => by have := rsAt_sB I y (a - 1) (by omega); (try dsimp only at this); omega)])
                        have c2 : c44 (rsAt I y e) = 0 := by
                          unfold c44
                          first
                            | (rw [← f109]; first | rw [if_pos (by omega)] | rw [if_neg (by omega)])
                            | (rw [if_neg (fun g => by have := rsAt_sB I y e (by omega); (try dsimp only at this); omega)])
                        rw [c1, c2] at L
                        exact L))
        · first
            | (exfalso; omega)
            | (refine w_aload_n dX12_runAt_64 rfl ?_
               refine v_getR (j := 185) dX12_runAt_65 fX12_50 ⟨by decide, rfl⟩ rfl rfl ?_
               refine w_bipush (v := iI 32) dX12_runAt_68 (by decide) ?_
               refine w_iload_n dX12_runAt_70 rfl ?_
               refine v_imul dX12_runAt_71 ?_
               refine w_iload_n dX12_runAt_72 rfl ?_
               refine v_iadd dX12_runAt_73 ?_
               refine w_iconst (v := iI 1) dX12_runAt_74 rfl ?_
               refine v_isub dX12_runAt_75 ?_
               refine v_iald dX12_runAt_76 ⟨by decide, rfl⟩ (by omega) (by omega) (by decide) (fun z76 e76 b76 => ?_)
               have f76 : z76 = rsAt I y (a - 1) := by rw [rsAt_in hy (by omega), e76]; congr 2; omega
               refine w_bipush (v := iI 44) dX12_runAt_77 (by decide) ?_
               refine v_icmp_ne 86 dX12_runAt_79 (by decide) (by omega) (by omega) (fun c79 => ?_) (fun c79 => ?_)
               · refine w_iconst (v := iI 0) dX12_runAt_86 rfl ?_
                 refine v_putI dX12_runAt_87 fX12_109 ⟨by decide, rfl⟩ rfl (Or.inr ⟨rfl, by decide⟩) ?_
                 refine w_aload_n dX12_runAt_90 rfl ?_
                 refine w_iload dX12_runAt_91 rfl ?_
                 refine w_bipush (v := iI 32) dX12_runAt_93 (by decide) ?_
                 refine v_icmp_ge 119 dX12_runAt_95 (by decide) (by omega) (by omega) (fun c95 => ?_) (fun c95 => ?_)
                 · refine w_iconst (v := iI 0) dX12_runAt_119 rfl ?_
                   refine v_putI dX12_runAt_120 fX12_113 ⟨by decide, rfl⟩ rfl (Or.inr ⟨rfl, by decide⟩) ?_
                   refine w_aload_n dX12_runAt_123 rfl ?_
                   refine w_bipush (v := iI 32) dX12_runAt_124 (by decide) ?_
                   refine w_iload_n dX12_runAt_126 rfl ?_
                   refine v_imul dX12_runAt_127 ?_
                   refine w_iload_n dX12_runAt_128 rfl ?_
                   refine v_iadd dX12_runAt_129 ?_
                   refine v_putI dX12_runAt_130 fX12_116 ⟨by decide, rfl⟩ rfl (Or.inl rfl) ?_
                   refine w_aload_n dX12_runAt_133 rfl ?_
                   refine w_bipush (v := iI 32) dX12_runAt_134 (by decide) ?_
                   refine w_iload_n dX12_runAt_136 rfl ?_
                   refine v_imul dX12_runAt_137 ?_
                   refine w_iload dX12_runAt_138 rfl ?_
                   refine v_iadd dX12_runAt_140 ?_
                   refine v_putI dX12_runAt_141 fX12_119 ⟨by decide, rfl⟩ rfl (Or.inl rfl) ?_
                   refine v_vret dX12_runAt_144 rfl ⟨rfl, rfl⟩ ?_
                   first
                     | (exfalso; omega)
                     | (have hne : ¬ isTx (rsAt I y e) := by
                          first | exact q47 | exact fun g => by have := sB_in (rsAt_sB I y) g; omega
                        have ca : c44 (rsAt I y (a - 1)) = 1 ∨ c44 (rsAt I y (a - 1)) = 0 := by unfold c44; split <;> simp
                        have L := h a e ⟨by omega, fun z z1 z2 => (show isTx (rsAt I y z) by
                          by_cases g : z ≤ x
                          · exact hat z z1 g
                          · exact het z (by omega) z2), han, hne⟩ hax (by omega) ha0 he2
                        have c1 : c44 (rsAt I y (a - 1)) = 1 := by
                          unfold c44
                          first
                            | (rw [← f76]; first | rw [if_pos (by omega)] | rw [if_neg (by omega)])
                            | (rw [if_neg (fun g => by have := rsAt_sB I y (a - 1) (by omega); (try dsimp only at this); omega)])
                        have c2 : c44 (rsAt I y e) = 1 := by
                          unfold c44
                          first
                            | (rw [← f109]; first | rw [if_pos (by omega)] | rw [if_neg (by omega)])
                            | (rw [if_neg (fun g => by have := rsAt_sB I y e (by omega); (try dsimp only at this); omega)])
                        rw [c1, c2] at L
                        exact L)
                     | (have hne : ¬ isTx (rsAt I y e) := by
                          first | exact q47 | exact fun g => by have := sB_in (rsAt_sB I y) g; omega
                        have ca : c44 (rsAt I y (a - 1)) = 1 ∨ c44 (rsAt I y (a - 1)) = 0 := by unfold c44; split <;> simp
                        have L := h a e ⟨by omega, fun z z1 z2 => (show isTx (rsAt I y z) by
                          by_cases g : z ≤ x
                          · exact hat z z1 g
                          · exact het z (by omega) z2), han, hne⟩ hax (by omega) ha0 he2
                        have c1 : c44 (rsAt I y (a - 1)) = 1 := by
                          unfold c44
                          first
                            | (rw [← f76]; first | rw [if_pos (by omega)] | rw [if_neg (by omega)])
                            | (rw [if_neg (fun g => by have := rsAt_sB I y (a - 1) (by omega); (try dsimp only at this); omega)])
                        have c2 : c44 (rsAt I y e) = 0 := by
                          unfold c44
                          first
                            | (rw [← f109]; first | rw [if_pos (by omega)] | rw [if_neg (by omega)])
                            | (rw [if_neg (fun g => by have := rsAt_sB I y e (by omega); (try dsimp only at this); omega)])
                        rw [c1, c2] at L
                        exact L)
                     | (have hne : ¬ isTx (rsAt I y e) := by
                          first | exact q47 | exact fun g => by have := sB_in (rsAt_sB I y) g; omega
                        have ca : c44 (rsAt I y (a - 1)) = 1 ∨ c44 (rsAt I y (a - 1)) = 0 := by unfold c44; split <;> simp
                        have L := h a e ⟨by omega, fun z z1 z2 => (show isTx (rsAt I y z) by
                          by_cases g : z ≤ x
                          · exact hat z z1 g
                          · exact het z (by omega) z2), han, hne⟩ hax (by omega) ha0 he2
                        have c1 : c44 (rsAt I y (a - 1)) = 0 := by
                          unfold c44
                          first
                            | (rw [← f76]; first | rw [if_pos (by omega)] | rw [if_neg (by omega)])
                            | (rw [if_neg (fun g => by have := rsAt_sB I y (a - 1) (by omega); (try dsimp only at this); omega)])
                        have c2 : c44 (rsAt I y e) = 1 := by
                          unfold c44
                          first
                            | (rw [← f109]; first | rw [if_pos (by omega)] | rw [if_neg (by omega)])
                            | (rw [if_neg (fun g => by have := rsAt_sB I y e (by omega); (try dsimp only at this); omega)])
                        rw [c1, c2] at L
                        exact L)
                     | (have hne : ¬ isTx (rsAt I y e) := by
                          first | exact q47 | exact fun g => by have := sB_in (rsAt_sB I y) g; omega
                        have ca : c44 (rsAt I y (a - 1)) = 1 ∨ c44 (rsAt I y (a - 1)) = 0 := by unfold c44; split <;> simp
                        have L := h a e ⟨by omega, fun z z1 z2 => (show isTx (rsAt I y z) by
                          by_cases g : z ≤ x
                          · exact hat z z1 g
                          · exact het z (by omega) z2), han, hne⟩ hax (by omega) ha0 he2
                        have c1 : c44 (rsAt I y (a - 1)) = 0 := by
                          unfold c44
                          first
                            | (rw [← f76]; first | rw [if_pos (by omega)] | rw [if_neg (by omega)])
                            | (rw [if_neg (fun g => by have := rsAt_sB I y (a - 1) (by omega); (try dsimp only at this); omega)])
                        have c2 : c44 (rsAt I y e) = 0 := by
                          unfold c44
                          first
                            | (rw [← f109]; first | rw [if_pos (by omega)] | rw [if_neg (by omega)])
                            | (rw [if_neg (fun g => by have := rsAt_sB I y e (by omega); (try dsimp only at this); omega)])
                        rw [c1, c2] at L
                        exact L)
                 · refine w_aload_n dX12_runAt_98 rfl ?_
                   refine v_getR (j := 185) dX12_runAt_99 fX12_50 ⟨by decide, rfl⟩ rfl rfl ?_
                   refine w_bipush (v := iI 32) dX12_runAt_102 (by decide) ?_
                   refine w_iload_n dX12_runAt_104 rfl ?_
                   refine v_imul dX12_runAt_105 ?_
                   refine w_iload dX12_runAt_106 rfl ?_
                   refine v_iadd dX12_runAt_108 ?_
                   refine v_iald dX12_runAt_109 ⟨by decide, rfl⟩ (by omega) (by omega) (by decide) (fun z109 e109 b109 => ?_)
                   have f109 : z109 = rsAt I y e := by rw [rsAt_in hy (by omega), e109, rd_wr_row (by decide)]
                   refine w_bipush (v := iI 44) dX12_runAt_110 (by decide) ?_
                   refine v_icmp_ne 119 dX12_runAt_112 (by decide) (by omega) (by omega) (fun c112 => ?_) (fun c112 => ?_)
                   · refine w_iconst (v := iI 0) dX12_runAt_119 rfl ?_
                     refine v_putI dX12_runAt_120 fX12_113 ⟨by decide, rfl⟩ rfl (Or.inr ⟨rfl, by decide⟩) ?_
                     refine w_aload_n dX12_runAt_123 rfl ?_
                     refine w_bipush (v := iI 32) dX12_runAt_124 (by decide) ?_
                     refine w_iload_n dX12_runAt_126 rfl ?_
                     refine v_imul dX12_runAt_127 ?_
                     refine w_iload_n dX12_runAt_128 rfl ?_
                     refine v_iadd dX12_runAt_129 ?_
                     refine v_putI dX12_runAt_130 fX12_116 ⟨by decide, rfl⟩ rfl (Or.inl rfl) ?_
                     refine w_aload_n dX12_runAt_133 rfl ?_
                     refine w_bipush (v := iI 32) dX12_runAt_134 (by decide) ?_
                     refine w_iload_n dX12_runAt_136 rfl ?_
                     refine v_imul dX12_runAt_137 ?_
                     refine w_iload dX12_runAt_138 rfl ?_
                     refine v_iadd dX12_runAt_140 ?_
                     refine v_putI dX12_runAt_141 fX12_119 ⟨by decide, rfl⟩ rfl (Or.inl rfl) ?_
                     refine v_vret dX12_runAt_144 rfl ⟨rfl, rfl⟩ ?_
                     first
                       | (exfalso; omega)
                       | (have hne : ¬ isTx (rsAt I y e) := by
                            first | exact q47 | exact fun g => by have := sB_in (rsAt_sB I y) g; omega
                          have ca : c44 (rsAt I y (a - 1)) = 1 ∨ c44 (rsAt I y (a - 1)) = 0 := by unfold c44; split <;> simp
                          have L := h a e ⟨by omega, fun z z1 z2 => (show isTx (rsAt I y z) by
                            by_cases g : z ≤ x
                            · exact hat z z1 g
                            · exact het z (by omega) z2), han, hne⟩ hax (by omega) ha0 he2
                          have c1 : c44 (rsAt I y (a - 1)) = 1 := by
                            unfold c44
                            first
                              | (rw [← f76]; first | rw [if_pos (by omega)] | rw [if_neg (by omega)])
                              | (rw [if_neg (fun g => by have := rsAt_sB I y (a - 1) (by omega); (try dsimp only at this); omega)])
                          have c2 : c44 (rsAt I y e) = 1 := by
                            unfold c44
                            first
                              | (rw [← f109]; first | rw [if_pos (by omega)] | rw [if_neg (by omega)])
                              | (rw [if_neg (fun g => by have := rsAt_sB I y e (by omega); (try dsimp only at this); omega)])
                          rw [c1, c2] at L
                          exact L)
                       | (have hne : ¬ isTx (rsAt I y e) := by
                            first | exact q47 | exact fun g => by have := sB_in (rsAt_sB I y) g; omega
                          have ca : c44 (rsAt I y (a - 1)) = 1 ∨ c44 (rsAt I y (a - 1)) = 0 := by unfold c44; split <;> simp
                          have L := h a e ⟨by omega, fun z z1 z2 => (show isTx (rsAt I y z) by
                            by_cases g : z ≤ x
                            · exact hat z z1 g
                            · exact het z (by omega) z2), han, hne⟩ hax (by omega) ha0 he2
                          have c1 : c44 (rsAt I y (a - 1)) = 1 := by
                            unfold c44
                            first
                              | (rw [← f76]; first | rw [if_pos (by omega)] | rw [if_neg (by omega)])
                              | (rw [if_neg (fun g => by have := rsAt_sB I y (a - 1) (by omega); (try dsimp only at this); omega)])
                          have c2 : c44 (rsAt I y e) = 0 := by
                            unfold c44
                            first
                              | (rw [← f109]; first | rw [if_pos (by omega)] | rw [if_neg (by omega)])
                              | (rw [if_neg (fun g => by have := rsAt_sB I y e (by omega); (try dsimp only at this); omega)])
                          rw [c1, c2] at L
                          exact L)
                       | (have hne : ¬ isTx (rsAt I y e) := by
                            first | exact q47 | exact fun g => by have := sB_in (rsAt_sB I y) g; omega
                          have ca : c44 (rsAt I y (a - 1)) = 1 ∨ c44 (rsAt I y (a - 1)) = 0 := by unfold c44; split <;> simp
                          have L := h a e ⟨by omega, fun z z1 z2 => (show isTx (rsAt I y z) by
                            by_cases g : z ≤ x
                            · exact hat z z1 g
                            · exact het z (by omega) z2), han, hne⟩ hax (by omega) ha0 he2
                          have c1 : c44 (rsAt I y (a - 1)) = 0 := by
                            unfold c44
                            first
                              | (rw [← f76]; first | rw [if_pos (by omega)] | rw [if_neg (by omega)])
                              | (rw [if_neg (fun g => by have := rsAt_sB I y (a - 1) (by omega); (try dsimp only at this); omega)])
                          have c2 : c44 (rsAt I y e) = 1 := by
                            unfold c44
                            first
                              | (rw [← f109]; first | rw [if_pos (by omega)] | rw [if_neg (by omega)])
                              | (rw [if_neg (fun g => by have := rsAt_sB I y e (by omega); (try dsimp only at this); omega)])
                          rw [c1, c2] at L
                          exact L)
                       | (have hne : ¬ isTx (rsAt I y e) := by
                            first | exact q47 | exact fun g => by have := sB_in (rsAt_sB I y) g; omega
                          have ca : c44 (rsAt I y (a - 1)) = 1 ∨ c44 (rsAt I y (a - 1)) = 0 := by unfold c44; split <;> simp
                          have L := h a e ⟨by omega, fun z z1 z2 => (show isTx (rsAt I y z) by
                            by_cases g : z ≤ x
                            · exact hat z z1 g
                            · exact het z (by omega) z2), han, hne⟩ hax (by omega) ha0 he2
                          have c1 : c44 (rsAt I y (a - 1)) = 0 := by
                            unfold c44
                            first
                              | (rw [← f76]; first | rw [if_pos (by omega)] | rw [if_neg (by omega)])
                              | (rw [if_neg (fun g => by have := rsAt_sB I y (a - 1) (by omega); (try dsimp only at this); omega)])
                          have c2 : c44 (rsAt I y e) = 0 := by
                            unfold c44
                            first
                              | (rw [← f109]; first | rw [if_pos (by omega)] | rw [if_neg (by omega)])
                              | (rw [if_neg (fun g => by have := rsAt_sB I y e (by omega); (try dsimp only at this); omega)])
                          rw [c1, c2] at L
                          exact L)
                   · refine w_iconst (v := iI 1) dX12_runAt_115 rfl ?_
                     refine w_goto 120 dX12_runAt_116 (by decide) ?_
                     refine v_putI dX12_runAt_120 fX12_113 ⟨by decide, rfl⟩ rfl (Or.inr ⟨rfl, by decide⟩) ?_
                     refine w_aload_n dX12_runAt_123 rfl ?_
                     refine w_bipush (v := iI 32) dX12_runAt_124 (by decide) ?_
                     refine w_iload_n dX12_runAt_126 rfl ?_
                     refine v_imul dX12_runAt_127 ?_
                     refine w_iload_n dX12_runAt_128 rfl ?_
                     refine v_iadd dX12_runAt_129 ?_
                     refine v_putI dX12_runAt_130 fX12_116 ⟨by decide, rfl⟩ rfl (Or.inl rfl) ?_
                     refine w_aload_n dX12_runAt_133 rfl ?_
                     refine w_bipush (v := iI 32) dX12_runAt_134 (by decide) ?_
                     refine w_iload_n dX12_runAt_136 rfl ?_
                     refine v_imul dX12_runAt_137 ?_
                     refine w_iload dX12_runAt_138 rfl ?_
                     refine v_iadd dX12_runAt_140 ?_
                     refine v_putI dX12_runAt_141 fX12_119 ⟨by decide, rfl⟩ rfl (Or.inl rfl) ?_
                     refine v_vret dX12_runAt_144 rfl ⟨rfl, rfl⟩ ?_
                     first
                       | (exfalso; omega)
                       | (have hne : ¬ isTx (rsAt I y e) := by
                            first | exact q47 | exact fun g => by have := sB_in (rsAt_sB I y) g; omega
                          have ca : c44 (rsAt I y (a - 1)) = 1 ∨ c44 (rsAt I y (a - 1)) = 0 := by unfold c44; split <;> simp
                          have L := h a e ⟨by omega, fun z z1 z2 => (show isTx (rsAt I y z) by
                            by_cases g : z ≤ x
                            · exact hat z z1 g
                            · exact het z (by omega) z2), han, hne⟩ hax (by omega) ha0 he2
                          have c1 : c44 (rsAt I y (a - 1)) = 1 := by
                            unfold c44
                            first
                              | (rw [← f76]; first | rw [if_pos (by omega)] | rw [if_neg (by omega)])
                              | (rw [if_neg (fun g => by have := rsAt_sB I y (a - 1) (by omega); (try dsimp only at this); omega)])
                          have c2 : c44 (rsAt I y e) = 1 := by
                            unfold c44
                            first
                              | (rw [← f109]; first | rw [if_pos (by omega)] | rw [if_neg (by omega)])
                              | (rw [if_neg (fun g => by have := rsAt_sB I y e (by omega); (try dsimp only at this); omega)])
                          rw [c1, c2] at L
                          exact L)
                       | (have hne : ¬ isTx (rsAt I y e) := by
                            first | exact q47 | exact fun g => by have := sB_in (rsAt_sB I y) g; omega
                          have ca : c44 (rsAt I y (a - 1)) = 1 ∨ c44 (rsAt I y (a - 1)) = 0 := by unfold c44; split <;> simp
                          have L := h a e ⟨by omega, fun z z1 z2 => (show isTx (rsAt I y z) by
                            by_cases g : z ≤ x
                            · exact hat z z1 g
                            · exact het z (by omega) z2), han, hne⟩ hax (by omega) ha0 he2
                          have c1 : c44 (rsAt I y (a - 1)) = 1 := by
                            unfold c44
                            first
                              | (rw [← f76]; first | rw [if_pos (by omega)] | rw [if_neg (by omega)])
                              | (rw [if_neg (fun g => by have := rsAt_sB I y (a - 1) (by omega); (try dsimp only at this); omega)])
                          have c2 : c44 (rsAt I y e) = 0 := by
                            unfold c44
                            first
                              | (rw [← f109]; first | rw [if_pos (by omega)] | rw [if_neg (by omega)])
                              | (rw [if_neg (fun g => by have := rsAt_sB I y e (by omega); (try dsimp only at this); omega)])
                          rw [c1, c2] at L
                          exact L)
                       | (have hne : ¬ isTx (rsAt I y e) := by
                            first | exact q47 | exact fun g => by have := sB_in (rsAt_sB I y) g; omega
                          have ca : c44 (rsAt I y (a - 1)) = 1 ∨ c44 (rsAt I y (a - 1)) = 0 := by unfold c44; split <;> simp
                          have L := h a e ⟨by omega, fun z z1 z2 => (show isTx (rsAt I y z) by
                            by_cases g : z ≤ x
                            · exact hat z z1 g
                            · exact het z (by omega) z2), han, hne⟩ hax (by omega) ha0 he2
                          have c1 : c44 (rsAt I y (a - 1)) = 0 := by
                            unfold c44
                            first
                              | (rw [← f76]; first | rw [if_pos (by omega)] | rw [if_neg (by omega)])
                              | (rw [if_neg (fun g => by have := rsAt_sB I y (a - 1) (by omega); (try dsimp only at this); omega)])
                          have c2 : c44 (rsAt I y e) = 1 := by
                            unfold c44
                            first
                              | (rw [← f109]; first | rw [if_pos (by omega)] | rw [if_neg (by omega)])
                              | (rw [if_neg (fun g => by have := rsAt_sB I y e (by omega); (try dsimp only at this); omega)])
                          rw [c1, c2] at L
                          exact L)
                       | (have hne : ¬ isTx (rsAt I y e) := by
                            first | exact q47 | exact fun g => by have := sB_in (rsAt_sB I y) g; omega
                          have ca : c44 (rsAt I y (a - 1)) = 1 ∨ c44 (rsAt I y (a - 1)) = 0 := by unfold c44; split <;> simp
                          have L := h a e ⟨by omega, fun z z1 z2 => (show isTx (rsAt I y z) by
                            by_cases g : z ≤ x
                            · exact hat z z1 g
                            · exact het z (by omega) z2), han, hne⟩ hax (by omega) ha0 he2
                          have c1 : c44 (rsAt I y (a - 1)) = 0 := by
                            unfold c44
                            first
                              | (rw [← f76]; first | rw [if_pos (by omega)] | rw [if_neg (by omega)])
                              | (rw [if_neg (fun g => by have := rsAt_sB I y (a - 1) (by omega); (try dsimp only at this); omega)])
                          have c2 : c44 (rsAt I y e) = 0 := by
                            unfold c44
                            first
                              | (rw [← f109]; first | rw [if_pos (by omega)] | rw [if_neg (by omega)])
                              | (rw [if_neg (fun g => by have := rsAt_sB I y e (by omega); (try dsimp only at this); omega)])
                          rw [c1, c2] at L
                          exact L)
               · refine w_iconst (v := iI 1) dX12_runAt_82 rfl ?_
                 refine w_goto 87 dX12_runAt_83 (by decide) ?_
                 refine v_putI dX12_runAt_87 fX12_109 ⟨by decide, rfl⟩ rfl (Or.inr ⟨rfl, by decide⟩) ?_
                 refine w_aload_n dX12_runAt_90 rfl ?_
                 refine w_iload dX12_runAt_91 rfl ?_
                 refine w_bipush (v := iI 32) dX12_runAt_93 (by decide) ?_
                 refine v_icmp_ge 119 dX12_runAt_95 (by decide) (by omega) (by omega) (fun c95 => ?_) (fun c95 => ?_)
                 · refine w_iconst (v := iI 0) dX12_runAt_119 rfl ?_
                   refine v_putI dX12_runAt_120 fX12_113 ⟨by decide, rfl⟩ rfl (Or.inr ⟨rfl, by decide⟩) ?_
                   refine w_aload_n dX12_runAt_123 rfl ?_
                   refine w_bipush (v := iI 32) dX12_runAt_124 (by decide) ?_
                   refine w_iload_n dX12_runAt_126 rfl ?_
                   refine v_imul dX12_runAt_127 ?_
                   refine w_iload_n dX12_runAt_128 rfl ?_
                   refine v_iadd dX12_runAt_129 ?_
                   refine v_putI dX12_runAt_130 fX12_116 ⟨by decide, rfl⟩ rfl (Or.inl rfl) ?_
                   refine w_aload_n dX12_runAt_133 rfl ?_
                   refine w_bipush (v := iI 32) dX12_runAt_134 (by decide) ?_
                   refine w_iload_n dX12_runAt_136 rfl ?_
                   refine v_imul dX12_runAt_137 ?_
                   refine w_iload dX12_runAt_138 rfl ?_
                   refine v_iadd dX12_runAt_140 ?_
                   refine v_putI dX12_runAt_141 fX12_119 ⟨by decide, rfl⟩ rfl (Or.inl rfl) ?_
                   refine v_vret dX12_runAt_144 rfl ⟨rfl, rfl⟩ ?_
                   first
                     | (exfalso; omega)
                     | (have hne : ¬ isTx (rsAt I y e) := by
                          first | exact q47 | exact fun g => by have := sB_in (rsAt_sB I y) g; omega
                        have ca : c44 (rsAt I y (a - 1)) = 1 ∨ c44 (rsAt I y (a - 1)) = 0 := by unfold c44; split <;> simp
                        have L := h a e ⟨by omega, fun z z1 z2 => (show isTx (rsAt I y z) by
                          by_cases g : z ≤ x
                          · exact hat z z1 g
                          · exact het z (by omega) z2), han, hne⟩ hax (by omega) ha0 he2
                        have c1 : c44 (rsAt I y (a - 1)) = 1 := by
                          unfold c44
                          first
                            | (rw [← f76]; first | rw [if_pos (by omega)] | rw [if_neg (by omega)])
                            | (rw [if_neg (fun g => by have := rsAt_sB I y (a - 1) (by omega); (try dsimp only at this); omega)])
                        have c2 : c44 (rsAt I y e) = 1 := by
                          unfold c44
                          first
                            | (rw [← f109]; first | rw [if_pos (by omega)] | rw [if_neg (by omega)])
                            | (rw [if_neg (fun g => by have := rsAt_sB I y e (by omega); (try dsimp only at this); omega)])
                        rw [c1, c2] at L
                        exact L)
                     | (have hne : ¬ isTx (rsAt I y e) := by
                          first | exact q47 | exact fun g => by have := sB_in (rsAt_sB I y) g; omega
                        have ca : c44 (rsAt I y (a - 1)) = 1 ∨ c44 (rsAt I y (a - 1)) = 0 := by unfold c44; split <;> simp
                        have L := h a e ⟨by omega, fun z z1 z2 => (show isTx (rsAt I y z) by
                          by_cases g : z ≤ x
                          · exact hat z z1 g
                          · exact het z (by omega) z2), han, hne⟩ hax (by omega) ha0 he2
                        have c1 : c44 (rsAt I y (a - 1)) = 1 := by
                          unfold c44
                          first
                            | (rw [← f76]; first | rw [if_pos (by omega)] | rw [if_neg (by omega)])
                            | (rw [if_neg (fun g => by have := rsAt_sB I y (a - 1) (by omega); (try dsimp only at this); omega)])
                        have c2 : c44 (rsAt I y e) = 0 := by
                          unfold c44
                          first
                            | (rw [← f109]; first | rw [if_pos (by omega)] | rw [if_neg (by omega)])
                            | (rw [if_neg (fun g => by have := rsAt_sB I y e (by omega); (try dsimp only at this); omega)])
                        rw [c1, c2] at L
                        exact L)
                     | (have hne : ¬ isTx (rsAt I y e) := by
                          first | exact q47 | exact fun g => by have := sB_in (rsAt_sB I y) g; omega
                        have ca : c44 (rsAt I y (a - 1)) = 1 ∨ c44 (rsAt I y (a - 1)) = 0 := by unfold c44; split <;> simp
                        have L := h a e ⟨by omega, fun z z1 z2 => (show isTx (rsAt I y z) by
                          by_cases g : z ≤ x
                          · exact hat z z1 g
                          · exact het z (by omega) z2), han, hne⟩ hax (by omega) ha0 he2
                        have c1 : c44 (rsAt I y (a - 1)) = 0 := by
                          unfold c44
                          first
                            | (rw [← f76]; first | rw [if_pos (by omega)] | rw [if_neg (by omega)])
                            | (rw [if_neg (fun g => by have := rsAt_sB I y (a - 1) (by omega); (try dsimp only at this); omega)])
                        have c2 : c44 (rsAt I y e) = 1 := by
                          unfold c44
                          first
                            | (rw [← f109]; first | rw [if_pos (by omega)] | rw [if_neg (by omega)])
                            | (rw [if_neg (fun g => by have := rsAt_sB I y e (by omega); (try dsimp only at this); omega)])
                        rw [c1, c2] at L
                        exact L)
                     | (have hne : ¬ isTx (rsAt I y e) := by
                          first | exact q47 | exact fun g => by have := sB_in (rsAt_sB I y) g; omega
                        have ca : c44 (rsAt I y (a - 1)) = 1 ∨ c44 (rsAt I y (a - 1)) = 0 := by unfold c44; split <;> simp
                        have L := h a e ⟨by omega, fun z z1 z2 => (show isTx (rsAt I y z) by
                          by_cases g : z ≤ x
                          · exact hat z z1 g
                          · exact het z (by omega) z2), han, hne⟩ hax (by omega) ha0 he2
                        have c1 : c44 (rsAt I y (a - 1)) = 0 := by
                          unfold c44
                          first
                            | (rw [← f76]; first | rw [if_pos (by omega)] | rw [if_neg (by omega)])
                            | (rw [if_neg (fun g => by have := rsAt_sB I y (a - 1) (by omega); (try dsimp only at this); omega)])
                        have c2 : c44 (rsAt I y e) = 0 := by
                          unfold c44
                          first
                            | (rw [← f109]; first | rw [if_pos (by omega)] | rw [if_neg (by omega)])
                            | (rw [if_neg (fun g => by have := rsAt_sB I y e (by omega); (try dsimp only at this); omega)])
                        rw [c1, c2] at L
                        exact L)
                 · refine w_aload_n dX12_runAt_98 rfl ?_
                   refine v_getR (j := 185) dX12_runAt_99 fX12_50 ⟨by decide, rfl⟩ rfl rfl ?_
                   refine w_bipush (v := iI 32) dX12_runAt_102 (by decide) ?_
                   refine w_iload_n dX12_runAt_104 rfl ?_
                   refine v_imul dX12_runAt_105 ?_
                   refine w_iload dX12_runAt_106 rfl ?_
                   refine v_iadd dX12_runAt_108 ?_
                   refine v_iald dX12_runAt_109 ⟨by decide, rfl⟩ (by omega) (by omega) (by decide) (fun z109 e109 b109 => ?_)
                   have f109 : z109 = rsAt I y e := by rw [rsAt_in hy (by omega), e109, rd_wr_row (by decide)]
                   refine w_bipush (v := iI 44) dX12_runAt_110 (by decide) ?_
                   refine v_icmp_ne 119 dX12_runAt_112 (by decide) (by omega) (by omega) (fun c112 => ?_) (fun c112 => ?_)
                   · refine w_iconst (v := iI 0) dX12_runAt_119 rfl ?_
                     refine v_putI dX12_runAt_120 fX12_113 ⟨by decide, rfl⟩ rfl (Or.inr ⟨rfl, by decide⟩) ?_
                     refine w_aload_n dX12_runAt_123 rfl ?_
                     refine w_bipush (v := iI 32) dX12_runAt_124 (by decide) ?_
                     refine w_iload_n dX12_runAt_126 rfl ?_
                     refine v_imul dX12_runAt_127 ?_
                     refine w_iload_n dX12_runAt_128 rfl ?_
                     refine v_iadd dX12_runAt_129 ?_
                     refine v_putI dX12_runAt_130 fX12_116 ⟨by decide, rfl⟩ rfl (Or.inl rfl) ?_
                     refine w_aload_n dX12_runAt_133 rfl ?_
                     refine w_bipush (v := iI 32) dX12_runAt_134 (by decide) ?_
                     refine w_iload_n dX12_runAt_136 rfl ?_
                     refine v_imul dX12_runAt_137 ?_
                     refine w_iload dX12_runAt_138 rfl ?_
                     refine v_iadd dX12_runAt_140 ?_
                     refine v_putI dX12_runAt_141 fX12_119 ⟨by decide, rfl⟩ rfl (Or.inl rfl) ?_
                     refine v_vret dX12_runAt_144 rfl ⟨rfl, rfl⟩ ?_
                     first
                       | (exfalso; omega)
                       | (have hne : ¬ isTx (rsAt I y e) := by
                            first | exact q47 | exact fun g => by have := sB_in (rsAt_sB I y) g; omega
                          have ca : c44 (rsAt I y (a - 1)) = 1 ∨ c44 (rsAt I y (a - 1)) = 0 := by unfold c44; split <;> simp
                          have L := h a e ⟨by omega, fun z z1 z2 => (show isTx (rsAt I y z) by
                            by_cases g : z ≤ x
                            · exact hat z z1 g
                            · exact het z (by omega) z2), han, hne⟩ hax (by omega) ha0 he2
                          have c1 : c44 (rsAt I y (a - 1)) = 1 := by
                            unfold c44
                            first
                              | (rw [← f76]; first | rw [if_pos (by omega)] | rw [if_neg (by omega)])
                              | (rw [if_neg (fun g => by have := rsAt_sB I y (a - 1) (by omega); (try dsimp only at this); omega)])
                          have c2 : c44 (rsAt I y e) = 1 := by
                            unfold c44
                            first
                              | (rw [← f109]; first | rw [if_pos (by omega)] | rw [if_neg (by omega)])
                              | (rw [if_neg (fun g => by have := rsAt_sB I y e (by omega); (try dsimp only at this); omega)])
                          rw [c1, c2] at L
                          exact L)
                       | (have hne : ¬ isTx (rsAt I y e) := by
                            first | exact q47 | exact fun g => by have := sB_in (rsAt_sB I y) g; omega
                          have ca : c44 (rsAt I y (a - 1)) = 1 ∨ c44 (rsAt I y (a - 1)) = 0 := by unfold c44; split <;> simp
                          have L := h a e ⟨by omega, fun z z1 z2 => (show isTx (rsAt I y z) by
                            by_cases g : z ≤ x
                            · exact hat z z1 g
                            · exact het z (by omega) z2), han, hne⟩ hax (by omega) ha0 he2
                          have c1 : c44 (rsAt I y (a - 1)) = 1 := by
                            unfold c44
                            first
                              | (rw [← f76]; first | rw [if_pos (by omega)] | rw [if_neg (by omega)])
                              | (rw [if_neg (fun g => by have := rsAt_sB I y (a - 1) (by omega); (try dsimp only at this); omega)])
                          have c2 : c44 (rsAt I y e) = 0 := by
                            unfold c44
                            first
                              | (rw [← f109]; first | rw [if_pos (by omega)] | rw [if_neg (by omega)])
                              | (rw [if_neg (fun g => by have := rsAt_sB I y e (by omega); (try dsimp only at this); omega)])
                          rw [c1, c2] at L
                          exact L)
                       | (have hne : ¬ isTx (rsAt I y e) := by
                            first | exact q47 | exact fun g => by have := sB_in (rsAt_sB I y) g; omega
                          have ca : c44 (rsAt I y (a - 1)) = 1 ∨ c44 (rsAt I y (a - 1)) = 0 := by unfold c44; split <;> simp
                          have L := h a e ⟨by omega, fun z z1 z2 => (show isTx (rsAt I y z) by
                            by_cases g : z ≤ x
                            · exact hat z z1 g
                            · exact het z (by omega) z2), han, hne⟩ hax (by omega) ha0 he2
                          have c1 : c44 (rsAt I y (a - 1)) = 0 := by
                            unfold c44
                            first
                              | (rw [← f76]; first | rw [if_pos (by omega)] | rw [if_neg (by omega)])
                              | (rw [if_neg (fun g => by have := rsAt_sB I y (a - 1) (by omega); (try dsimp only at this); omega)])
                          have c2 : c44 (rsAt I y e) = 1 := by
                            unfold c44
                            first
                              | (rw [← f109]; first | rw [if_pos (by omega)] | rw [if_neg (by omega)])
                              | (rw [if_neg (fun g => by have := rsAt_sB I y e (by omega); (try dsimp only at this); omega)])
                          rw [c1, c2] at L
                          exact L)
                       | (have hne : ¬ isTx (rsAt I y e) := by
                            first | exact q47 | exact fun g => by have := sB_in (rsAt_sB I y) g; omega
                          have ca : c44 (rsAt I y (a - 1)) = 1 ∨ c44 (rsAt I y (a - 1)) = 0 := by unfold c44; split <;> simp
                          have L := h a e ⟨by omega, fun z z1 z2 => (show isTx (rsAt I y z) by
                            by_cases g : z ≤ x
                            · exact hat z z1 g
                            · exact het z (by omega) z2), han, hne⟩ hax (by omega) ha0 he2
                          have c1 : c44 (rsAt I y (a - 1)) = 0 := by
                            unfold c44
                            first
                              | (rw [← f76]; first | rw [if_pos (by omega)] | rw [if_neg (by omega)])
                              | (rw [if_neg (fun g => by have := rsAt_sB I y (a - 1) (by omega); (try dsimp only at this); omega)])
                          have c2 : c44 (rsAt I y e) = 0 := by
                            unfold c44
                            first
                              | (rw [← f109]; first | rw [if_pos (by omega)] | rw [if_neg (by omega)])
                              | (rw [if_neg (fun g => by have := rsAt_sB I y e (by omega); (try dsimp only at this); omega)])
                          rw [c1, c2] at L
                          exact L)
                   · refine w_iconst (v := iI 1) dX12_runAt_115 rfl ?_
                     refine w_goto 120 dX12_runAt_116 (by decide) ?_
                     refine v_putI dX12_runAt_120 fX12_113 ⟨by decide, rfl⟩ rfl (Or.inr ⟨rfl, by decide⟩) ?_
                     refine w_aload_n dX12_runAt_123 rfl ?_
                     refine w_bipush (v := iI 32) dX12_runAt_124 (by decide) ?_
                     refine w_iload_n dX12_runAt_126 rfl ?_
                     refine v_imul dX12_runAt_127 ?_
                     refine w_iload_n dX12_runAt_128 rfl ?_
                     refine v_iadd dX12_runAt_129 ?_
                     refine v_putI dX12_runAt_130 fX12_116 ⟨by decide, rfl⟩ rfl (Or.inl rfl) ?_
                     refine w_aload_n dX12_runAt_133 rfl ?_
                     refine w_bipush (v := iI 32) dX12_runAt_134 (by decide) ?_
                     refine w_iload_n dX12_runAt_136 rfl ?_
                     refine v_imul dX12_runAt_137 ?_
                     refine w_iload dX12_runAt_138 rfl ?_
                     refine v_iadd dX12_runAt_140 ?_
                     refine v_putI dX12_runAt_141 fX12_119 ⟨by decide, rfl⟩ rfl (Or.inl rfl) ?_
                     refine v_vret dX12_runAt_144 rfl ⟨rfl, rfl⟩ ?_
                     first
                       | (exfalso; omega)
                       | (have hne : ¬ isTx (rsAt I y e) := by
                            first | exact q47 | exact fun g => by have := sB_in (rsAt_sB I y) g; omega
                          have ca : c44 (rsAt I y (a - 1)) = 1 ∨ c44 (rsAt I y (a - 1)) = 0 := by unfold c44; split <;> simp
                          have L := h a e ⟨by omega, fun z z1 z2 => (show isTx (rsAt I y z) by
                            by_cases g : z ≤ x
                            · exact hat z z1 g
                            · exact het z (by omega) z2), han, hne⟩ hax (by omega) ha0 he2
                          have c1 : c44 (rsAt I y (a - 1)) = 1 := by
                            unfold c44
                            first
                              | (rw [← f76]; first | rw [if_pos (by omega)] | rw [if_neg (by omega)])
                              | (rw [if_neg (fun g => by have := rsAt_sB I y (a - 1) (by omega); (try dsimp only at this); omega)])
                          have c2 : c44 (rsAt I y e) = 1 := by
                            unfold c44
                            first
                              | (rw [← f109]; first | rw [if_pos (by omega)] | rw [if_neg (by omega)])
                              | (rw [if_neg (fun g => by have := rsAt_sB I y e (by omega); (try dsimp only at this); omega)])
                          rw [c1, c2] at L
                          exact L)
                       | (have hne : ¬ isTx (rsAt I y e) := by
                            first | exact q47 | exact fun g => by have := sB_in (rsAt_sB I y) g; omega
                          have ca : c44 (rsAt I y (a - 1)) = 1 ∨ c44 (rsAt I y (a - 1)) = 0 := by unfold c44; split <;> simp
                          have L := h a e ⟨by omega, fun z z1 z2 => (show isTx (rsAt I y z) by
                            by_cases g : z ≤ x
                            · exact hat z z1 g
                            · exact het z (by omega) z2), han, hne⟩ hax (by omega) ha0 he2
                          have c1 : c44 (rsAt I y (a - 1)) = 1 := by
                            unfold c44
                            first
                              | (rw [← f76]; first | rw [if_pos (by omega)] | rw [if_neg (by omega)])
                              | (rw [if_neg (fun g => by have := rsAt_sB I y (a - 1) (by omega); (try dsimp only at this); omega)])
                          have c2 : c44 (rsAt I y e) = 0 := by
                            unfold c44
                            first
                              | (rw [← f109]; first | rw [if_pos (by omega)] | rw [if_neg (by omega)])
                              | (rw [if_neg (fun g => by have := rsAt_sB I y e (by omega); (try dsimp only at this); omega)])
                          rw [c1, c2] at L
                          exact L)
                       | (have hne : ¬ isTx (rsAt I y e) := by
                            first | exact q47 | exact fun g => by have := sB_in (rsAt_sB I y) g; omega
                          have ca : c44 (rsAt I y (a - 1)) = 1 ∨ c44 (rsAt I y (a - 1)) = 0 := by unfold c44; split <;> simp
                          have L := h a e ⟨by omega, fun z z1 z2 => (show isTx (rsAt I y z) by
                            by_cases g : z ≤ x
                            · exact hat z z1 g
                            · exact het z (by omega) z2), han, hne⟩ hax (by omega) ha0 he2
                          have c1 : c44 (rsAt I y (a - 1)) = 0 := by
                            unfold c44
                            first
                              | (rw [← f76]; first | rw [if_pos (by omega)] | rw [if_neg (by omega)])
                              | (rw [if_neg (fun g => by have := rsAt_sB I y (a - 1) (by omega); (try dsimp only at this); omega)])
                          have c2 : c44 (rsAt I y e) = 1 := by
                            unfold c44
                            first
                              | (rw [← f109]; first | rw [if_pos (by omega)] | rw [if_neg (by omega)])
                              | (rw [if_neg (fun g => by have := rsAt_sB I y e (by omega); (try dsimp only at this); omega)])
                          rw [c1, c2] at L
                          exact L)
                       | (have hne : ¬ isTx (rsAt I y e) := by
                            first | exact q47 | exact fun g => by have := sB_in (rsAt_sB I y) g; omega
                          have ca : c44 (rsAt I y (a - 1)) = 1 ∨ c44 (rsAt I y (a - 1)) = 0 := by unfold c44; split <;> simp
                          have L := h a e ⟨by omega, fun z z1 z2 => (show isTx (rsAt I y z) by
                            by_cases g : z ≤ x
                            · exact hat z z1 g
                            · exact het z (by omega) z2), han, hne⟩ hax (by omega) ha0 he2
                          have c1 : c44 (rsAt I y (a - 1)) = 0 := by
                            unfold c44
                            first
                              | (rw [← f76]; first | rw [if_pos (by omega)] | rw [if_neg (by omega)])
                              | (rw [if_neg (fun g => by have := rsAt_sB I y (a - 1) (by omega); (try dsimp only at this); omega)])
                          have c2 : c44 (rsAt I y e) = 0 := by
                            unfold c44
                            first
                              | (rw [← f109]; first | rw [if_pos (by omega)] | rw [if_neg (by omega)])
                              | (rw [if_neg (fun g => by have := rsAt_sB I y e (by omega); (try dsimp only at this); omega)])
                          rw [c1, c2] at L
                          exact L))
theorem x12_runAt_a {I : Nat → Nat → Int32} {J : Nat → Nat → Int64} {F : Option Value → zM → Prop} {y x : Int} (hy : 0 ≤ y ∧ y < 16) (hx : 0 ≤ x ∧ x < 32) (htx : isTx (rsAt I y x)) (h : ∀ a e : Int, isRun (fun x => rsAt I y x) a e → a ≤ x → x < e → 0 ≤ a → e ≤ 32 → F none (gM (wr (wr (wr (wr I 171 19 (c44 (rsAt I y (a - 1)))) 171 20 (c44 (rsAt I y e))) 171 17 (32 * y + a)) 171 18 (32 * y + e)) J)) : ∀ (nz : Nat) (a : Int), a.toNat < nz → 0 ≤ a → a ≤ x → (∀ z, a ≤ z → z ≤ x → isTx (rsAt I y z)) → Wp (sE kX12_runAt RX12) F 2 [(0, .ref 171), (1, .int (iI y)), (2, .int (iI x)), (3, .int (iI a))] [] (gM I J) := by
  intro nz
  induction nz with
  | zero =>
    intro a hmz ha0 hax hat
    exact absurd hmz (Nat.not_lt_zero _)
  | succ nz ih =>
    intro a hmz ha0 hax hat
    refine w_iload_n dX12_runAt_2 rfl ?_
    refine v_if_le 27 dX12_runAt_3 (by decide) (by omega) (fun c3 => ?_) (fun c3 => ?_)
    · refine w_iload_n dX12_runAt_27 rfl ?_
      refine w_iconst (v := iI 1) dX12_runAt_28 rfl ?_
      refine v_iadd dX12_runAt_29 ?_
      refine w_istore dX12_runAt_30 rfl rfl ?_
      have han : ¬ isTx (rsAt I y (a - 1)) := by
        first | exact q15 | exact fun g => by have := sB_in (rsAt_sB I y) g; omega
      exact x12_runAt_e hy hx htx h ha0 hax hat han 33 (x + 1) (by omega) (by omega) (by omega) (fun z z1 z2 => by omega)
    · refine w_aload_n dX12_runAt_6 rfl ?_
      refine w_bipush (v := iI 32) dX12_runAt_7 (by decide) ?_
      refine w_iload_n dX12_runAt_9 rfl ?_
      refine v_imul dX12_runAt_10 ?_
      refine w_iload_n dX12_runAt_11 rfl ?_
      refine v_iadd dX12_runAt_12 ?_
      refine w_iconst (v := iI 1) dX12_runAt_13 rfl ?_
      refine v_isub dX12_runAt_14 ?_
      refine v_callV1 dX12_runAt_15 lX12_106 vX12_isInk (by decide) rfl rfl ⟨by decide, rfl⟩ (by decide) rfl (Nat.le_of_ble_eq_true rfl) ?_
      refine x12_isInk (by omega) (fun q15 => ?_) (fun q15 => ?_)
      all_goals rw [show 32 * y + a - 1 = 32 * y + (a - 1) by omega, ← rsAt_in hy (by omega)] at q15
      · refine v_if_eq 27 dX12_runAt_18 (by decide) (by decide) (fun q => absurd q (by decide)) (fun _ => ?_)
        refine v_iinc dX12_runAt_21 rfl rfl rfl ?_
        refine w_goto 2 dX12_runAt_24 (by decide) ?_
        rw [show a + -1 = a - 1 by omega]
        refine ih (a - 1) (by omega) (by omega) (by omega) (fun z z1 z2 => ?_)
        by_cases g : z = a - 1
        · rw [g]; exact q15
        · exact hat z (by omega) z2
      · refine v_if_eq 27 dX12_runAt_18 (by decide) (by decide) (fun _ => ?_) (fun q => absurd q (by decide))
        refine w_iload_n dX12_runAt_27 rfl ?_
        refine w_iconst (v := iI 1) dX12_runAt_28 rfl ?_
        refine v_iadd dX12_runAt_29 ?_
        refine w_istore dX12_runAt_30 rfl rfl ?_
        have han : ¬ isTx (rsAt I y (a - 1)) := by
          first | exact q15 | exact fun g => by have := sB_in (rsAt_sB I y) g; omega
        exact x12_runAt_e hy hx htx h ha0 hax hat han 33 (x + 1) (by omega) (by omega) (by omega) (fun z z1 z2 => by omega)
theorem x12_runAt {I : Nat → Nat → Int32} {J : Nat → Nat → Int64} {F : Option Value → zM → Prop} {y x : Int} (hy : 0 ≤ y ∧ y < 16) (hx : 0 ≤ x ∧ x < 32) (htx : isTx (rsAt I y x)) (h : ∀ a e : Int, isRun (fun x => rsAt I y x) a e → a ≤ x → x < e → 0 ≤ a → e ≤ 32 → F none (gM (wr (wr (wr (wr I 171 19 (c44 (rsAt I y (a - 1)))) 171 20 (c44 (rsAt I y e))) 171 17 (32 * y + a)) 171 18 (32 * y + e)) J)) : Cl yX12_runAt kX12_runAt [.ref 171, .int (iI y), .int (iI x)] (gM I J) F := by
  refine cl_s (by decide) (by decide) (Nat.le_of_ble_eq_true rfl) rt_v ?_
  show Wp _ F 0 [(0, .ref 171), (1, .int (iI y)), (2, .int (iI x))] [] _
  refine w_iload_n dX12_runAt_0 rfl ?_
  refine w_istore_n dX12_runAt_1 rfl rfl ?_
  exact x12_runAt_a hy hx htx h 33 x (by omega) (by omega) (by omega) (fun z z1 z2 => by rw [show z = x by omega]; exact htx)
theorem x12_isFrom_l {I : Nat → Nat → Int32} {J : Nat → Nat → Int64} {F : Option Value → zM → Prop} {y a e : Int} (hy : 0 ≤ y ∧ y < 16) (ha0 : 0 ≤ a) (hae : a < e) (he : e ≤ 32) (hF : rd I 171 17 = 32 * y + a) (hE : rd I 171 18 = 32 * y + e) (htx : ∀ x, a ≤ x → x < e → isTx (rsAt I y x)) {w i : Nat} (hw : w < 12) (hi : ((i : Int) + (e - a)) ≤ 10) (ht : (∀ j : Nat, j < (e - a).toNat → isLt (rsAt I y (a + j)) → rd I 184 (10 * w + i + j) = rsAt I y (a + j)) → F (some (.int (iI 1))) (gM I J)) (hf : ¬ (∀ j : Nat, j < (e - a).toNat → isLt (rsAt I y (a + j)) → rd I 184 (10 * w + i + j) = rsAt I y (a + j)) → F (some (.int (iI 0))) (gM I J)) : ∀ (nz : Nat) (k : Nat), (e - a).toNat - k < nz → (k : Int) ≤ e - a → (∀ j : Nat, j < k → isLt (rsAt I y (a + j)) → rd I 184 (10 * w + i + j) = rsAt I y (a + j)) → Wp (sE kX12_isFrom RX12) F 5 [(0, .ref 171), (1, .int (iI (w : Int))), (2, .int (iI (i : Int))), (3, .int (iI (32 * y + a + (k : Int))))] [] (gM I J) := by
  intro nz
  induction nz with
  | zero =>
    intro k hmz hk hc
    exact absurd hmz (Nat.not_lt_zero _)
  | succ nz ih =>
    intro k hmz hk hc
    refine w_iload_n dX12_isFrom_5 rfl ?_
    refine w_aload_n dX12_isFrom_6 rfl ?_
    refine v_getI dX12_isFrom_7 fX12_119 ⟨by decide, rfl⟩ (Or.inl rfl) (fun z7 e7 b7 => ?_)
    have f7 : z7 = 32 * y + e := by rw [e7]; exact hE
    refine v_icmp_ge 59 dX12_isFrom_10 (by decide) (by omega) (by omega) (fun c10 => ?_) (fun c10 => ?_)
    · refine w_iconst (v := iI 1) dX12_isFrom_59 rfl ?_
      refine v_zret dX12_isFrom_60 rfl ⟨rfl, rfl⟩ (by decide) ?_
      exact ht (fun j hj il => hc j (by omega) il)
    · refine w_aload_n dX12_isFrom_13 rfl ?_
      refine v_getR (j := 185) dX12_isFrom_14 fX12_50 ⟨by decide, rfl⟩ rfl rfl ?_
      refine w_iload_n dX12_isFrom_17 rfl ?_
      refine v_iald dX12_isFrom_18 ⟨by decide, rfl⟩ (by omega) (by omega) (by decide) (fun z18 e18 b18 => ?_)
      have f18 : z18 = rsAt I y (a + k) := by rw [rsAt_in hy (by omega), e18]; congr 2; omega
      refine w_bipush (v := iI 46) dX12_isFrom_19 (by decide) ?_
      refine v_icmp_eq 53 dX12_isFrom_21 (by decide) (by omega) (by omega) (fun c21 => ?_) (fun c21 => ?_)
      · refine v_iinc dX12_isFrom_53 rfl rfl rfl ?_
        refine w_goto 5 dX12_isFrom_56 (by decide) ?_
        rw [show 32 * y + a + (k : Int) + 1 = 32 * y + a + ((k + 1 : Nat) : Int) by omega]
        refine ih (k + 1) (by omega) (by omega) (fun j hj il => ?_)
        rcases Nat.lt_succ_iff_lt_or_eq.mp hj with g | g
        · exact hc j g il
        · subst g
          first
            | (rw [← f18] at il
               exfalso
               have il' : 97 ≤ z18 ∧ z18 ≤ 122 := il
               omega)
            | (rw [← f47, ← f29]; omega)
      · refine w_aload_n dX12_isFrom_24 rfl ?_
        refine v_getR (j := 185) dX12_isFrom_25 fX12_50 ⟨by decide, rfl⟩ rfl rfl ?_
        refine w_iload_n dX12_isFrom_28 rfl ?_
        refine v_iald dX12_isFrom_29 ⟨by decide, rfl⟩ (by omega) (by omega) (by decide) (fun z29 e29 b29 => ?_)
        have f29 : z29 = rsAt I y (a + k) := by rw [rsAt_in hy (by omega), e29]; congr 2; omega
        refine w_aload_n dX12_isFrom_30 rfl ?_
        refine v_getR (j := 184) dX12_isFrom_31 fX12_47 ⟨by decide, rfl⟩ rfl rfl ?_
        refine w_bipush (v := iI 10) dX12_isFrom_34 (by decide) ?_
        refine w_iload_n dX12_isFrom_36 rfl ?_
        refine v_imul dX12_isFrom_37 ?_
        refine w_iload_n dX12_isFrom_38 rfl ?_
        refine v_iadd dX12_isFrom_39 ?_
        refine w_iload_n dX12_isFrom_40 rfl ?_
        refine v_iadd dX12_isFrom_41 ?_
        refine w_aload_n dX12_isFrom_42 rfl ?_
        refine v_getI dX12_isFrom_43 fX12_116 ⟨by decide, rfl⟩ (Or.inl rfl) (fun z43 e43 b43 => ?_)
        have f43 : z43 = 32 * y + a := by rw [e43]; exact hF
        refine v_isub dX12_isFrom_46 ?_
        refine v_iald dX12_isFrom_47 ⟨by decide, rfl⟩ (by omega) (by omega) (by decide) (fun z47 e47 b47 => ?_)
        have f47 : z47 = rd I 184 (10 * w + i + k) := by rw [e47]; congr 1; omega
        refine v_icmp_eq 53 dX12_isFrom_48 (by decide) (by omega) (by omega) (fun c48 => ?_) (fun c48 => ?_)
        · refine v_iinc dX12_isFrom_53 rfl rfl rfl ?_
          refine w_goto 5 dX12_isFrom_56 (by decide) ?_
          rw [show 32 * y + a + (k : Int) + 1 = 32 * y + a + ((k + 1 : Nat) : Int) by omega]
          refine ih (k + 1) (by omega) (by omega) (fun j hj il => ?_)
          rcases Nat.lt_succ_iff_lt_or_eq.mp hj with g | g
          · exact hc j g il
          · subst g
            first
              | (rw [← f18] at il
                 exfalso
                 have il' : 97 ≤ z18 ∧ z18 ≤ 122 := il
                 omega)
              | (rw [← f47, ← f29]; omega)
        · refine w_iconst (v := iI 0) dX12_isFrom_51 rfl ?_
          refine v_zret dX12_isFrom_52 rfl ⟨rfl, rfl⟩ (by decide) ?_
          refine hf (fun g => ?_)
          have tx := htx (a + k) (by omega) (by omega)
          have g1 := g k (by omega)
          rw [← f29, ← f47] at g1
          rw [← f29] at tx
          have tx' : z29 = 46 ∨ (97 ≤ z29 ∧ z29 ≤ 122) := tx
          have g2 := g1 (show 97 ≤ z29 ∧ z29 ≤ 122 by omega)
          omega
theorem x12_isFrom {I : Nat → Nat → Int32} {J : Nat → Nat → Int64} {F : Option Value → zM → Prop} {y a e : Int} (hy : 0 ≤ y ∧ y < 16) (ha0 : 0 ≤ a) (hae : a < e) (he : e ≤ 32) (hF : rd I 171 17 = 32 * y + a) (hE : rd I 171 18 = 32 * y + e) (htx : ∀ x, a ≤ x → x < e → isTx (rsAt I y x)) {w i : Nat} (hw : w < 12) (hi : ((i : Int) + (e - a)) ≤ 10) (ht : (∀ j : Nat, j < (e - a).toNat → isLt (rsAt I y (a + j)) → rd I 184 (10 * w + i + j) = rsAt I y (a + j)) → F (some (.int (iI 1))) (gM I J)) (hf : ¬ (∀ j : Nat, j < (e - a).toNat → isLt (rsAt I y (a + j)) → rd I 184 (10 * w + i + j) = rsAt I y (a + j)) → F (some (.int (iI 0))) (gM I J)) : Cl yX12_isFrom kX12_isFrom [.ref 171, .int (iI (w : Int)), .int (iI (i : Int))] (gM I J) F := by
  refine cl_s (by decide) (by decide) (Nat.le_of_ble_eq_true rfl) rt_z ?_
  show Wp _ F 0 [(0, .ref 171), (1, .int (iI (w : Int))), (2, .int (iI (i : Int)))] [] _
  refine w_aload_n dX12_isFrom_0 rfl ?_
  refine v_getI dX12_isFrom_1 fX12_116 ⟨by decide, rfl⟩ (Or.inl rfl) (fun z1 e1 b1 => ?_)
  have f1 : z1 = 32 * y + a := by rw [e1]; exact hF
  refine w_istore_n dX12_isFrom_4 rfl rfl ?_
  rw [f1, show 32 * y + a = 32 * y + a + ((0 : Nat) : Int) by omega]
  exact x12_isFrom_l hy ha0 hae he hF hE htx hw hi ht hf ((e - a).toNat + 1) 0 (by omega) (by omega) (fun j hj => by omega)
theorem x12_canBe_l {I : Nat → Nat → Int32} {J : Nat → Nat → Int64} {F : Option Value → zM → Prop} {y a e : Int} (hy : 0 ≤ y ∧ y < 16) (ha0 : 0 ≤ a) (hae : a < e) (he : e ≤ 32) (hF : rd I 171 17 = 32 * y + a) (hE : rd I 171 18 = 32 * y + e) (htx : ∀ x, a ≤ x → x < e → isTx (rsAt I y x)) (hA : rd I 171 19 = c44 (rsAt I y (a - 1))) (hB : rd I 171 20 = c44 (rsAt I y e)) {w : Nat} (hw : w < 12) (hsz : 1 ≤ rd I 183 w ∧ rd I 183 w ≤ 10) (ht : (cB I (fun j => rsAt I y (a + j)) (e - a).toNat (c44 (rsAt I y (a - 1))) (c44 (rsAt I y e)) w) → F (some (.int (iI 1))) (gM I J)) (hf : ¬ (cB I (fun j => rsAt I y (a + j)) (e - a).toNat (c44 (rsAt I y (a - 1))) (c44 (rsAt I y e)) w) → F (some (.int (iI 0))) (gM I J)) : ∀ (nz : Nat) (i : Nat), 12 - i < nz → i ≤ 11 → (∀ j : Nat, j < i → ((j + (e - a).toNat : Nat) : Int) ≤ rd I 183 w → (c44 (rsAt I y (a - 1)) ≠ 0 → j = 0) → (c44 (rsAt I y e) ≠ 0 → ((j + (e - a).toNat : Nat) : Int) = rd I 183 w) → ¬ (∀ u : Nat, u < (e - a).toNat → isLt (rsAt I y (a + u)) → rd I 184 (10 * w + j + u) = rsAt I y (a + u))) → Wp (sE kX12_canBe RX12) F 12 [(0, .ref 171), (1, .int (iI (w : Int))), (2, .int (iI (32 * y + e - (32 * y + a)))), (3, .int (iI (i : Int)))] [] (gM I J) := by
  intro nz
  induction nz with
  | zero =>
    intro i hmz hi hc
    exact absurd hmz (Nat.not_lt_zero _)
  | succ nz ih =>
    intro i hmz hi hc
    refine w_iload_n dX12_canBe_12 rfl ?_
    refine w_iload_n dX12_canBe_13 rfl ?_
    refine v_iadd dX12_canBe_14 ?_
    refine w_aload_n dX12_canBe_15 rfl ?_
    refine v_getR (j := 183) dX12_canBe_16 fX12_44 ⟨by decide, rfl⟩ rfl rfl ?_
    refine w_iload_n dX12_canBe_19 rfl ?_
    refine v_iald dX12_canBe_20 ⟨by decide, rfl⟩ (by omega) (by omega) (by decide) (fun z20 e20 b20 => ?_)
    have f20 : z20 = rd I 183 w := by rw [e20]; rfl
    refine v_icmp_gt 74 dX12_canBe_21 (by decide) (by omega) (by omega) (fun c21 => ?_) (fun c21 => ?_)
    · refine w_iconst (v := iI 0) dX12_canBe_74 rfl ?_
      refine v_zret dX12_canBe_75 rfl ⟨rfl, rfl⟩ (by decide) ?_
      refine hf (fun ⟨j, g1, g2, g3, g4⟩ => hc j (by omega) g1 g2 g3 g4)
    · refine w_aload_n dX12_canBe_24 rfl ?_
      refine v_getI dX12_canBe_25 fX12_109 ⟨by decide, rfl⟩ (Or.inr rfl) (fun z25 e25 b25 => ?_)
      have f25 : z25 = c44 (rsAt I y (a - 1)) := by rw [e25]; exact hA
      refine v_if_eq 35 dX12_canBe_28 (by decide) (by omega) (fun c28 => ?_) (fun c28 => ?_)
      · refine w_aload_n dX12_canBe_35 rfl ?_
        refine v_getI dX12_canBe_36 fX12_113 ⟨by decide, rfl⟩ (Or.inr rfl) (fun z36 e36 b36 => ?_)
        have f36 : z36 = c44 (rsAt I y e) := by rw [e36]; exact hB
        refine v_if_eq 57 dX12_canBe_39 (by decide) (by omega) (fun c39 => ?_) (fun c39 => ?_)
        · refine w_aload_n dX12_canBe_57 rfl ?_
          refine w_iload_n dX12_canBe_58 rfl ?_
          refine w_iload_n dX12_canBe_59 rfl ?_
          refine v_callV2 dX12_canBe_60 lX12_122 vX12_isFrom (by decide) rfl rfl ⟨by decide, rfl⟩ (by decide) rfl (Nat.le_of_ble_eq_true rfl) ?_
          refine x12_isFrom hy ha0 hae he hF hE htx hw (i := i) (by omega) (fun q60 => ?_) (fun q60 => ?_)
          · refine v_if_eq 68 dX12_canBe_63 (by decide) (by decide) (fun q => absurd q (by decide)) (fun _ => ?_)
            refine w_iconst (v := iI 1) dX12_canBe_66 rfl ?_
            refine v_zret dX12_canBe_67 rfl ⟨rfl, rfl⟩ (by decide) ?_
            exact ht ⟨i, by omega, fun g => by omega, fun g => by omega, q60⟩
          · refine v_if_eq 68 dX12_canBe_63 (by decide) (by decide) (fun _ => ?_) (fun q => absurd q (by decide))
            refine v_iinc dX12_canBe_68 rfl rfl rfl ?_
            refine w_goto 12 dX12_canBe_71 (by decide) ?_
            rw [show (i : Int) + 1 = ((i + 1 : Nat) : Int) by omega]
            refine ih (i + 1) (by omega) (by omega) (fun j hj g1 g2 g3 g4 => ?_)
            rcases Nat.lt_succ_iff_lt_or_eq.mp hj with g | g
            · exact hc j g g1 g2 g3 g4
            · subst g
              first
                | exact q60 g4
                | (have := g2 (by omega)
                   omega)
                | (have := g3 (by omega)
                   omega)
        · refine w_iload_n dX12_canBe_42 rfl ?_
          refine w_iload_n dX12_canBe_43 rfl ?_
          refine v_iadd dX12_canBe_44 ?_
          refine w_aload_n dX12_canBe_45 rfl ?_
          refine v_getR (j := 183) dX12_canBe_46 fX12_44 ⟨by decide, rfl⟩ rfl rfl ?_
          refine w_iload_n dX12_canBe_49 rfl ?_
          refine v_iald dX12_canBe_50 ⟨by decide, rfl⟩ (by omega) (by omega) (by decide) (fun z50 e50 b50 => ?_)
          have f50 : z50 = rd I 183 w := by rw [e50]; rfl
          refine v_icmp_ge 57 dX12_canBe_51 (by decide) (by omega) (by omega) (fun c51 => ?_) (fun c51 => ?_)
          · refine w_aload_n dX12_canBe_57 rfl ?_
            refine w_iload_n dX12_canBe_58 rfl ?_
            refine w_iload_n dX12_canBe_59 rfl ?_
            refine v_callV2 dX12_canBe_60 lX12_122 vX12_isFrom (by decide) rfl rfl ⟨by decide, rfl⟩ (by decide) rfl (Nat.le_of_ble_eq_true rfl) ?_
            refine x12_isFrom hy ha0 hae he hF hE htx hw (i := i) (by omega) (fun q60 => ?_) (fun q60 => ?_)
            · refine v_if_eq 68 dX12_canBe_63 (by decide) (by decide) (fun q => absurd q (by decide)) (fun _ => ?_)
              refine w_iconst (v := iI 1) dX12_canBe_66 rfl ?_
              refine v_zret dX12_canBe_67 rfl ⟨rfl, rfl⟩ (by decide) ?_
              exact ht ⟨i, by omega, fun g => by omega, fun g => by omega, q60⟩
            · refine v_if_eq 68 dX12_canBe_63 (by decide) (by decide) (fun _ => ?_) (fun q => absurd q (by decide))
              refine v_iinc dX12_canBe_68 rfl rfl rfl ?_
              refine w_goto 12 dX12_canBe_71 (by decide) ?_
              rw [show (i : Int) + 1 = ((i + 1 : Nat) : Int) by omega]
              refine ih (i + 1) (by omega) (by omega) (fun j hj g1 g2 g3 g4 => ?_)
              rcases Nat.lt_succ_iff_lt_or_eq.mp hj with g | g
              · exact hc j g g1 g2 g3 g4
              · subst g
                first
                  | exact q60 g4
                  | (have := g2 (by omega)
                     omega)
                  | (have := g3 (by omega)
                     omega)
          · refine w_goto 68 dX12_canBe_54 (by decide) ?_
            refine v_iinc dX12_canBe_68 rfl rfl rfl ?_
            refine w_goto 12 dX12_canBe_71 (by decide) ?_
            rw [show (i : Int) + 1 = ((i + 1 : Nat) : Int) by omega]
            refine ih (i + 1) (by omega) (by omega) (fun j hj g1 g2 g3 g4 => ?_)
            rcases Nat.lt_succ_iff_lt_or_eq.mp hj with g | g
            · exact hc j g g1 g2 g3 g4
            · subst g
              first
                | exact q60 g4
                | (have := g2 (by omega)
                   omega)
                | (have := g3 (by omega)
                   omega)
      · refine w_iload_n dX12_canBe_31 rfl ?_
        refine v_if_gt 68 dX12_canBe_32 (by decide) (by omega) (fun c32 => ?_) (fun c32 => ?_)
        · refine v_iinc dX12_canBe_68 rfl rfl rfl ?_
          refine w_goto 12 dX12_canBe_71 (by decide) ?_
          rw [show (i : Int) + 1 = ((i + 1 : Nat) : Int) by omega]
          refine ih (i + 1) (by omega) (by omega) (fun j hj g1 g2 g3 g4 => ?_)
          rcases Nat.lt_succ_iff_lt_or_eq.mp hj with g | g
          · exact hc j g g1 g2 g3 g4
          · subst g
            first
              | exact q60 g4
              | (have := g2 (by omega)
                 omega)
              | (have := g3 (by omega)
                 omega)
        · refine w_aload_n dX12_canBe_35 rfl ?_
          refine v_getI dX12_canBe_36 fX12_113 ⟨by decide, rfl⟩ (Or.inr rfl) (fun z36 e36 b36 => ?_)
          have f36 : z36 = c44 (rsAt I y e) := by rw [e36]; exact hB
          refine v_if_eq 57 dX12_canBe_39 (by decide) (by omega) (fun c39 => ?_) (fun c39 => ?_)
          · refine w_aload_n dX12_canBe_57 rfl ?_
            refine w_iload_n dX12_canBe_58 rfl ?_
            refine w_iload_n dX12_canBe_59 rfl ?_
            refine v_callV2 dX12_canBe_60 lX12_122 vX12_isFrom (by decide) rfl rfl ⟨by decide, rfl⟩ (by decide) rfl (Nat.le_of_ble_eq_true rfl) ?_
            refine x12_isFrom hy ha0 hae he hF hE htx hw (i := i) (by omega) (fun q60 => ?_) (fun q60 => ?_)
            · refine v_if_eq 68 dX12_canBe_63 (by decide) (by decide) (fun q => absurd q (by decide)) (fun _ => ?_)
              refine w_iconst (v := iI 1) dX12_canBe_66 rfl ?_
              refine v_zret dX12_canBe_67 rfl ⟨rfl, rfl⟩ (by decide) ?_
              exact ht ⟨i, by omega, fun g => by omega, fun g => by omega, q60⟩
            · refine v_if_eq 68 dX12_canBe_63 (by decide) (by decide) (fun _ => ?_) (fun q => absurd q (by decide))
              refine v_iinc dX12_canBe_68 rfl rfl rfl ?_
              refine w_goto 12 dX12_canBe_71 (by decide) ?_
              rw [show (i : Int) + 1 = ((i + 1 : Nat) : Int) by omega]
              refine ih (i + 1) (by omega) (by omega) (fun j hj g1 g2 g3 g4 => ?_)
              rcases Nat.lt_succ_iff_lt_or_eq.mp hj with g | g
              · exact hc j g g1 g2 g3 g4
              · subst g
                first
                  | exact q60 g4
                  | (have := g2 (by omega)
                     omega)
                  | (have := g3 (by omega)
                     omega)
          · refine w_iload_n dX12_canBe_42 rfl ?_
            refine w_iload_n dX12_canBe_43 rfl ?_
            refine v_iadd dX12_canBe_44 ?_
            refine w_aload_n dX12_canBe_45 rfl ?_
            refine v_getR (j := 183) dX12_canBe_46 fX12_44 ⟨by decide, rfl⟩ rfl rfl ?_
            refine w_iload_n dX12_canBe_49 rfl ?_
            refine v_iald dX12_canBe_50 ⟨by decide, rfl⟩ (by omega) (by omega) (by decide) (fun z50 e50 b50 => ?_)
            have f50 : z50 = rd I 183 w := by rw [e50]; rfl
            refine v_icmp_ge 57 dX12_canBe_51 (by decide) (by omega) (by omega) (fun c51 => ?_) (fun c51 => ?_)
            · refine w_aload_n dX12_canBe_57 rfl ?_
              refine w_iload_n dX12_canBe_58 rfl ?_
              refine w_iload_n dX12_canBe_59 rfl ?_
              refine v_callV2 dX12_canBe_60 lX12_122 vX12_isFrom (by decide) rfl rfl ⟨by decide, rfl⟩ (by decide) rfl (Nat.le_of_ble_eq_true rfl) ?_
              refine x12_isFrom hy ha0 hae he hF hE htx hw (i := i) (by omega) (fun q60 => ?_) (fun q60 => ?_)
              · refine v_if_eq 68 dX12_canBe_63 (by decide) (by decide) (fun q => absurd q (by decide)) (fun _ => ?_)
                refine w_iconst (v := iI 1) dX12_canBe_66 rfl ?_
                refine v_zret dX12_canBe_67 rfl ⟨rfl, rfl⟩ (by decide) ?_
                exact ht ⟨i, by omega, fun g => by omega, fun g => by omega, q60⟩
              · refine v_if_eq 68 dX12_canBe_63 (by decide) (by decide) (fun _ => ?_) (fun q => absurd q (by decide))
                refine v_iinc dX12_canBe_68 rfl rfl rfl ?_
                refine w_goto 12 dX12_canBe_71 (by decide) ?_
                rw [show (i : Int) + 1 = ((i + 1 : Nat) : Int) by omega]
                refine ih (i + 1) (by omega) (by omega) (fun j hj g1 g2 g3 g4 => ?_)
                rcases Nat.lt_succ_iff_lt_or_eq.mp hj with g | g
                · exact hc j g g1 g2 g3 g4
                · subst g
                  first
                    | exact q60 g4
                    | (have := g2 (by omega)
                       omega)
                    | (have := g3 (by omega)
                       omega)
            · refine w_goto 68 dX12_canBe_54 (by decide) ?_
              refine v_iinc dX12_canBe_68 rfl rfl rfl ?_
              refine w_goto 12 dX12_canBe_71 (by decide) ?_
              rw [show (i : Int) + 1 = ((i + 1 : Nat) : Int) by omega]
              refine ih (i + 1) (by omega) (by omega) (fun j hj g1 g2 g3 g4 => ?_)
              rcases Nat.lt_succ_iff_lt_or_eq.mp hj with g | g
              · exact hc j g g1 g2 g3 g4
              · subst g
                first
                  | exact q60 g4
                  | (have := g2 (by omega)
                     omega)
                  | (have := g3 (by omega)
                     omega)
theorem x12_canBe {I : Nat → Nat → Int32} {J : Nat → Nat → Int64} {F : Option Value → zM → Prop} {y a e : Int} (hy : 0 ≤ y ∧ y < 16) (ha0 : 0 ≤ a) (hae : a < e) (he : e ≤ 32) (hF : rd I 171 17 = 32 * y + a) (hE : rd I 171 18 = 32 * y + e) (htx : ∀ x, a ≤ x → x < e → isTx (rsAt I y x)) (hA : rd I 171 19 = c44 (rsAt I y (a - 1))) (hB : rd I 171 20 = c44 (rsAt I y e)) {w : Nat} (hw : w < 12) (hsz : 1 ≤ rd I 183 w ∧ rd I 183 w ≤ 10) (ht : (cB I (fun j => rsAt I y (a + j)) (e - a).toNat (c44 (rsAt I y (a - 1))) (c44 (rsAt I y e)) w) → F (some (.int (iI 1))) (gM I J)) (hf : ¬ (cB I (fun j => rsAt I y (a + j)) (e - a).toNat (c44 (rsAt I y (a - 1))) (c44 (rsAt I y e)) w) → F (some (.int (iI 0))) (gM I J)) : Cl yX12_canBe kX12_canBe [.ref 171, .int (iI (w : Int))] (gM I J) F := by
  refine cl_s (by decide) (by decide) (Nat.le_of_ble_eq_true rfl) rt_z ?_
  show Wp _ F 0 [(0, .ref 171), (1, .int (iI (w : Int)))] [] _
  refine w_aload_n dX12_canBe_0 rfl ?_
  refine v_getI dX12_canBe_1 fX12_119 ⟨by decide, rfl⟩ (Or.inl rfl) (fun z1 e1 b1 => ?_)
  have f1 : z1 = 32 * y + e := by rw [e1]; exact hE
  refine w_aload_n dX12_canBe_4 rfl ?_
  refine v_getI dX12_canBe_5 fX12_116 ⟨by decide, rfl⟩ (Or.inl rfl) (fun z5 e5 b5 => ?_)
  have f5 : z5 = 32 * y + a := by rw [e5]; exact hF
  refine v_isub dX12_canBe_8 ?_
  refine w_istore_n dX12_canBe_9 rfl rfl ?_
  refine w_iconst (v := iI 0) dX12_canBe_10 rfl ?_
  refine w_istore_n dX12_canBe_11 rfl rfl ?_
  rw [f1, f5]
  exact x12_canBe_l hy ha0 hae he hF hE htx hA hB hw hsz ht hf 13 0 (by omega) (by omega) (fun j hj => by omega)
