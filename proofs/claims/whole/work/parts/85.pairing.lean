/-! Pairing -/
theorem x0_hasCell {I : Nat → Nat → Int32} {J : Nat → Nat → Int64} {F : Option Value → zM → Prop} {b : Nat} (hb : b < 10) {ce : Nat → Int} (hS : ∀ k, k < 50 → rd I (bI b 1) k = ce k) {r c : Int} (br : -2147483648 ≤ r ∧ r < 2147483648) (bc : -2147483648 ≤ c ∧ c < 2147483648) (ht : cA ce 0 0 r c ≠ 95 → F (some (.int (iI 1))) (gM I J)) (hf : cA ce 0 0 r c = 95 → F (some (.int (iI 0))) (gM I J)) : Cl yX0_hasCell kX0_hasCell [.ref (bI b 0), .int (iI r), .int (iI c)] (gM I J) F := by
  refine cl_s (by decide) (by decide) (Nat.le_of_ble_eq_true rfl) rt_z ?_
  show Wp _ F 0 [(0, .ref (bI b 0)), (1, .int (iI r)), (2, .int (iI c))] [] _
  refine w_iload_n dX0_hasCell_0 rfl ?_
  refine v_if_lt 39 dX0_hasCell_1 (by decide) (by omega) (fun c1 => ?_) (fun c1 => ?_)
  · refine w_iconst (v := iI 0) dX0_hasCell_39 rfl ?_
    refine v_zret dX0_hasCell_40 rfl ⟨rfl, rfl⟩ (by decide) ?_
    first
      | (have ex : cA ce 0 0 r c = z29 := by
           unfold cA
           rw [if_pos (by omega), e29, show (10 * (r - 0) + (c - 0)).toNat = (r * 10 + c).toNat by omega]
           exact (hS _ (by omega)).symm
         first
           | exact ht (by rw [ex]; omega)
           | exact hf (by rw [ex]; omega))
      | exact hf (by unfold cA; rw [if_neg (by omega)])
  · refine w_iload_n dX0_hasCell_4 rfl ?_
    refine w_iconst (v := iI 5) dX0_hasCell_5 rfl ?_
    refine v_icmp_ge 39 dX0_hasCell_6 (by decide) (by omega) (by omega) (fun c6 => ?_) (fun c6 => ?_)
    · refine w_iconst (v := iI 0) dX0_hasCell_39 rfl ?_
      refine v_zret dX0_hasCell_40 rfl ⟨rfl, rfl⟩ (by decide) ?_
      first
        | (have ex : cA ce 0 0 r c = z29 := by
             unfold cA
             rw [if_pos (by omega), e29, show (10 * (r - 0) + (c - 0)).toNat = (r * 10 + c).toNat by omega]
             exact (hS _ (by omega)).symm
           first
             | exact ht (by rw [ex]; omega)
             | exact hf (by rw [ex]; omega))
        | exact hf (by unfold cA; rw [if_neg (by omega)])
    · refine w_iload_n dX0_hasCell_9 rfl ?_
      refine v_if_lt 39 dX0_hasCell_10 (by decide) (by omega) (fun c10 => ?_) (fun c10 => ?_)
      · refine w_iconst (v := iI 0) dX0_hasCell_39 rfl ?_
        refine v_zret dX0_hasCell_40 rfl ⟨rfl, rfl⟩ (by decide) ?_
        first
          | (have ex : cA ce 0 0 r c = z29 := by
               unfold cA
               rw [if_pos (by omega), e29, show (10 * (r - 0) + (c - 0)).toNat = (r * 10 + c).toNat by omega]
               exact (hS _ (by omega)).symm
             first
               | exact ht (by rw [ex]; omega)
               | exact hf (by rw [ex]; omega))
          | exact hf (by unfold cA; rw [if_neg (by omega)])
      · refine w_iload_n dX0_hasCell_13 rfl ?_
        refine w_bipush (v := iI 10) dX0_hasCell_14 (by decide) ?_
        refine v_icmp_ge 39 dX0_hasCell_16 (by decide) (by omega) (by omega) (fun c16 => ?_) (fun c16 => ?_)
        · refine w_iconst (v := iI 0) dX0_hasCell_39 rfl ?_
          refine v_zret dX0_hasCell_40 rfl ⟨rfl, rfl⟩ (by decide) ?_
          first
            | (have ex : cA ce 0 0 r c = z29 := by
                 unfold cA
                 rw [if_pos (by omega), e29, show (10 * (r - 0) + (c - 0)).toNat = (r * 10 + c).toNat by omega]
                 exact (hS _ (by omega)).symm
               first
                 | exact ht (by rw [ex]; omega)
                 | exact hf (by rw [ex]; omega))
            | exact hf (by unfold cA; rw [if_neg (by omega)])
        · refine w_aload_n dX0_hasCell_19 rfl ?_
          refine v_getR (j := bI b 1) dX0_hasCell_20 fX0_9 (sO_b hb (by decide) rfl) rfl (r0_b hb (by decide)) ?_
          refine w_iload_n dX0_hasCell_23 rfl ?_
          refine w_bipush (v := iI 10) dX0_hasCell_24 (by decide) ?_
          refine v_imul dX0_hasCell_26 ?_
          refine w_iload_n dX0_hasCell_27 rfl ?_
          refine v_iadd dX0_hasCell_28 ?_
          refine v_iald dX0_hasCell_29 (sA_b hb (by decide) rfl) (by omega) (by omega) (by decide) (fun z29 e29 b29 => ?_)
          refine w_bipush (v := iI 95) dX0_hasCell_30 (by decide) ?_
          refine v_icmp_eq 39 dX0_hasCell_32 (by decide) (by omega) (by omega) (fun c32 => ?_) (fun c32 => ?_)
          · refine w_iconst (v := iI 0) dX0_hasCell_39 rfl ?_
            refine v_zret dX0_hasCell_40 rfl ⟨rfl, rfl⟩ (by decide) ?_
            first
              | (have ex : cA ce 0 0 r c = z29 := by
                   unfold cA
                   rw [if_pos (by omega), e29, show (10 * (r - 0) + (c - 0)).toNat = (r * 10 + c).toNat by omega]
                   exact (hS _ (by omega)).symm
                 first
                   | exact ht (by rw [ex]; omega)
                   | exact hf (by rw [ex]; omega))
              | exact hf (by unfold cA; rw [if_neg (by omega)])
          · refine w_iconst (v := iI 1) dX0_hasCell_35 rfl ?_
            refine w_goto 40 dX0_hasCell_36 (by decide) ?_
            refine v_zret dX0_hasCell_40 rfl ⟨rfl, rfl⟩ (by decide) ?_
            first
              | (have ex : cA ce 0 0 r c = z29 := by
                   unfold cA
                   rw [if_pos (by omega), e29, show (10 * (r - 0) + (c - 0)).toNat = (r * 10 + c).toNat by omega]
                   exact (hS _ (by omega)).symm
                 first
                   | exact ht (by rw [ex]; omega)
                   | exact hf (by rw [ex]; omega))
              | exact hf (by unfold cA; rw [if_neg (by omega)])
theorem x4_one {I : Nat → Nat → Int32} {J : Nat → Nat → Int64} {F : Option Value → zM → Prop} {v : Int} (hv : v = 0 ∨ v = 1) (h : F (some (.int (iI v))) (gM I J)) : Cl yX4_one kX4_one [.int (iI v)] (gM I J) F := by
  refine cl_s (by decide) (by decide) (Nat.le_of_ble_eq_true rfl) rt_i ?_
  show Wp _ F 0 [(0, .int (iI v))] [] _
  refine w_iload_n dX4_one_0 rfl ?_
  refine v_if_eq 8 dX4_one_1 (by decide) (by omega) (fun c1 => ?_) (fun c1 => ?_)
  · refine w_iconst (v := iI 0) dX4_one_8 rfl ?_
    refine v_iret dX4_one_9 rfl ⟨rfl, rfl⟩ ?_
    first
      | (rw [show v = 0 by omega] at h; exact h)
      | (rw [show v = 1 by omega] at h; exact h)
  · refine w_iconst (v := iI 1) dX4_one_4 rfl ?_
    refine w_goto 9 dX4_one_5 (by decide) ?_
    refine v_iret dX4_one_9 rfl ⟨rfl, rfl⟩ ?_
    first
      | (rw [show v = 0 by omega] at h; exact h)
      | (rw [show v = 1 by omega] at h; exact h)
theorem x0_hasCell_v {I : Nat → Nat → Int32} {J : Nat → Nat → Int64} {F : Option Value → zM → Prop} {b : Nat} (hb : b < 10) {ce : Nat → Int} (hS : ∀ k, k < 50 → rd I (bI b 1) k = ce k) {r c : Int} (br : -2147483648 ≤ r ∧ r < 2147483648) (bc : -2147483648 ≤ c ∧ c < 2147483648) (h : F (some (.int (iI (hcI ce r c)))) (gM I J)) : Cl yX0_hasCell kX0_hasCell [.ref (bI b 0), .int (iI r), .int (iI c)] (gM I J) F := by
  refine x0_hasCell hb hS br bc (fun g => ?_) (fun g => ?_)
  · rw [show hcI ce r c = 1 from if_pos g] at h; exact h
  · rw [show hcI ce r c = 0 from if_neg (fun q => q g)] at h; exact h
theorem x4_countSides_l {I : Nat → Nat → Int32} {J : Nat → Nat → Int64} {F : Option Value → zM → Prop} {a b n n1 : Nat} {ca cb : Nat → Int} (hA : bK I a ca n1) (hB : bK I b cb n) {rs cs : Int} (hrs : -1000 ≤ rs ∧ rs ≤ 1000) (hcs : -1000 ≤ cs ∧ cs ≤ 1000) (h : F (some (.int (iI (csV I ca b n rs cs)))) (gM I J)) : ∀ (nz : Nat) (j : Nat) (u : Int), n - j < nz → j ≤ n → u = smN (fun j => h4I ca (rd I (bI b 2) j + rs) (rd I (bI b 3) j + cs)) j → (∀ i, i < j → cA ca 0 0 (rd I (bI b 2) i + rs) (rd I (bI b 3) i + cs) = 95) → Wp (sE kX4_countSides RX4) F 6 [(0, .ref (bI a 0)), (1, .ref (bI b 0)), (2, .int (iI rs)), (3, .int (iI cs)), (4, .int (iI u)), (5, .int (iI (j : Int)))] [] (gM I J) := by
  intro nz
  induction nz with
  | zero =>
    intro j u hmz hj hu hd
    exact absurd hmz (Nat.not_lt_zero _)
  | succ nz ih =>
    intro j u hmz hj hu hd
    refine w_iload dX4_countSides_6 rfl ?_
    refine w_aload_n dX4_countSides_8 rfl ?_
    refine v_getI dX4_countSides_9 fX4_40 (sO_b hB.1 (by decide) rfl) (Or.inl rfl) (fun z9 e9 b9 => ?_)
    have f9 : z9 = n := by rw [e9]; exact hB.2.2.1.1
    have n50 := hB.2.2.1.2.1
    refine v_icmp_ge 116 dX4_countSides_12 (by decide) (by omega) (by omega) (fun c12 => ?_) (fun c12 => ?_)
    · refine w_iload dX4_countSides_116 rfl ?_
      refine v_iret dX4_countSides_118 rfl ⟨rfl, rfl⟩ ?_
      have e0 : j = n := by omega
      have q : ¬ ovl I ca b n rs cs := fun ⟨i, h1, h2⟩ => h2 (hd i (by omega))
      have ex : csV I ca b n rs cs = smN (fun j => h4I ca (rd I (bI b 2) j + rs) (rd I (bI b 3) j + cs)) n := if_neg q
      rw [ex, ← e0, ← hu] at h; exact h
    · refine w_aload_n dX4_countSides_15 rfl ?_
      refine v_getR (j := bI b 2) dX4_countSides_16 fX4_44 (sO_b hB.1 (by decide) rfl) rfl (r0_b hB.1 (by decide)) ?_
      refine w_iload dX4_countSides_19 rfl ?_
      refine v_iald dX4_countSides_21 (sA_b hB.1 (by decide) rfl) (by omega) (by omega) (by decide) (fun z21 e21 b21 => ?_)
      have f21 : z21 = rd I (bI b 2) j := by rw [e21]; rfl
      have cl := hB.2.2.1.2.2.1 j (by omega)
      refine w_iload_n dX4_countSides_22 rfl ?_
      refine v_iadd dX4_countSides_23 ?_
      refine w_istore dX4_countSides_24 rfl rfl ?_
      refine w_aload_n dX4_countSides_26 rfl ?_
      refine v_getR (j := bI b 3) dX4_countSides_27 fX4_47 (sO_b hB.1 (by decide) rfl) rfl (r0_b hB.1 (by decide)) ?_
      refine w_iload dX4_countSides_30 rfl ?_
      refine v_iald dX4_countSides_32 (sA_b hB.1 (by decide) rfl) (by omega) (by omega) (by decide) (fun z32 e32 b32 => ?_)
      have f32 : z32 = rd I (bI b 3) j := by rw [e32]; rfl
      refine w_iload_n dX4_countSides_33 rfl ?_
      refine v_iadd dX4_countSides_34 ?_
      refine w_istore dX4_countSides_35 rfl rfl ?_
      refine w_aload_n dX4_countSides_37 rfl ?_
      refine w_iload dX4_countSides_38 rfl ?_
      refine w_iload dX4_countSides_40 rfl ?_
      refine v_callV2 dX4_countSides_42 lX4_50 vX0_hasCell (by decide) rfl rfl (sO_b hA.1 (by decide) rfl) (by decide) rfl (Nat.le_of_ble_eq_true rfl) ?_
      refine x0_hasCell hA.1 hA.2.1 (by omega) (by omega) (fun g42 => ?_) (fun g42 => ?_)
      · refine v_if_eq 50 dX4_countSides_45 (by decide) (by decide) (fun q => absurd q (by decide)) (fun _ => ?_)
        refine w_iconst (v := iI (-1)) dX4_countSides_48 rfl ?_
        refine v_iret dX4_countSides_49 rfl ⟨rfl, rfl⟩ ?_
        have q : ovl I ca b n rs cs := ⟨j, by omega, by rw [← f21, ← f32]; exact g42⟩
        have ex : csV I ca b n rs cs = -1 := if_pos q
        rw [ex] at h; exact h
      · refine v_if_eq 50 dX4_countSides_45 (by decide) (by decide) (fun _ => ?_) (fun q => absurd q (by decide))
        refine w_iload dX4_countSides_50 rfl ?_
        refine w_aload_n dX4_countSides_52 rfl ?_
        refine w_iload dX4_countSides_53 rfl ?_
        refine w_iconst (v := iI 1) dX4_countSides_55 rfl ?_
        refine v_isub dX4_countSides_56 ?_
        refine w_iload dX4_countSides_57 rfl ?_
        refine v_callV2 dX4_countSides_59 lX4_50 vX0_hasCell (by decide) rfl rfl (sO_b hA.1 (by decide) rfl) (by decide) rfl (Nat.le_of_ble_eq_true rfl) ?_
        refine x0_hasCell_v hA.1 hA.2.1 (by omega) (by omega) ?_
        refine v_callS1 dX4_countSides_62 lX4_54 vX4_one (by decide) rfl rfl (Nat.le_of_ble_eq_true rfl) ?_
        refine x4_one (by have := hcI_bd ca (z21 + rs - 1) (z32 + cs); omega) ?_
        refine w_aload_n dX4_countSides_65 rfl ?_
        refine w_iload dX4_countSides_66 rfl ?_
        refine w_iconst (v := iI 1) dX4_countSides_68 rfl ?_
        refine v_iadd dX4_countSides_69 ?_
        refine w_iload dX4_countSides_70 rfl ?_
        refine v_callV2 dX4_countSides_72 lX4_50 vX0_hasCell (by decide) rfl rfl (sO_b hA.1 (by decide) rfl) (by decide) rfl (Nat.le_of_ble_eq_true rfl) ?_
        refine x0_hasCell_v hA.1 hA.2.1 (by omega) (by omega) ?_
        refine v_callS1 dX4_countSides_75 lX4_54 vX4_one (by decide) rfl rfl (Nat.le_of_ble_eq_true rfl) ?_
        refine x4_one (by have := hcI_bd ca (z21 + rs + 1) (z32 + cs); omega) ?_
        refine v_iadd dX4_countSides_78 ?_
        refine w_aload_n dX4_countSides_79 rfl ?_
        refine w_iload dX4_countSides_80 rfl ?_
        refine w_iload dX4_countSides_82 rfl ?_
        refine w_iconst (v := iI 1) dX4_countSides_84 rfl ?_
        refine v_isub dX4_countSides_85 ?_
        refine v_callV2 dX4_countSides_86 lX4_50 vX0_hasCell (by decide) rfl rfl (sO_b hA.1 (by decide) rfl) (by decide) rfl (Nat.le_of_ble_eq_true rfl) ?_
        refine x0_hasCell_v hA.1 hA.2.1 (by omega) (by omega) ?_
        refine v_callS1 dX4_countSides_89 lX4_54 vX4_one (by decide) rfl rfl (Nat.le_of_ble_eq_true rfl) ?_
        refine x4_one (by have := hcI_bd ca (z21 + rs) (z32 + cs - 1); omega) ?_
        refine v_iadd dX4_countSides_92 ?_
        refine w_aload_n dX4_countSides_93 rfl ?_
        refine w_iload dX4_countSides_94 rfl ?_
        refine w_iload dX4_countSides_96 rfl ?_
        refine w_iconst (v := iI 1) dX4_countSides_98 rfl ?_
        refine v_iadd dX4_countSides_99 ?_
        refine v_callV2 dX4_countSides_100 lX4_50 vX0_hasCell (by decide) rfl rfl (sO_b hA.1 (by decide) rfl) (by decide) rfl (Nat.le_of_ble_eq_true rfl) ?_
        refine x0_hasCell_v hA.1 hA.2.1 (by omega) (by omega) ?_
        refine v_callS1 dX4_countSides_103 lX4_54 vX4_one (by decide) rfl rfl (Nat.le_of_ble_eq_true rfl) ?_
        refine x4_one (by have := hcI_bd ca (z21 + rs) (z32 + cs + 1); omega) ?_
        refine v_iadd dX4_countSides_106 ?_
        refine v_iadd dX4_countSides_107 ?_
        refine w_istore dX4_countSides_108 rfl rfl ?_
        refine v_iinc dX4_countSides_110 rfl rfl rfl ?_
        refine w_goto 6 dX4_countSides_113 (by decide) ?_
        refine w_keep 6 ?_
        rw [show (j : Int) + 1 = ((j + 1 : Nat) : Int) by omega]
        refine ih (j + 1) _ (by omega) (by omega) ?_ (fun i hi => ?_)
        · rw [smN, ← hu]
          (try dsimp only)
          rw [← f21, ← f32]
          unfold h4I
          omega
        · rcases Nat.lt_succ_iff_lt_or_eq.mp hi with g | g
          · exact hd i g
          · rw [g, ← f21, ← f32]; exact g42
theorem x4_countSides {I : Nat → Nat → Int32} {J : Nat → Nat → Int64} {F : Option Value → zM → Prop} {a b n n1 : Nat} {ca cb : Nat → Int} (hA : bK I a ca n1) (hB : bK I b cb n) {rs cs : Int} (hrs : -1000 ≤ rs ∧ rs ≤ 1000) (hcs : -1000 ≤ cs ∧ cs ≤ 1000) (h : F (some (.int (iI (csV I ca b n rs cs)))) (gM I J)) : Cl yX4_countSides kX4_countSides [.ref (bI a 0), .ref (bI b 0), .int (iI rs), .int (iI cs)] (gM I J) F := by
  refine cl_s (by decide) (by decide) (Nat.le_of_ble_eq_true rfl) rt_i ?_
  show Wp _ F 0 [(0, .ref (bI a 0)), (1, .ref (bI b 0)), (2, .int (iI rs)), (3, .int (iI cs))] [] _
  refine w_iconst (v := iI 0) dX4_countSides_0 rfl ?_
  refine w_istore dX4_countSides_1 rfl rfl ?_
  refine w_iconst (v := iI 0) dX4_countSides_3 rfl ?_
  refine w_istore dX4_countSides_4 rfl rfl ?_
  exact x4_countSides_l hA hB hrs hcs h (n + 1) 0 0 (by omega) (by omega) rfl (fun i hi => by omega)
theorem x1_wb_a {I : Nat → Nat → Int32} {J : Nat → Nat → Int64} {F : Option Value → zM → Prop} {a b : Nat} (ha : a < 10) (hb : b < 10) {sh : Int} (hsh : -1000 ≤ sh ∧ sh ≤ 1000) (h : F (some (.int (iI (waV I a b sh)))) (gM I J)) : Cl yX1_worthBeside kX1_worthBeside [.ref (bI a 6), .ref (bI b 6), .int (iI sh)] (gM I J) F := by
  refine x1_worthBeside_a ha hb hsh (fun q => ?_) (fun q => ?_)
  · have ex : waV I a b sh = -1 := if_pos q
    rw [ex] at h; exact h
  · have ex : waV I a b sh = _ := if_neg (fun (g : wqA I a b sh) => by obtain ⟨j, g1, g2⟩ := g; exact q j g1 g2)
    rw [ex] at h; exact h
theorem x1_wb_d {I : Nat → Nat → Int32} {J : Nat → Nat → Int64} {F : Option Value → zM → Prop} {a b : Nat} (ha : a < 10) (hb : b < 10) {sh : Int} (hsh : -1000 ≤ sh ∧ sh ≤ 1000) (h : F (some (.int (iI (wdV I a b sh)))) (gM I J)) : Cl yX1_worthBeside kX1_worthBeside [.ref (bI a 9), .ref (bI b 9), .int (iI sh)] (gM I J) F := by
  refine x1_worthBeside_d ha hb hsh (fun q => ?_) (fun q => ?_)
  · have ex : wdV I a b sh = -1 := if_pos q
    rw [ex] at h; exact h
  · have ex : wdV I a b sh = _ := if_neg (fun (g : wqD I a b sh) => by obtain ⟨j, g1, g2⟩ := g; exact q j g1 g2)
    rw [ex] at h; exact h
theorem x4_compare_d {I : Nat → Nat → Int32} {J : Nat → Nat → Int64} {F : Option Value → zM → Prop} {a b n n1 : Nat} {ca cb : Nat → Int} (hA : bK I a ca n1) (hB : bK I b cb n) (h : ∀ I', (∀ id k, ¬ (164 ≤ id ∧ id ≤ 166) → rd I' id k = rd I id k) → pR3 I I' a b n ca → F none (gM I' J)) : ∀ (nz : Nat) (k : Nat) (I' : Nat → Nat → Int32), 21 - k < nz → k ≤ 21 → (∀ id k, ¬ (164 ≤ id ∧ id ≤ 166) → rd I' id k = rd I id k) → (∀ i : Nat, i < 11 → rd I' 165 i = waV I a b ((i : Int) - 5)) → (∀ j : Nat, j < k → rd I' 166 j = wdV I a b ((j : Int) - 10)) → (∀ i k : Nat, i < 11 → k < 21 → rd I' 164 (i * 21 + k) = csV I ca b n ((i : Int) - 5) ((k : Int) - 10)) → Wp (sE kX4_compare RX4) F 80 [(0, .ref 163), (1, .ref (bI a 0)), (2, .ref (bI b 0)), (3, .int (iI (k : Int)))] [] (gM I' J) := by
  intro nz
  induction nz with
  | zero =>
    intro k I' hmz hk hx h5 h6 h4
    exact absurd hmz (Nat.not_lt_zero _)
  | succ nz ih =>
    intro k I' hmz hk hx h5 h6 h4
    have fx : fS I I' := fun id k g => hx id k (by omega)
    refine w_iload_n dX4_compare_80 rfl ?_
    refine w_bipush (v := iI 21) dX4_compare_81 (by decide) ?_
    refine v_icmp_ge 113 dX4_compare_83 (by decide) (by omega) (by omega) (fun c83 => ?_) (fun c83 => ?_)
    · refine v_vret dX4_compare_113 rfl ⟨rfl, rfl⟩ ?_
      exact h I' hx ⟨h5, fun k' g => h6 k' (by omega), h4⟩
    · refine w_aload_n dX4_compare_86 rfl ?_
      refine v_getR (j := 166) dX4_compare_87 fX4_18 ⟨by decide, rfl⟩ rfl rfl ?_
      refine w_iload_n dX4_compare_90 rfl ?_
      refine w_aload_n dX4_compare_91 rfl ?_
      refine v_getR (j := bI a 9) dX4_compare_92 fX4_37 (sO_b hA.1 (by decide) rfl) rfl (r0_b hA.1 (by decide)) ?_
      refine w_aload_n dX4_compare_95 rfl ?_
      refine v_getR (j := bI b 9) dX4_compare_96 fX4_37 (sO_b hB.1 (by decide) rfl) rfl (r0_b hB.1 (by decide)) ?_
      refine w_iload_n dX4_compare_99 rfl ?_
      refine w_bipush (v := iI 10) dX4_compare_100 (by decide) ?_
      refine v_isub dX4_compare_102 ?_
      refine v_callV2 dX4_compare_103 lX4_27 vX1_worthBeside (by decide) rfl rfl (sO_b hA.1 (by decide) rfl) (by decide) rfl (Nat.le_of_ble_eq_true rfl) ?_
      refine x1_wb_d hA.1 hB.1 (by omega) ?_
      rw [wdV_S hA.1 hB.1 fx]
      have vb := wdV_bd I a b ((k : Int) - 10)
      refine v_iast dX4_compare_106 ⟨by decide, rfl⟩ (by omega) (by omega) (by decide) ?_
      refine v_iinc dX4_compare_107 rfl rfl rfl ?_
      refine w_goto 80 dX4_compare_110 (by decide) ?_
      rw [show (k : Int) + 1 = ((k + 1 : Nat) : Int) by omega]
      rw [Int.toNat_natCast]
      refine ih (k + 1) _ (by omega) (by omega) (fun id j g => ?_) (fun i g => ?_) (fun j g => ?_) (fun i j g1 g2 => ?_)
      · rw [rd_wr_row (by omega)]; exact hx id j g
      · rw [rd_wr_row (by decide)]; exact h5 i g
      · rw [rd_wr (by omega) (by omega)]
        by_cases u : j = k
        · rw [if_pos ⟨rfl, u⟩, u]
        · rw [if_neg (fun q => u q.2)]; exact h6 j (by omega)
      · rw [rd_wr_row (by decide)]; exact h4 i j g1 g2
theorem x4_compare_a {I : Nat → Nat → Int32} {J : Nat → Nat → Int64} {F : Option Value → zM → Prop} {a b n n1 : Nat} {ca cb : Nat → Int} (hA : bK I a ca n1) (hB : bK I b cb n) (h : ∀ I', (∀ id k, ¬ (164 ≤ id ∧ id ≤ 166) → rd I' id k = rd I id k) → pR3 I I' a b n ca → F none (gM I' J)) : ∀ (nz : Nat) (i : Nat) (k : Nat) (I' : Nat → Nat → Int32), (11 - i) * 22 + (21 - k) < nz → i < 11 → k ≤ 21 → (∀ id k, ¬ (164 ≤ id ∧ id ≤ 166) → rd I' id k = rd I id k) → (∀ i' : Nat, i' ≤ i → rd I' 165 i' = waV I a b ((i' : Int) - 5)) → (∀ i' k' : Nat, i' < 11 → k' < 21 → i' * 21 + k' < i * 21 + k → rd I' 164 (i' * 21 + k') = csV I ca b n ((i' : Int) - 5) ((k' : Int) - 10)) → Wp (sE kX4_compare RX4) F 35 [(0, .ref 163), (1, .ref (bI a 0)), (2, .ref (bI b 0)), (3, .int (iI (i : Int))), (4, .int (iI ((i : Int) - 5))), (5, .int (iI (k : Int)))] [] (gM I' J) := by
  intro nz
  induction nz with
  | zero =>
    intro i k I' hmz hi hk hx h5 h4
    exact absurd hmz (Nat.not_lt_zero _)
  | succ nz ih =>
    intro i k I' hmz hi hk hx h5 h4
    have fx : fS I I' := fun id k g => hx id k (by omega)
    refine w_iload dX4_compare_35 rfl ?_
    refine w_bipush (v := iI 21) dX4_compare_37 (by decide) ?_
    refine v_icmp_ge 72 dX4_compare_39 (by decide) (by omega) (by omega) (fun c39 => ?_) (fun c39 => ?_)
    · refine v_iinc dX4_compare_72 rfl rfl rfl ?_
      refine w_goto 2 dX4_compare_75 (by decide) ?_
      refine w_iload_n dX4_compare_2 rfl ?_
      refine w_bipush (v := iI 11) dX4_compare_3 (by decide) ?_
      refine v_icmp_ge 78 dX4_compare_5 (by decide) (by omega) (by omega) (fun c5 => ?_) (fun c5 => ?_)
      · refine w_iconst (v := iI 0) dX4_compare_78 rfl ?_
        refine w_istore_n dX4_compare_79 rfl rfl ?_
        refine w_keep 4 ?_
        exact x4_compare_d hA hB h 22 0 I' (by omega) (by omega) hx (fun i' g => h5 i' (by omega)) (fun j g => by omega) (fun i' k' g1 g2 => h4 i' k' g1 g2 (by omega))
      · refine w_iload_n dX4_compare_8 rfl ?_
        refine w_iconst (v := iI 5) dX4_compare_9 rfl ?_
        refine v_isub dX4_compare_10 ?_
        refine w_istore dX4_compare_11 rfl rfl ?_
        refine w_aload_n dX4_compare_13 rfl ?_
        refine v_getR (j := 165) dX4_compare_14 fX4_15 ⟨by decide, rfl⟩ rfl rfl ?_
        refine w_iload_n dX4_compare_17 rfl ?_
        refine w_aload_n dX4_compare_18 rfl ?_
        refine v_getR (j := bI a 6) dX4_compare_19 fX4_21 (sO_b hA.1 (by decide) rfl) rfl (r0_b hA.1 (by decide)) ?_
        refine w_aload_n dX4_compare_22 rfl ?_
        refine v_getR (j := bI b 6) dX4_compare_23 fX4_21 (sO_b hB.1 (by decide) rfl) rfl (r0_b hB.1 (by decide)) ?_
        refine w_iload dX4_compare_26 rfl ?_
        refine v_callV2 dX4_compare_28 lX4_27 vX1_worthBeside (by decide) rfl rfl (sO_b hA.1 (by decide) rfl) (by decide) rfl (Nat.le_of_ble_eq_true rfl) ?_
        rw [show (i : Int) + 1 - 5 = ((i + 1 : Nat) : Int) - 5 by omega]
        refine x1_wb_a hA.1 hB.1 (by omega) ?_
        rw [waV_S hA.1 hB.1 fx]
        have va := waV_bd I a b (((i + 1 : Nat) : Int) - 5)
        refine v_iast dX4_compare_31 ⟨by decide, rfl⟩ (by omega) (by omega) (by decide) ?_
        refine w_iconst (v := iI 0) dX4_compare_32 rfl ?_
        refine w_istore dX4_compare_33 rfl rfl ?_
        first
          | (rw [show (k : Int) + 1 = ((k + 1 : Nat) : Int) by omega]
             refine ih i (k + 1) _ (by omega) (by omega) (by omega) (fun id j g => ?_) (fun i' g => ?_) (fun i' k' g1 g2 g3 => ?_)
             · rw [rd_wr_row (by omega)]; exact hx id j g
             · rw [rd_wr_row (by decide)]; exact h5 i' g
             · rw [rd_wr (by omega) (by omega)]
               by_cases u : i' = i ∧ k' = k
               · rw [if_pos ⟨rfl, by omega⟩, u.1, u.2]
               · rw [if_neg (fun q => u (by have := q.2; omega))]; exact h4 i' k' g1 g2 (by omega))
          | (refine w_keep 6 ?_
             rw [show (i : Int) + 1 = ((i + 1 : Nat) : Int) by omega]
             rw [Int.toNat_natCast]
             refine ih (i + 1) 0 _ (by omega) (by omega) (by omega) (fun id j g => ?_) (fun i' g => ?_) (fun i' k' g1 g2 g3 => ?_)
             · rw [rd_wr_row (by omega)]; exact hx id j g
             · rw [rd_wr (by omega) (by omega)]
               by_cases u : i' = i + 1
               · rw [if_pos ⟨rfl, u⟩, u]
               · rw [if_neg (fun q => u q.2)]; exact h5 i' (by omega)
             · rw [rd_wr_row (by decide)]; exact h4 i' k' g1 g2 (by omega))
    · refine w_aload_n dX4_compare_42 rfl ?_
      refine v_getR (j := 164) dX4_compare_43 fX4_11 ⟨by decide, rfl⟩ rfl rfl ?_
      refine w_iload_n dX4_compare_46 rfl ?_
      refine w_bipush (v := iI 21) dX4_compare_47 (by decide) ?_
      refine v_imul dX4_compare_49 ?_
      refine w_iload dX4_compare_50 rfl ?_
      refine v_iadd dX4_compare_52 ?_
      refine w_aload_n dX4_compare_53 rfl ?_
      refine w_aload_n dX4_compare_54 rfl ?_
      refine w_iload dX4_compare_55 rfl ?_
      refine w_iload dX4_compare_57 rfl ?_
      refine w_bipush (v := iI 10) dX4_compare_59 (by decide) ?_
      refine v_isub dX4_compare_61 ?_
      refine v_callS4 dX4_compare_62 lX4_33 vX4_countSides (by decide) rfl rfl (Nat.le_of_ble_eq_true rfl) ?_
      refine x4_countSides (bK_S fx hA) (bK_S fx hB) (by omega) (by omega) ?_
      rw [csV_S hB.1 fx]
      have vb := csV_bd I ca b hB.2.2.1.2.1 ((i : Int) - 5) ((k : Int) - 10)
      refine v_iast dX4_compare_65 ⟨by decide, rfl⟩ (by omega) (by omega) (by decide) ?_
      refine v_iinc dX4_compare_66 rfl rfl rfl ?_
      refine w_goto 35 dX4_compare_69 (by decide) ?_
      first
        | (rw [show (k : Int) + 1 = ((k + 1 : Nat) : Int) by omega]
           refine ih i (k + 1) _ (by omega) (by omega) (by omega) (fun id j g => ?_) (fun i' g => ?_) (fun i' k' g1 g2 g3 => ?_)
           · rw [rd_wr_row (by omega)]; exact hx id j g
           · rw [rd_wr_row (by decide)]; exact h5 i' g
           · rw [rd_wr (by omega) (by omega)]
             by_cases u : i' = i ∧ k' = k
             · rw [if_pos ⟨rfl, by omega⟩, u.1, u.2]
             · rw [if_neg (fun q => u (by have := q.2; omega))]; exact h4 i' k' g1 g2 (by omega))
        | (refine w_keep 6 ?_
           rw [show (i : Int) + 1 = ((i + 1 : Nat) : Int) by omega]
           rw [Int.toNat_natCast]
           refine ih (i + 1) 0 _ (by omega) (by omega) (by omega) (fun id j g => ?_) (fun i' g => ?_) (fun i' k' g1 g2 g3 => ?_)
           · rw [rd_wr_row (by omega)]; exact hx id j g
           · rw [rd_wr (by omega) (by omega)]
             by_cases u : i' = i + 1
             · rw [if_pos ⟨rfl, u⟩, u]
             · rw [if_neg (fun q => u q.2)]; exact h5 i' (by omega)
           · rw [rd_wr_row (by decide)]; exact h4 i' k' g1 g2 (by omega))
theorem x4_compare {I : Nat → Nat → Int32} {J : Nat → Nat → Int64} {F : Option Value → zM → Prop} {a b n n1 : Nat} {ca cb : Nat → Int} (hA : bK I a ca n1) (hB : bK I b cb n) (h : ∀ I', (∀ id k, ¬ (164 ≤ id ∧ id ≤ 166) → rd I' id k = rd I id k) → pR3 I I' a b n ca → F none (gM I' J)) : Cl yX4_compare kX4_compare [.ref 163, .ref (bI a 0), .ref (bI b 0)] (gM I J) F := by
  refine cl_s (by decide) (by decide) (Nat.le_of_ble_eq_true rfl) rt_v ?_
  show Wp _ F 0 [(0, .ref 163), (1, .ref (bI a 0)), (2, .ref (bI b 0))] [] _
  refine w_iconst (v := iI 0) dX4_compare_0 rfl ?_
  refine w_istore_n dX4_compare_1 rfl rfl ?_
  refine w_iload_n dX4_compare_2 rfl ?_
  refine w_bipush (v := iI 11) dX4_compare_3 (by decide) ?_
  refine v_icmp_ge 78 dX4_compare_5 (by decide) (by decide) (by decide) (fun q => absurd q (by decide)) (fun _ => ?_)
  refine w_iload_n dX4_compare_8 rfl ?_
  refine w_iconst (v := iI 5) dX4_compare_9 rfl ?_
  refine v_isub dX4_compare_10 ?_
  refine w_istore dX4_compare_11 rfl rfl ?_
  refine w_aload_n dX4_compare_13 rfl ?_
  refine v_getR (j := 165) dX4_compare_14 fX4_15 ⟨by decide, rfl⟩ rfl rfl ?_
  refine w_iload_n dX4_compare_17 rfl ?_
  refine w_aload_n dX4_compare_18 rfl ?_
  refine v_getR (j := bI a 6) dX4_compare_19 fX4_21 (sO_b hA.1 (by decide) rfl) rfl (r0_b hA.1 (by decide)) ?_
  refine w_aload_n dX4_compare_22 rfl ?_
  refine v_getR (j := bI b 6) dX4_compare_23 fX4_21 (sO_b hB.1 (by decide) rfl) rfl (r0_b hB.1 (by decide)) ?_
  refine w_iload dX4_compare_26 rfl ?_
  refine v_callV2 dX4_compare_28 lX4_27 vX1_worthBeside (by decide) rfl rfl (sO_b hA.1 (by decide) rfl) (by decide) rfl (Nat.le_of_ble_eq_true rfl) ?_
  refine x1_wb_a hA.1 hB.1 (by omega) ?_
  have va := waV_bd I a b (0 - 5)
  refine v_iast dX4_compare_31 ⟨by decide, rfl⟩ (by omega) (by omega) (by decide) ?_
  refine w_iconst (v := iI 0) dX4_compare_32 rfl ?_
  refine w_istore dX4_compare_33 rfl rfl ?_
  refine x4_compare_a hA hB h 300 0 0 _ (by omega) (by omega) (by omega) (fun id j g => ?_) (fun i' g => ?_) (fun i' k' g1 g2 g3 => by omega)
  · rw [rd_wr_row (by omega)]
  · rw [show i' = 0 by omega]; exact rd_wr_eq (by omega) (by omega)
theorem x4_rowsMeet {I : Nat → Nat → Int32} {J : Nat → Nat → Int64} {F : Option Value → zM → Prop} {s : Int} (bs : -2147483648 ≤ s ∧ s < 2147483648) (ht : (-5 ≤ s ∧ s ≤ 5) → F (some (.int (iI 1))) (gM I J)) (hf : ¬ (-5 ≤ s ∧ s ≤ 5) → F (some (.int (iI 0))) (gM I J)) : Cl yX4_rowsMeet kX4_rowsMeet [.ref 163, .int (iI s)] (gM I J) F := by
  refine cl_s (by decide) (by decide) (Nat.le_of_ble_eq_true rfl) rt_z ?_
  show Wp _ F 0 [(0, .ref 163), (1, .int (iI s))] [] _
  refine w_iload_n dX4_rowsMeet_0 rfl ?_
  refine w_bipush (v := iI (-5)) dX4_rowsMeet_1 (by decide) ?_
  refine v_icmp_lt 15 dX4_rowsMeet_3 (by decide) (by omega) (by omega) (fun c3 => ?_) (fun c3 => ?_)
  · refine w_iconst (v := iI 0) dX4_rowsMeet_15 rfl ?_
    refine v_zret dX4_rowsMeet_16 rfl ⟨rfl, rfl⟩ (by decide) ?_
    first | exact ht (by omega) | exact hf (by omega)
  · refine w_iload_n dX4_rowsMeet_6 rfl ?_
    refine w_iconst (v := iI 5) dX4_rowsMeet_7 rfl ?_
    refine v_icmp_gt 15 dX4_rowsMeet_8 (by decide) (by omega) (by omega) (fun c8 => ?_) (fun c8 => ?_)
    · refine w_iconst (v := iI 0) dX4_rowsMeet_15 rfl ?_
      refine v_zret dX4_rowsMeet_16 rfl ⟨rfl, rfl⟩ (by decide) ?_
      first | exact ht (by omega) | exact hf (by omega)
    · refine w_iconst (v := iI 1) dX4_rowsMeet_11 rfl ?_
      refine w_goto 16 dX4_rowsMeet_12 (by decide) ?_
      refine v_zret dX4_rowsMeet_16 rfl ⟨rfl, rfl⟩ (by decide) ?_
      first | exact ht (by omega) | exact hf (by omega)
theorem x4_columnsMeet {I : Nat → Nat → Int32} {J : Nat → Nat → Int64} {F : Option Value → zM → Prop} {s : Int} (bs : -2147483648 ≤ s ∧ s < 2147483648) (ht : (-10 ≤ s ∧ s ≤ 10) → F (some (.int (iI 1))) (gM I J)) (hf : ¬ (-10 ≤ s ∧ s ≤ 10) → F (some (.int (iI 0))) (gM I J)) : Cl yX4_columnsMeet kX4_columnsMeet [.ref 163, .int (iI s)] (gM I J) F := by
  refine cl_s (by decide) (by decide) (Nat.le_of_ble_eq_true rfl) rt_z ?_
  show Wp _ F 0 [(0, .ref 163), (1, .int (iI s))] [] _
  refine w_iload_n dX4_columnsMeet_0 rfl ?_
  refine w_bipush (v := iI (-10)) dX4_columnsMeet_1 (by decide) ?_
  refine v_icmp_lt 16 dX4_columnsMeet_3 (by decide) (by omega) (by omega) (fun c3 => ?_) (fun c3 => ?_)
  · refine w_iconst (v := iI 0) dX4_columnsMeet_16 rfl ?_
    refine v_zret dX4_columnsMeet_17 rfl ⟨rfl, rfl⟩ (by decide) ?_
    first | exact ht (by omega) | exact hf (by omega)
  · refine w_iload_n dX4_columnsMeet_6 rfl ?_
    refine w_bipush (v := iI 10) dX4_columnsMeet_7 (by decide) ?_
    refine v_icmp_gt 16 dX4_columnsMeet_9 (by decide) (by omega) (by omega) (fun c9 => ?_) (fun c9 => ?_)
    · refine w_iconst (v := iI 0) dX4_columnsMeet_16 rfl ?_
      refine v_zret dX4_columnsMeet_17 rfl ⟨rfl, rfl⟩ (by decide) ?_
      first | exact ht (by omega) | exact hf (by omega)
    · refine w_iconst (v := iI 1) dX4_columnsMeet_12 rfl ?_
      refine w_goto 17 dX4_columnsMeet_13 (by decide) ?_
      refine v_zret dX4_columnsMeet_17 rfl ⟨rfl, rfl⟩ (by decide) ?_
      first | exact ht (by omega) | exact hf (by omega)
theorem x4_sidesAt {I : Nat → Nat → Int32} {J : Nat → Nat → Int64} {F : Option Value → zM → Prop} {r c : Int} (br : -2147483648 ≤ r ∧ r < 2147483648) (bc : -2147483648 ≤ c ∧ c < 2147483648) (h : F (some (.int (iI (if (-5 ≤ r ∧ r ≤ 5) ∧ -10 ≤ c ∧ c ≤ 10 then rd I 164 ((r + 5) * 21 + c + 10).toNat else 0)))) (gM I J)) : Cl yX4_sidesAt kX4_sidesAt [.ref 163, .int (iI r), .int (iI c)] (gM I J) F := by
  refine cl_s (by decide) (by decide) (Nat.le_of_ble_eq_true rfl) rt_i ?_
  show Wp _ F 0 [(0, .ref 163), (1, .int (iI r)), (2, .int (iI c))] [] _
  refine w_aload_n dX4_sidesAt_0 rfl ?_
  refine w_iload_n dX4_sidesAt_1 rfl ?_
  refine v_callV1 dX4_sidesAt_2 lX4_58 vX4_rowsMeet (by decide) rfl rfl ⟨by decide, rfl⟩ (by decide) rfl (Nat.le_of_ble_eq_true rfl) ?_
  refine x4_rowsMeet (by omega) (fun qr => ?_) (fun qr => ?_)
  · refine v_if_eq 35 dX4_sidesAt_5 (by decide) (by decide) (fun q => absurd q (by decide)) (fun _ => ?_)
    refine w_aload_n dX4_sidesAt_8 rfl ?_
    refine w_iload_n dX4_sidesAt_9 rfl ?_
    refine v_callV1 dX4_sidesAt_10 lX4_62 vX4_columnsMeet (by decide) rfl rfl ⟨by decide, rfl⟩ (by decide) rfl (Nat.le_of_ble_eq_true rfl) ?_
    refine x4_columnsMeet (by omega) (fun qc => ?_) (fun qc => ?_)
    · refine v_if_eq 35 dX4_sidesAt_13 (by decide) (by decide) (fun q => absurd q (by decide)) (fun _ => ?_)
      refine w_aload_n dX4_sidesAt_16 rfl ?_
      refine v_getR (j := 164) dX4_sidesAt_17 fX4_11 ⟨by decide, rfl⟩ rfl rfl ?_
      refine w_iload_n dX4_sidesAt_20 rfl ?_
      refine w_iconst (v := iI 5) dX4_sidesAt_21 rfl ?_
      refine v_iadd dX4_sidesAt_22 ?_
      refine w_bipush (v := iI 21) dX4_sidesAt_23 (by decide) ?_
      refine v_imul dX4_sidesAt_25 ?_
      refine w_iload_n dX4_sidesAt_26 rfl ?_
      refine v_iadd dX4_sidesAt_27 ?_
      refine w_bipush (v := iI 10) dX4_sidesAt_28 (by decide) ?_
      refine v_iadd dX4_sidesAt_30 ?_
      refine v_iald dX4_sidesAt_31 ⟨by decide, rfl⟩ (by omega) (by omega) (by decide) (fun z31 e31 b31 => ?_)
      refine w_goto 36 dX4_sidesAt_32 (by decide) ?_
      refine v_iret dX4_sidesAt_36 rfl ⟨rfl, rfl⟩ ?_
      first
        | (rw [if_pos ⟨qr, qc⟩] at h; rw [e31]; exact h)
        | (rw [if_neg (fun g => qr g.1)] at h; exact h)
        | (rw [if_neg (fun g => qc g.2)] at h; exact h)
    · refine v_if_eq 35 dX4_sidesAt_13 (by decide) (by decide) (fun _ => ?_) (fun q => absurd q (by decide))
      refine w_iconst (v := iI 0) dX4_sidesAt_35 rfl ?_
      refine v_iret dX4_sidesAt_36 rfl ⟨rfl, rfl⟩ ?_
      first
        | (rw [if_pos ⟨qr, qc⟩] at h; rw [e31]; exact h)
        | (rw [if_neg (fun g => qr g.1)] at h; exact h)
        | (rw [if_neg (fun g => qc g.2)] at h; exact h)
  · refine v_if_eq 35 dX4_sidesAt_5 (by decide) (by decide) (fun _ => ?_) (fun q => absurd q (by decide))
    refine w_iconst (v := iI 0) dX4_sidesAt_35 rfl ?_
    refine v_iret dX4_sidesAt_36 rfl ⟨rfl, rfl⟩ ?_
    first
      | (rw [if_pos ⟨qr, qc⟩] at h; rw [e31]; exact h)
      | (rw [if_neg (fun g => qr g.1)] at h; exact h)
      | (rw [if_neg (fun g => qc g.2)] at h; exact h)
theorem x4_acrossAt {I : Nat → Nat → Int32} {J : Nat → Nat → Int64} {F : Option Value → zM → Prop} {r : Int} (br : -2147483648 ≤ r ∧ r < 2147483648) (h : F (some (.int (iI (if -5 ≤ r ∧ r ≤ 5 then rd I 165 (r + 5).toNat else 0)))) (gM I J)) : Cl yX4_acrossAt kX4_acrossAt [.ref 163, .int (iI r)] (gM I J) F := by
  refine cl_s (by decide) (by decide) (Nat.le_of_ble_eq_true rfl) rt_i ?_
  show Wp _ F 0 [(0, .ref 163), (1, .int (iI r))] [] _
  refine w_aload_n dX4_acrossAt_0 rfl ?_
  refine w_iload_n dX4_acrossAt_1 rfl ?_
  refine v_callV1 dX4_acrossAt_2 lX4_58 vX4_rowsMeet (by decide) rfl rfl ⟨by decide, rfl⟩ (by decide) rfl (Nat.le_of_ble_eq_true rfl) ?_
  refine x4_rowsMeet (by omega) (fun qr => ?_) (fun qr => ?_)
  · refine v_if_eq 19 dX4_acrossAt_5 (by decide) (by decide) (fun q => absurd q (by decide)) (fun _ => ?_)
    refine w_aload_n dX4_acrossAt_8 rfl ?_
    refine v_getR (j := 165) dX4_acrossAt_9 fX4_15 ⟨by decide, rfl⟩ rfl rfl ?_
    refine w_iload_n dX4_acrossAt_12 rfl ?_
    refine w_iconst (v := iI 5) dX4_acrossAt_13 rfl ?_
    refine v_iadd dX4_acrossAt_14 ?_
    refine v_iald dX4_acrossAt_15 ⟨by decide, rfl⟩ (by omega) (by omega) (by decide) (fun z15 e15 b15 => ?_)
    refine w_goto 20 dX4_acrossAt_16 (by decide) ?_
    refine v_iret dX4_acrossAt_20 rfl ⟨rfl, rfl⟩ ?_
    first
      | (rw [if_pos qr] at h; rw [e15]; exact h)
      | (rw [if_neg qr] at h; exact h)
  · refine v_if_eq 19 dX4_acrossAt_5 (by decide) (by decide) (fun _ => ?_) (fun q => absurd q (by decide))
    refine w_iconst (v := iI 0) dX4_acrossAt_19 rfl ?_
    refine v_iret dX4_acrossAt_20 rfl ⟨rfl, rfl⟩ ?_
    first
      | (rw [if_pos qr] at h; rw [e15]; exact h)
      | (rw [if_neg qr] at h; exact h)
theorem x4_downAt {I : Nat → Nat → Int32} {J : Nat → Nat → Int64} {F : Option Value → zM → Prop} {r : Int} (br : -2147483648 ≤ r ∧ r < 2147483648) (h : F (some (.int (iI (if -10 ≤ r ∧ r ≤ 10 then rd I 166 (r + 10).toNat else 0)))) (gM I J)) : Cl yX4_downAt kX4_downAt [.ref 163, .int (iI r)] (gM I J) F := by
  refine cl_s (by decide) (by decide) (Nat.le_of_ble_eq_true rfl) rt_i ?_
  show Wp _ F 0 [(0, .ref 163), (1, .int (iI r))] [] _
  refine w_aload_n dX4_downAt_0 rfl ?_
  refine w_iload_n dX4_downAt_1 rfl ?_
  refine v_callV1 dX4_downAt_2 lX4_62 vX4_columnsMeet (by decide) rfl rfl ⟨by decide, rfl⟩ (by decide) rfl (Nat.le_of_ble_eq_true rfl) ?_
  refine x4_columnsMeet (by omega) (fun qc => ?_) (fun qc => ?_)
  · refine v_if_eq 20 dX4_downAt_5 (by decide) (by decide) (fun q => absurd q (by decide)) (fun _ => ?_)
    refine w_aload_n dX4_downAt_8 rfl ?_
    refine v_getR (j := 166) dX4_downAt_9 fX4_18 ⟨by decide, rfl⟩ rfl rfl ?_
    refine w_iload_n dX4_downAt_12 rfl ?_
    refine w_bipush (v := iI 10) dX4_downAt_13 (by decide) ?_
    refine v_iadd dX4_downAt_15 ?_
    refine v_iald dX4_downAt_16 ⟨by decide, rfl⟩ (by omega) (by omega) (by decide) (fun z16 e16 b16 => ?_)
    refine w_goto 21 dX4_downAt_17 (by decide) ?_
    refine v_iret dX4_downAt_21 rfl ⟨rfl, rfl⟩ ?_
    first
      | (rw [if_pos qc] at h; rw [e16]; exact h)
      | (rw [if_neg qc] at h; exact h)
  · refine v_if_eq 20 dX4_downAt_5 (by decide) (by decide) (fun _ => ?_) (fun q => absurd q (by decide))
    refine w_iconst (v := iI 0) dX4_downAt_20 rfl ?_
    refine v_iret dX4_downAt_21 rfl ⟨rfl, rfl⟩ ?_
    first
      | (rw [if_pos qc] at h; rw [e16]; exact h)
      | (rw [if_neg qc] at h; exact h)
