/-! bit of the class -/
theorem x11_bit {I : Nat → Nat → Int32} {J : Nat → Nat → Int64} {F : Option Value → zM → Prop} {b : Int} (bb : -2147483648 ≤ b ∧ b < 2147483648) {t : Nat} (ht : rd I 1 1 = t) (ht2 : t ≤ 200) {ce : Nat → Nat → Int} {nn : Nat → Nat} (hlc : ∀ q, q < 10 → rd I (bI q 0) 13 ≠ 0 → rd I (bI q 0) 4 ≠ 0) (hS : ∀ q, q < 10 → rd I (bI q 0) 4 ≠ 0 → ∀ k, k < 50 → rd I (bI q 1) k = ce q k) (hB : ∀ q, q < 10 → rd I (bI q 0) 4 ≠ 0 → RBc I q (ce q) (nn q)) (hta : ∀ l : Nat, l < 16 → 0 ≤ rd I 147 l ∧ rd I 147 l ≤ 1000) (htd : ∀ l : Nat, l < 32 → 0 ≤ rd I 150 l ∧ rd I 150 l ≤ 1000) (hly : 0 ≤ rd I 142 4 ∧ rd I 142 4 ≤ 1000) (hrc : ∀ q, q < 10 → (-1000 ≤ rd I (bI q 0) 14 ∧ rd I (bI q 0) 14 ≤ 1000) ∧ -1000 ≤ rd I (bI q 0) 15 ∧ rd I (bI q 0) 15 ≤ 1000) (hn : ¬ ((0 ≤ b ∧ b < 10) ∧ (∀ j, j < t → pB (fun k => rd I 2 k) j) ∧ 0 < pM (fun k => rd I 2 k) t) → F (some (.int (iI (-1)))) (gM (wr I 1 1 0) J)) (hy : ∀ q : Nat, b = q → q < 10 → (∀ j, j < t → pB (fun k => rd I 2 k) j) → 0 < pM (fun k => rd I 2 k) t → ∀ I1 : Nat → Nat → Int32, ((rd I (bI q 0) 13 = 0 ∧ I1 = I) ∨ (rd I (bI q 0) 13 ≠ 0 ∧ wPM I I1 q (ce q) (rd I (bI q 0) 14) (rd I (bI q 0) 15) (fun _ => 95) (-1) (-1) 0)) → ∀ I', BB I' q (pC (fun k => rd I 2 k) t) (pM (fun k => rd I 2 k) t) → ((∀ k, k < 5 → rd I' (bI q 7) k = 0) ∧ (∀ k, k < 10 → rd I' (bI q 10) k = 0) ∧ rd I' (bI q 0) 12 = 0 ∧ fq (fun id k => id = bI q 1 ∨ id = bI q 2 ∨ id = bI q 3 ∨ id = bI q 4 ∨ id = bI q 5 ∨ id = bI q 7 ∨ id = bI q 8 ∨ id = bI q 10 ∨ id = bI q 11 ∨ (id = bI q 0 ∧ (k = 4 ∨ k = 7 ∨ k = 8 ∨ k = 12))) I1 I') → F (some (.int (iI (pM (fun k => rd I 2 k) t : Int)))) (gM (wr I' 1 1 0) J)) : Cl yX11_bit kX11_bit [.ref 0, .int (iI b)] (gM I J) F := by
  refine cl_s (by decide) (by decide) (Nat.le_of_ble_eq_true rfl) rt_i ?_
  show Wp _ F 0 [(0, .ref 0), (1, .int (iI b))] [] _
  refine w_iload_n dX11_bit_0 rfl ?_
  refine v_if_lt 10 dX11_bit_1 (by decide) (by omega) (fun c1 => ?_) (fun c1 => ?_)
  · refine w_iconst (v := iI (-1)) dX11_bit_10 rfl ?_
    refine w_goto 21 dX11_bit_11 (by decide) ?_
    refine w_istore_n dX11_bit_21 rfl rfl ?_
    refine w_iload_n dX11_bit_22 rfl ?_
    refine w_iconst (v := iI (-1)) dX11_bit_23 rfl ?_
    refine v_icmp_eq 57 dX11_bit_24 (by decide) (by decide) (by decide) (fun _ => ?_) (fun q => absurd q (by decide))
    refine w_aload_n dX11_bit_57 rfl ?_
    refine v_getR (j := 1) dX11_bit_58 fX11_12 ⟨by decide, rfl⟩ rfl rfl ?_
    refine w_iconst (v := iI 0) dX11_bit_61 rfl ?_
    refine v_putI dX11_bit_62 fX11_60 ⟨by decide, rfl⟩ rfl (Or.inl rfl) ?_
    refine w_iload_n dX11_bit_65 rfl ?_
    refine v_iret dX11_bit_66 rfl ⟨rfl, rfl⟩ ?_
    first | exact hn (fun g => h0 g.2) | exact hn (fun g => by have := g.1; omega)
  · refine w_iload_n dX11_bit_4 rfl ?_
    refine w_bipush (v := iI 10) dX11_bit_5 (by decide) ?_
    refine v_icmp_lt 14 dX11_bit_7 (by decide) (by omega) (by omega) (fun c7 => ?_) (fun c7 => ?_)
    · refine w_aload_n dX11_bit_14 rfl ?_
      refine v_getR (j := 1) dX11_bit_15 fX11_12 ⟨by decide, rfl⟩ rfl rfl ?_
      refine v_callS1 dX11_bit_18 lX11_67 vX0_cellsTold (by decide) rfl rfl (Nat.le_of_ble_eq_true rfl) ?_
      refine x0_cellsTold ht ht2 (fun h0 => ?_) (fun h1 h2 => (have pbd := pOk_bd h1; ?_))
      · refine w_istore_n dX11_bit_21 rfl rfl ?_
        refine w_iload_n dX11_bit_22 rfl ?_
        refine w_iconst (v := iI (-1)) dX11_bit_23 rfl ?_
        refine v_icmp_eq 57 dX11_bit_24 (by decide) (by decide) (by decide) (fun _ => ?_) (fun q => absurd q (by decide))
        refine w_aload_n dX11_bit_57 rfl ?_
        refine v_getR (j := 1) dX11_bit_58 fX11_12 ⟨by decide, rfl⟩ rfl rfl ?_
        refine w_iconst (v := iI 0) dX11_bit_61 rfl ?_
        refine v_putI dX11_bit_62 fX11_60 ⟨by decide, rfl⟩ rfl (Or.inl rfl) ?_
        refine w_iload_n dX11_bit_65 rfl ?_
        refine v_iret dX11_bit_66 rfl ⟨rfl, rfl⟩ ?_
        first | exact hn (fun g => h0 g.2) | exact hn (fun g => by have := g.1; omega)
      · refine w_istore_n dX11_bit_21 rfl rfl ?_
        refine w_iload_n dX11_bit_22 rfl ?_
        refine w_iconst (v := iI (-1)) dX11_bit_23 rfl ?_
        refine v_icmp_eq 57 dX11_bit_24 (by decide) (by omega) (by omega) (fun c24 => absurd c24 (by omega)) (fun c24 => ?_)
        obtain ⟨q, hqe⟩ : ∃ q : Nat, b = q := ⟨b.toNat, by omega⟩
        subst hqe
        refine w_aload_n dX11_bit_27 rfl ?_
        refine v_getR (j := 3) dX11_bit_28 fX11_18 ⟨by decide, rfl⟩ rfl rfl ?_
        refine w_iload_n dX11_bit_31 rfl ?_
        refine v_aald dX11_bit_32 (by omega) (by omega) ?_
        rw [Int.toNat_natCast]
        refine w_astore_n dX11_bit_33 rfl rfl ?_
        refine w_aload_n dX11_bit_34 rfl ?_
        refine v_getI dX11_bit_35 fX11_71 (sO_b (show q < 10 by omega) (by decide) rfl) (Or.inr rfl) (fun z35 e35 b35 => ?_)
        refine v_if_eq 49 dX11_bit_38 (by decide) (by omega) (fun c38 => ?_) (fun c38 => ?_)
        · refine w_aload_n dX11_bit_49 rfl ?_
          refine w_aload_n dX11_bit_50 rfl ?_
          refine v_getR (j := 1) dX11_bit_51 fX11_12 ⟨by decide, rfl⟩ rfl rfl ?_
          refine v_callV1 dX11_bit_54 lX11_79 vX0_become (by decide) rfl rfl (sO_b (show q < 10 by omega) (by decide) rfl) (by decide) rfl (Nat.le_of_ble_eq_true rfl) ?_
          first
            | (refine x0_become (b := q) (I := I1) (by omega) (by rw [p.fr 1 1 (by omega) (by unfold bI; omega) (by omega)]; exact ht) ht2 (by rw [e2]; exact h1) (fun I' hbb hbp => ?_)
               rw [e2] at hbb
               have key := hy q rfl (by omega) h1 h2 I1 (Or.inr ⟨by rw [← e35]; omega, p⟩) I' hbb hbp)
            | (refine x0_become (b := q) (I := I) (by omega) ht ht2 h1 (fun I' hbb hbp => ?_)
               have key := hy q rfl (by omega) h1 h2 I (Or.inl ⟨by rw [← e35]; omega, rfl⟩) I' hbb hbp)
          refine w_aload_n dX11_bit_57 rfl ?_
          refine v_getR (j := 1) dX11_bit_58 fX11_12 ⟨by decide, rfl⟩ rfl rfl ?_
          refine w_iconst (v := iI 0) dX11_bit_61 rfl ?_
          refine v_putI dX11_bit_62 fX11_60 ⟨by decide, rfl⟩ rfl (Or.inl rfl) ?_
          refine w_iload_n dX11_bit_65 rfl ?_
          refine v_iret dX11_bit_66 rfl ⟨rfl, rfl⟩ ?_
          exact key
        · refine w_aload_n dX11_bit_41 rfl ?_
          refine v_getR (j := 142) dX11_bit_42 fX11_35 ⟨by decide, rfl⟩ rfl rfl ?_
          refine w_aload_n dX11_bit_45 rfl ?_
          refine v_callV1 dX11_bit_46 lX11_75 vX8_remove (by decide) rfl rfl ⟨by decide, rfl⟩ (by decide) rfl (Nat.le_of_ble_eq_true rfl) ?_
          have hc0 := hlc q (by omega) (by rw [← e35]; omega)
          refine x8_remove (b := q) (by omega) (hS q (by omega) hc0) (hB q (by omega) hc0) hta htd hly (hrc q (by omega)).1 (hrc q (by omega)).2 rfl rfl (fun I1 p => ?_)
          have e2 : (fun k => rd I1 2 k) = (fun k => rd I 2 k) := funext fun k => p.fr 2 k (by omega) (by unfold bI; omega) (by omega)
          refine w_aload_n dX11_bit_49 rfl ?_
          refine w_aload_n dX11_bit_50 rfl ?_
          refine v_getR (j := 1) dX11_bit_51 fX11_12 ⟨by decide, rfl⟩ rfl rfl ?_
          refine v_callV1 dX11_bit_54 lX11_79 vX0_become (by decide) rfl rfl (sO_b (show q < 10 by omega) (by decide) rfl) (by decide) rfl (Nat.le_of_ble_eq_true rfl) ?_
          first
            | (refine x0_become (b := q) (I := I1) (by omega) (by rw [p.fr 1 1 (by omega) (by unfold bI; omega) (by omega)]; exact ht) ht2 (by rw [e2]; exact h1) (fun I' hbb hbp => ?_)
               rw [e2] at hbb
               have key := hy q rfl (by omega) h1 h2 I1 (Or.inr ⟨by rw [← e35]; omega, p⟩) I' hbb hbp)
            | (refine x0_become (b := q) (I := I) (by omega) ht ht2 h1 (fun I' hbb hbp => ?_)
               have key := hy q rfl (by omega) h1 h2 I (Or.inl ⟨by rw [← e35]; omega, rfl⟩) I' hbb hbp)
          refine w_aload_n dX11_bit_57 rfl ?_
          refine v_getR (j := 1) dX11_bit_58 fX11_12 ⟨by decide, rfl⟩ rfl rfl ?_
          refine w_iconst (v := iI 0) dX11_bit_61 rfl ?_
          refine v_putI dX11_bit_62 fX11_60 ⟨by decide, rfl⟩ rfl (Or.inl rfl) ?_
          refine w_iload_n dX11_bit_65 rfl ?_
          refine v_iret dX11_bit_66 rfl ⟨rfl, rfl⟩ ?_
          exact key
    · refine w_iconst (v := iI (-1)) dX11_bit_10 rfl ?_
      refine w_goto 21 dX11_bit_11 (by decide) ?_
      refine w_istore_n dX11_bit_21 rfl rfl ?_
      refine w_iload_n dX11_bit_22 rfl ?_
      refine w_iconst (v := iI (-1)) dX11_bit_23 rfl ?_
      refine v_icmp_eq 57 dX11_bit_24 (by decide) (by decide) (by decide) (fun _ => ?_) (fun q => absurd q (by decide))
      refine w_aload_n dX11_bit_57 rfl ?_
      refine v_getR (j := 1) dX11_bit_58 fX11_12 ⟨by decide, rfl⟩ rfl rfl ?_
      refine w_iconst (v := iI 0) dX11_bit_61 rfl ?_
      refine v_putI dX11_bit_62 fX11_60 ⟨by decide, rfl⟩ rfl (Or.inl rfl) ?_
      refine w_iload_n dX11_bit_65 rfl ?_
      refine v_iret dX11_bit_66 rfl ⟨rfl, rfl⟩ ?_
      first | exact hn (fun g => h0 g.2) | exact hn (fun g => by have := g.1; omega)
