/-! small things of both sides -/
abbrev isLt (s : Int) : Prop := 97 ≤ s ∧ s ≤ 122
abbrev isTx (s : Int) : Prop := s = 46 ∨ (97 ≤ s ∧ s ≤ 122)
abbrev inS (r c : Int) : Prop := 0 ≤ r ∧ r < 16 ∧ 0 ≤ c ∧ c < 32
theorem x8_isInside {I : Nat → Nat → Int32} {J : Nat → Nat → Int64} {F : Option Value → zM → Prop} {r c : Int} (br : -2147483648 ≤ r ∧ r < 2147483648) (bc : -2147483648 ≤ c ∧ c < 2147483648) (ht : inS r c → F (some (.int (iI 1))) (gM I J)) (hf : ¬ (inS r c) → F (some (.int (iI 0))) (gM I J)) : Cl yX8_isInside kX8_isInside [.int (iI r), .int (iI c)] (gM I J) F := by
  refine cl_s (by decide) (by decide) (Nat.le_of_ble_eq_true rfl) rt_z ?_
  show Wp _ F 0 [(0, .int (iI r)), (1, .int (iI c))] [] _
  refine w_iload_n dX8_isInside_0 rfl ?_
  refine v_if_lt 24 dX8_isInside_1 (by decide) (by omega) (fun c1 => ?_) (fun c1 => ?_)
  · refine w_iconst (v := iI 0) dX8_isInside_24 rfl ?_
    refine v_zret dX8_isInside_25 rfl ⟨rfl, rfl⟩ (by decide) ?_
    first | exact ht (by omega) | exact hf (by omega)
  · refine w_iload_n dX8_isInside_4 rfl ?_
    refine w_bipush (v := iI 16) dX8_isInside_5 (by decide) ?_
    refine v_icmp_ge 24 dX8_isInside_7 (by decide) (by omega) (by omega) (fun c7 => ?_) (fun c7 => ?_)
    · refine w_iconst (v := iI 0) dX8_isInside_24 rfl ?_
      refine v_zret dX8_isInside_25 rfl ⟨rfl, rfl⟩ (by decide) ?_
      first | exact ht (by omega) | exact hf (by omega)
    · refine w_iload_n dX8_isInside_10 rfl ?_
      refine v_if_lt 24 dX8_isInside_11 (by decide) (by omega) (fun c11 => ?_) (fun c11 => ?_)
      · refine w_iconst (v := iI 0) dX8_isInside_24 rfl ?_
        refine v_zret dX8_isInside_25 rfl ⟨rfl, rfl⟩ (by decide) ?_
        first | exact ht (by omega) | exact hf (by omega)
      · refine w_iload_n dX8_isInside_14 rfl ?_
        refine w_bipush (v := iI 32) dX8_isInside_15 (by decide) ?_
        refine v_icmp_ge 24 dX8_isInside_17 (by decide) (by omega) (by omega) (fun c17 => ?_) (fun c17 => ?_)
        · refine w_iconst (v := iI 0) dX8_isInside_24 rfl ?_
          refine v_zret dX8_isInside_25 rfl ⟨rfl, rfl⟩ (by decide) ?_
          first | exact ht (by omega) | exact hf (by omega)
        · refine w_iconst (v := iI 1) dX8_isInside_20 rfl ?_
          refine w_goto 25 dX8_isInside_21 (by decide) ?_
          refine v_zret dX8_isInside_25 rfl ⟨rfl, rfl⟩ (by decide) ?_
          first | exact ht (by omega) | exact hf (by omega)
theorem x11_isText {I : Nat → Nat → Int32} {J : Nat → Nat → Int64} {F : Option Value → zM → Prop} {s : Int} (bs : -2147483648 ≤ s ∧ s < 2147483648) (ht : isTx s → F (some (.int (iI 1))) (gM I J)) (hf : ¬ (isTx s) → F (some (.int (iI 0))) (gM I J)) : Cl yX11_isText kX11_isText [.int (iI s)] (gM I J) F := by
  refine cl_s (by decide) (by decide) (Nat.le_of_ble_eq_true rfl) rt_z ?_
  show Wp _ F 0 [(0, .int (iI s))] [] _
  refine w_iload_n dX11_isText_0 rfl ?_
  refine w_bipush (v := iI 46) dX11_isText_1 (by decide) ?_
  refine v_icmp_eq 18 dX11_isText_3 (by decide) (by omega) (by omega) (fun c3 => ?_) (fun c3 => ?_)
  · refine w_iconst (v := iI 1) dX11_isText_18 rfl ?_
    refine w_goto 23 dX11_isText_19 (by decide) ?_
    refine v_zret dX11_isText_23 rfl ⟨rfl, rfl⟩ (by decide) ?_
    first | exact ht (by omega) | exact hf (by omega)
  · refine w_iload_n dX11_isText_6 rfl ?_
    refine w_bipush (v := iI 97) dX11_isText_7 (by decide) ?_
    refine v_icmp_lt 22 dX11_isText_9 (by decide) (by omega) (by omega) (fun c9 => ?_) (fun c9 => ?_)
    · refine w_iconst (v := iI 0) dX11_isText_22 rfl ?_
      refine v_zret dX11_isText_23 rfl ⟨rfl, rfl⟩ (by decide) ?_
      first | exact ht (by omega) | exact hf (by omega)
    · refine w_iload_n dX11_isText_12 rfl ?_
      refine w_bipush (v := iI 122) dX11_isText_13 (by decide) ?_
      refine v_icmp_gt 22 dX11_isText_15 (by decide) (by omega) (by omega) (fun c15 => ?_) (fun c15 => ?_)
      · refine w_iconst (v := iI 0) dX11_isText_22 rfl ?_
        refine v_zret dX11_isText_23 rfl ⟨rfl, rfl⟩ (by decide) ?_
        first | exact ht (by omega) | exact hf (by omega)
      · refine w_iconst (v := iI 1) dX11_isText_18 rfl ?_
        refine w_goto 23 dX11_isText_19 (by decide) ?_
        refine v_zret dX11_isText_23 rfl ⟨rfl, rfl⟩ (by decide) ?_
        first | exact ht (by omega) | exact hf (by omega)
theorem x11_isLetter {I : Nat → Nat → Int32} {J : Nat → Nat → Int64} {F : Option Value → zM → Prop} {s : Int} (bs : -2147483648 ≤ s ∧ s < 2147483648) (ht : isLt s → F (some (.int (iI 1))) (gM I J)) (hf : ¬ (isLt s) → F (some (.int (iI 0))) (gM I J)) : Cl yX11_isLetter kX11_isLetter [.int (iI s)] (gM I J) F := by
  refine cl_s (by decide) (by decide) (Nat.le_of_ble_eq_true rfl) rt_z ?_
  show Wp _ F 0 [(0, .int (iI s))] [] _
  refine w_iload_n dX11_isLetter_0 rfl ?_
  refine w_bipush (v := iI 97) dX11_isLetter_1 (by decide) ?_
  refine v_icmp_lt 16 dX11_isLetter_3 (by decide) (by omega) (by omega) (fun c3 => ?_) (fun c3 => ?_)
  · refine w_iconst (v := iI 0) dX11_isLetter_16 rfl ?_
    refine v_zret dX11_isLetter_17 rfl ⟨rfl, rfl⟩ (by decide) ?_
    first | exact ht (by omega) | exact hf (by omega)
  · refine w_iload_n dX11_isLetter_6 rfl ?_
    refine w_bipush (v := iI 122) dX11_isLetter_7 (by decide) ?_
    refine v_icmp_gt 16 dX11_isLetter_9 (by decide) (by omega) (by omega) (fun c9 => ?_) (fun c9 => ?_)
    · refine w_iconst (v := iI 0) dX11_isLetter_16 rfl ?_
      refine v_zret dX11_isLetter_17 rfl ⟨rfl, rfl⟩ (by decide) ?_
      first | exact ht (by omega) | exact hf (by omega)
    · refine w_iconst (v := iI 1) dX11_isLetter_12 rfl ?_
      refine w_goto 17 dX11_isLetter_13 (by decide) ?_
      refine v_zret dX11_isLetter_17 rfl ⟨rfl, rfl⟩ (by decide) ?_
      first | exact ht (by omega) | exact hf (by omega)
theorem x11_isWidth {I : Nat → Nat → Int32} {J : Nat → Nat → Int64} {F : Option Value → zM → Prop} {w : Int} (bw : -2147483648 ≤ w ∧ w < 2147483648) (ht : 2 ≤ w ∧ w ≤ 60 → F (some (.int (iI 1))) (gM I J)) (hf : ¬ (2 ≤ w ∧ w ≤ 60) → F (some (.int (iI 0))) (gM I J)) : Cl yX11_isWidth kX11_isWidth [.int (iI w)] (gM I J) F := by
  refine cl_s (by decide) (by decide) (Nat.le_of_ble_eq_true rfl) rt_z ?_
  show Wp _ F 0 [(0, .int (iI w))] [] _
  refine w_iload_n dX11_isWidth_0 rfl ?_
  refine w_iconst (v := iI 2) dX11_isWidth_1 rfl ?_
  refine v_icmp_lt 15 dX11_isWidth_2 (by decide) (by omega) (by omega) (fun c2 => ?_) (fun c2 => ?_)
  · refine w_iconst (v := iI 0) dX11_isWidth_15 rfl ?_
    refine v_zret dX11_isWidth_16 rfl ⟨rfl, rfl⟩ (by decide) ?_
    first | exact ht (by omega) | exact hf (by omega)
  · refine w_iload_n dX11_isWidth_5 rfl ?_
    refine w_bipush (v := iI 60) dX11_isWidth_6 (by decide) ?_
    refine v_icmp_gt 15 dX11_isWidth_8 (by decide) (by omega) (by omega) (fun c8 => ?_) (fun c8 => ?_)
    · refine w_iconst (v := iI 0) dX11_isWidth_15 rfl ?_
      refine v_zret dX11_isWidth_16 rfl ⟨rfl, rfl⟩ (by decide) ?_
      first | exact ht (by omega) | exact hf (by omega)
    · refine w_iconst (v := iI 1) dX11_isWidth_11 rfl ?_
      refine w_goto 16 dX11_isWidth_12 (by decide) ?_
      refine v_zret dX11_isWidth_16 rfl ⟨rfl, rfl⟩ (by decide) ?_
      first | exact ht (by omega) | exact hf (by omega)
theorem x12_isIn {I : Nat → Nat → Int32} {J : Nat → Nat → Int64} {F : Option Value → zM → Prop} {v a c : Int} (bv : -2147483648 ≤ v ∧ v < 2147483648) (ba : -2147483648 ≤ a ∧ a < 2147483648) (bc : -2147483648 ≤ c ∧ c < 2147483648) (ht : a ≤ v ∧ v ≤ c → F (some (.int (iI 1))) (gM I J)) (hf : ¬ (a ≤ v ∧ v ≤ c) → F (some (.int (iI 0))) (gM I J)) : Cl yX12_isIn kX12_isIn [.int (iI v), .int (iI a), .int (iI c)] (gM I J) F := by
  refine cl_s (by decide) (by decide) (Nat.le_of_ble_eq_true rfl) rt_z ?_
  show Wp _ F 0 [(0, .int (iI v)), (1, .int (iI a)), (2, .int (iI c))] [] _
  refine w_iload_n dX12_isIn_0 rfl ?_
  refine w_iload_n dX12_isIn_1 rfl ?_
  refine v_icmp_lt 14 dX12_isIn_2 (by decide) (by omega) (by omega) (fun c2 => ?_) (fun c2 => ?_)
  · refine w_iconst (v := iI 0) dX12_isIn_14 rfl ?_
    refine v_zret dX12_isIn_15 rfl ⟨rfl, rfl⟩ (by decide) ?_
    first | exact ht (by omega) | exact hf (by omega)
  · refine w_iload_n dX12_isIn_5 rfl ?_
    refine w_iload_n dX12_isIn_6 rfl ?_
    refine v_icmp_gt 14 dX12_isIn_7 (by decide) (by omega) (by omega) (fun c7 => ?_) (fun c7 => ?_)
    · refine w_iconst (v := iI 0) dX12_isIn_14 rfl ?_
      refine v_zret dX12_isIn_15 rfl ⟨rfl, rfl⟩ (by decide) ?_
      first | exact ht (by omega) | exact hf (by omega)
    · refine w_iconst (v := iI 1) dX12_isIn_10 rfl ?_
      refine w_goto 15 dX12_isIn_11 (by decide) ?_
      refine v_zret dX12_isIn_15 rfl ⟨rfl, rfl⟩ (by decide) ?_
      first | exact ht (by omega) | exact hf (by omega)
theorem x12_isLetter {I : Nat → Nat → Int32} {J : Nat → Nat → Int64} {F : Option Value → zM → Prop} {s : Int} (bs : -2147483648 ≤ s ∧ s < 2147483648) (ht : isLt s → F (some (.int (iI 1))) (gM I J)) (hf : ¬ (isLt s) → F (some (.int (iI 0))) (gM I J)) : Cl yX12_isLetter kX12_isLetter [.int (iI s)] (gM I J) F := by
  refine cl_s (by decide) (by decide) (Nat.le_of_ble_eq_true rfl) rt_z ?_
  show Wp _ F 0 [(0, .int (iI s))] [] _
  refine w_iload_n dX12_isLetter_0 rfl ?_
  refine w_bipush (v := iI 97) dX12_isLetter_1 (by decide) ?_
  refine v_icmp_lt 16 dX12_isLetter_3 (by decide) (by omega) (by omega) (fun c3 => ?_) (fun c3 => ?_)
  · refine w_iconst (v := iI 0) dX12_isLetter_16 rfl ?_
    refine v_zret dX12_isLetter_17 rfl ⟨rfl, rfl⟩ (by decide) ?_
    first | exact ht (by omega) | exact hf (by omega)
  · refine w_iload_n dX12_isLetter_6 rfl ?_
    refine w_bipush (v := iI 122) dX12_isLetter_7 (by decide) ?_
    refine v_icmp_gt 16 dX12_isLetter_9 (by decide) (by omega) (by omega) (fun c9 => ?_) (fun c9 => ?_)
    · refine w_iconst (v := iI 0) dX12_isLetter_16 rfl ?_
      refine v_zret dX12_isLetter_17 rfl ⟨rfl, rfl⟩ (by decide) ?_
      first | exact ht (by omega) | exact hf (by omega)
    · refine w_iconst (v := iI 1) dX12_isLetter_12 rfl ?_
      refine w_goto 17 dX12_isLetter_13 (by decide) ?_
      refine v_zret dX12_isLetter_17 rfl ⟨rfl, rfl⟩ (by decide) ?_
      first | exact ht (by omega) | exact hf (by omega)
def sgAt (I : Nat → Nat → Int32) (r c : Int) : Int := if inS r c then rd I 143 (r * 32 + c).toNat else 95
def owAt (I : Nat → Nat → Int32) (r c : Int) : Int := if inS r c then rd I 144 (r * 32 + c).toNat else -1
theorem x8_signAt {I : Nat → Nat → Int32} {J : Nat → Nat → Int64} {F : Option Value → zM → Prop} {r c : Int} (br : -2147483648 ≤ r ∧ r < 2147483648) (bc : -2147483648 ≤ c ∧ c < 2147483648) (h : ∀ z : Int, z = sgAt I r c → -2147483648 ≤ z ∧ z < 2147483648 → F (some (.int (iI z))) (gM I J)) : Cl yX8_signAt kX8_signAt [.ref 142, .int (iI r), .int (iI c)] (gM I J) F := by
  refine cl_s (by decide) (by decide) (Nat.le_of_ble_eq_true rfl) rt_i ?_
  show Wp _ F 0 [(0, .ref 142), (1, .int (iI r)), (2, .int (iI c))] [] _
  refine w_iload_n dX8_signAt_0 rfl ?_
  refine v_if_lt 20 dX8_signAt_1 (by decide) (by omega) (fun c1 => ?_) (fun c1 => ?_)
  · refine w_bipush (v := iI 95) dX8_signAt_20 (by decide) ?_
    refine v_iret dX8_signAt_22 rfl ⟨rfl, rfl⟩ ?_
    exact h 95 (by rw [sgAt, if_neg (by omega)]) (by decide)
  · refine w_iload_n dX8_signAt_4 rfl ?_
    refine w_bipush (v := iI 16) dX8_signAt_5 (by decide) ?_
    refine v_icmp_ge 20 dX8_signAt_7 (by decide) (by omega) (by omega) (fun c7 => ?_) (fun c7 => ?_)
    · refine w_bipush (v := iI 95) dX8_signAt_20 (by decide) ?_
      refine v_iret dX8_signAt_22 rfl ⟨rfl, rfl⟩ ?_
      exact h 95 (by rw [sgAt, if_neg (by omega)]) (by decide)
    · refine w_iload_n dX8_signAt_10 rfl ?_
      refine v_if_lt 20 dX8_signAt_11 (by decide) (by omega) (fun c11 => ?_) (fun c11 => ?_)
      · refine w_bipush (v := iI 95) dX8_signAt_20 (by decide) ?_
        refine v_iret dX8_signAt_22 rfl ⟨rfl, rfl⟩ ?_
        exact h 95 (by rw [sgAt, if_neg (by omega)]) (by decide)
      · refine w_iload_n dX8_signAt_14 rfl ?_
        refine w_bipush (v := iI 32) dX8_signAt_15 (by decide) ?_
        refine v_icmp_lt 23 dX8_signAt_17 (by decide) (by omega) (by omega) (fun c17 => ?_) (fun c17 => ?_)
        · refine w_aload_n dX8_signAt_23 rfl ?_
          refine v_getR (j := 143) dX8_signAt_24 fX8_9 ⟨by decide, rfl⟩ rfl rfl ?_
          refine w_iload_n dX8_signAt_27 rfl ?_
          refine w_bipush (v := iI 32) dX8_signAt_28 (by decide) ?_
          refine v_imul dX8_signAt_30 ?_
          refine w_iload_n dX8_signAt_31 rfl ?_
          refine v_iadd dX8_signAt_32 ?_
          refine v_iald dX8_signAt_33 ⟨by decide, rfl⟩ (by omega) (by omega) (by decide) (fun z33 e33 b33 => ?_)
          refine v_iret dX8_signAt_34 rfl ⟨rfl, rfl⟩ ?_
          exact h _ (by rw [sgAt, if_pos (by omega)]; exact e33) b33
        · refine w_bipush (v := iI 95) dX8_signAt_20 (by decide) ?_
          refine v_iret dX8_signAt_22 rfl ⟨rfl, rfl⟩ ?_
          exact h 95 (by rw [sgAt, if_neg (by omega)]) (by decide)
