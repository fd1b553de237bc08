/-! counting -/
def cn (p : Nat → Bool) : Nat → Int
  | 0 => 0
  | n + 1 => cn p n + (if p n = true then 1 else 0)
theorem cn_bd (p : Nat → Bool) : ∀ n, 0 ≤ cn p n ∧ cn p n ≤ n
  | 0 => by simp [cn]
  | n + 1 => by
    have := cn_bd p n
    unfold cn
    split <;> omega
theorem cn_mono (p : Nat → Bool) (a : Nat) : ∀ d, cn p a ≤ cn p (a + d)
  | 0 => Int.le_refl _
  | d + 1 => by
    have := cn_mono p a d
    rw [← Nat.add_assoc, cn]
    split <;> omega
theorem cn_lt (p : Nat → Bool) {a b : Nat} (h : a < b) (hp : p a = true) : cn p a < cn p b := by
  have h1 := cn_mono p (a + 1) (b - (a + 1))
  rw [show a + 1 + (b - (a + 1)) = b by omega, cn, if_pos hp] at h1
  omega
theorem cn_cong {p q : Nat → Bool} : ∀ {n : Nat}, (∀ k, k < n → p k = q k) → cn p n = cn q n
  | 0, _ => rfl
  | n + 1, h => by rw [cn, cn, cn_cong (fun k hk => h k (by omega)), h n (by omega)]
/-- the value at the k-th of these; d if there is none -/
def kf (p : Nat → Bool) (v : Nat → Int) (k d : Int) : Nat → Int
  | 0 => d
  | n + 1 => if p n = true ∧ cn p n = k then v n else kf p v k d n
theorem kf_at {p : Nat → Bool} {v : Nat → Int} {k d : Int} {h : Nat} (hp : p h = true) (hk : cn p h = k) : ∀ {n : Nat}, h < n → kf p v k d n = v h
  | 0, g => absurd g (Nat.not_lt_zero _)
  | n + 1, g => by
    unfold kf
    rcases Nat.lt_succ_iff_lt_or_eq.mp g with g | g
    · have := cn_lt p g hp
      rw [if_neg (fun q => by omega)]
      exact kf_at hp hk g
    · subst g
      rw [if_pos ⟨hp, hk⟩]
theorem kf_none {p : Nat → Bool} {v : Nat → Int} {k d : Int} : ∀ {n : Nat}, (∀ h, h < n → p h = true → cn p h ≠ k) → kf p v k d n = d
  | 0, _ => rfl
  | n + 1, g => by
    unfold kf
    rw [if_neg (fun q => g n (by omega) q.1 q.2)]
    exact kf_none fun h hh => g h (by omega)
theorem kf_cong {p q : Nat → Bool} {v u : Nat → Int} {k d : Int} : ∀ {n : Nat}, (∀ j, j < n → p j = q j) → (∀ j, j < n → v j = u j) → kf p v k d n = kf q u k d n
  | 0, _, _ => rfl
  | n + 1, h, h2 => by rw [kf, kf, kf_cong (fun j hj => h j (by omega)) (fun j hj => h2 j (by omega)), h n (by omega), h2 n (by omega), cn_cong (fun j hj => h j (by omega))]
/-- I' is I but at the places of which S speaks -/
def fq (S : Nat → Nat → Prop) (I I' : Nat → Nat → Int32) : Prop := ∀ id k, ¬ S id k → rd I' id k = rd I id k
/-! rolls -/
def rP (g s : Int) : Nat → Int
  | 0 => 0
  | k + 1 => rP g s k + (g - s * k)
def rOK (g s : Int) (c : Nat) : Prop := 1 ≤ c ∧ c ≤ 40 ∧ (∀ j : Nat, j + 1 < c → 1 ≤ g - s * j) ∧ (c = 40 ∨ g - s * ((c : Int) - 1) < 1)
theorem rOK_one {g s : Int} {c d : Nat} (h : rOK g s c) (h' : rOK g s d) : c = d := by
  obtain ⟨a1, a2, a3, a4⟩ := h
  obtain ⟨b1, b2, b3, b4⟩ := h'
  rcases Nat.lt_trichotomy c d with q | q | q
  · have := b3 (c - 1) (by omega)
    rw [show ((c - 1 : Nat) : Int) = (c : Int) - 1 by omega] at this
    omega
  · exact q
  · have := a3 (d - 1) (by omega)
    rw [show ((d - 1 : Nat) : Int) = (d : Int) - 1 by omega] at this
    omega
theorem rP_bd {g s : Int} (hg : g ≤ 1000) (hs : 0 ≤ s) : ∀ k : Nat, (∀ j : Nat, j < k → 1 ≤ g - s * j) → 0 ≤ rP g s k ∧ rP g s k ≤ 1000 * k
  | 0, _ => by simp [rP]
  | k + 1, h => by
    have h1 := rP_bd hg hs k (fun j hj => h j (by omega))
    have h2 := h k (by omega)
    have h3 : 0 ≤ s * k := Int.mul_nonneg hs (by omega)
    unfold rP
    omega
theorem x6_bore_l {I : Nat → Nat → Int32} {J : Nat → Nat → Int64} {F : Option Value → zM → Prop} {g s : Int} (hg : 1 ≤ g ∧ g ≤ 1000) (hs : 0 ≤ s ∧ s ≤ 100) (h : ∀ (c : Nat) (I' : Nat → Nat → Int32), rOK g s c → (rd I' 167 1 = c ∧ (∀ k, k < c → rd I' 168 k = rP g s k) ∧ fq (fun id k => id = 168 ∨ (id = 167 ∧ k = 1)) I I') → F none (gM I' J)) : ∀ (n : Nat) (c : Nat) (I' : Nat → Nat → Int32), 41 - c < n → 1 ≤ c → c ≤ 40 → (∀ j : Nat, j + 1 < c → 1 ≤ g - s * j) → (rd I' 167 1 = c ∧ (∀ k, k < c → rd I' 168 k = rP g s k) ∧ fq (fun id k => id = 168 ∨ (id = 167 ∧ k = 1)) I I') → Wp (sE kX6_bore RX6) F 14 [(0, .ref 167), (1, .int (iI g)), (2, .int (iI s)), (3, .int (iI (g - s * ((c : Int) - 1))))] [] (gM I' J) := by
  intro n
  induction n with
  | zero =>
    intro c I' hmz hc1 hc hj0 hI
    exact absurd hmz (Nat.not_lt_zero _)
  | succ n ih =>
    intro c I' hmz hc1 hc hj0 hI
    have bs : 0 ≤ s * ((c : Int) - 1) ∧ s * ((c : Int) - 1) ≤ 4000 := ⟨Int.mul_nonneg hs.1 (by omega), Int.le_trans (Int.mul_le_mul_of_nonneg_right hs.2 (by omega)) (by omega)⟩
    refine w_iload_n dX6_bore_14 rfl ?_
    refine w_iconst (v := iI 1) dX6_bore_15 rfl ?_
    refine v_icmp_lt 67 dX6_bore_16 (by decide) (by omega) (by omega) (fun c16 => ?_) (fun c16 => ?_)
    · refine v_vret dX6_bore_67 rfl ⟨rfl, rfl⟩ ?_
      exact h c I' ⟨by omega, by omega, hj0, by omega⟩ hI
    · refine w_aload_n dX6_bore_19 rfl ?_
      refine v_getI dX6_bore_20 fX6_15 ⟨by decide, rfl⟩ (Or.inl rfl) (fun z20 e20 b20 => ?_)
      have f20 : z20 = c := by rw [e20]; exact hI.1
      refine w_bipush (v := iI 40) dX6_bore_23 (by decide) ?_
      refine v_icmp_ge 67 dX6_bore_25 (by decide) (by omega) (by omega) (fun c25 => ?_) (fun c25 => ?_)
      · refine v_vret dX6_bore_67 rfl ⟨rfl, rfl⟩ ?_
        exact h c I' ⟨by omega, by omega, hj0, by omega⟩ hI
      · refine w_aload_n dX6_bore_28 rfl ?_
        refine v_getR (j := 168) dX6_bore_29 fX6_9 ⟨by decide, rfl⟩ rfl rfl ?_
        refine w_aload_n dX6_bore_32 rfl ?_
        refine v_getI dX6_bore_33 fX6_15 ⟨by decide, rfl⟩ (Or.inl rfl) (fun z33 e33 b33 => ?_)
        have f33 : z33 = c := by rw [e33]; exact hI.1
        refine w_aload_n dX6_bore_36 rfl ?_
        refine v_getR (j := 168) dX6_bore_37 fX6_9 ⟨by decide, rfl⟩ rfl rfl ?_
        refine w_aload_n dX6_bore_40 rfl ?_
        refine v_getI dX6_bore_41 fX6_15 ⟨by decide, rfl⟩ (Or.inl rfl) (fun z41 e41 b41 => ?_)
        have f41 : z41 = c := by rw [e41]; exact hI.1
        refine w_iconst (v := iI 1) dX6_bore_44 rfl ?_
        refine v_isub dX6_bore_45 ?_
        refine v_iald dX6_bore_46 ⟨by decide, rfl⟩ (by omega) (by omega) (by decide) (fun z46 e46 b46 => ?_)
        have f46 : z46 = rP g s (c - 1) := by rw [e46, show (z41 - 1).toNat = c - 1 by omega]; exact hI.2.1 (c - 1) (by omega)
        refine w_iload_n dX6_bore_47 rfl ?_
        refine v_iadd dX6_bore_48 ?_
        refine v_iast dX6_bore_49 ⟨by decide, rfl⟩ (by omega) (by omega) (by decide) ?_
        refine w_aload_n dX6_bore_50 rfl ?_
        refine w_dup dX6_bore_51 rfl ?_
        refine v_getI dX6_bore_52 fX6_15 ⟨by decide, rfl⟩ (Or.inl rfl) (fun z52 e52 b52 => ?_)
        have f52 : z52 = c := by rw [e52, rd_wr_row (by decide)]; exact hI.1
        refine w_iconst (v := iI 1) dX6_bore_55 rfl ?_
        refine v_iadd dX6_bore_56 ?_
        refine v_putI dX6_bore_57 fX6_15 ⟨by decide, rfl⟩ rfl (Or.inl rfl) ?_
        refine w_iload_n dX6_bore_60 rfl ?_
        refine w_iload_n dX6_bore_61 rfl ?_
        refine v_isub dX6_bore_62 ?_
        refine w_istore_n dX6_bore_63 rfl rfl ?_
        refine w_goto 14 dX6_bore_64 (by decide) ?_
        have hgc : 1 ≤ g - s * ((c - 1 : Nat) : Int) := by rw [show ((c - 1 : Nat) : Int) = (c : Int) - 1 by omega]; omega
        have e5 : g - s * ((c : Int) - 1) - s = g - s * (((c + 1 : Nat) : Int) - 1) := by
          rw [show (((c + 1 : Nat) : Int) - 1) = ((c : Int) - 1) + 1 by omega, Int.mul_add]; omega
        rw [e5]
        have hjj : ∀ j : Nat, j < c → 1 ≤ g - s * j := fun j hj => by
          by_cases q : j + 1 < c
          · exact hj0 j q
          · rw [show j = c - 1 by omega]; exact hgc
        have b0 := rP_bd hg.2 hs.1 c hjj
        have e6 : rP g s c = rP g s (c - 1) + (g - s * ((c : Int) - 1)) := by
          conv => lhs; rw [show c = (c - 1) + 1 by omega]
          rw [rP, show ((c - 1 : Nat) : Int) = (c : Int) - 1 by omega]
        have e7 : z46 + (g - s * ((c : Int) - 1)) = rP g s c := by omega
        refine ih (c + 1) _ (by omega) (by omega) (by omega) (fun j hj => hjj j (by omega)) ⟨?_, ?_, ?_⟩
        · rw [rd_wr_eq (by omega) (by omega)]; omega
        · intro k hk
          rw [rd_wr_row (by decide), rd_wr (by omega) (by omega)]
          by_cases q : k = z33.toNat
          · rw [if_pos ⟨rfl, q⟩, e7]; congr 1; omega
          · rw [if_neg (fun z => q z.2)]; exact hI.2.1 k (by omega)
        · intro id k hk
          rw [rd_wr_ne (fun z => hk (Or.inr z)), rd_wr_row (fun z => hk (Or.inl z))]
          exact hI.2.2 id k hk
theorem x6_bore {I : Nat → Nat → Int32} {J : Nat → Nat → Int64} {F : Option Value → zM → Prop} {g s : Int} (hg : 1 ≤ g ∧ g ≤ 1000) (hs : 0 ≤ s ∧ s ≤ 100) (h : ∀ (c : Nat) (I' : Nat → Nat → Int32), rOK g s c → (rd I' 167 1 = c ∧ (∀ k, k < c → rd I' 168 k = rP g s k) ∧ fq (fun id k => id = 168 ∨ (id = 167 ∧ k = 1)) I I') → F none (gM I' J)) : Cl yX6_bore kX6_bore [.ref 167, .int (iI g), .int (iI s)] (gM I J) F := by
  refine cl_s (by decide) (by decide) (Nat.le_of_ble_eq_true rfl) rt_v ?_
  show Wp _ F 0 [(0, .ref 167), (1, .int (iI g)), (2, .int (iI s))] [] _
  refine w_aload_n dX6_bore_0 rfl ?_
  refine v_getR (j := 168) dX6_bore_1 fX6_9 ⟨by decide, rfl⟩ rfl rfl ?_
  refine w_iconst (v := iI 0) dX6_bore_4 rfl ?_
  refine w_iconst (v := iI 0) dX6_bore_5 rfl ?_
  refine v_iast dX6_bore_6 ⟨by decide, rfl⟩ (by omega) (by omega) (by decide) ?_
  refine w_aload_n dX6_bore_7 rfl ?_
  refine w_iconst (v := iI 1) dX6_bore_8 rfl ?_
  refine v_putI dX6_bore_9 fX6_15 ⟨by decide, rfl⟩ rfl (Or.inl rfl) ?_
  refine w_iload_n dX6_bore_12 rfl ?_
  refine w_istore_n dX6_bore_13 rfl rfl ?_
  have e0 : g - s * (((1 : Nat) : Int) - 1) = g := by rw [show (((1 : Nat) : Int) - 1) = 0 by omega]; omega
  have L := x6_bore_l (F := F) (J := J) (I := I) hg hs h 41 1 (wr (wr I 168 0 0) 167 1 1) (by omega) (by omega) (by omega) (fun j hj => by omega) ⟨?_, ?_, ?_⟩
  · rw [e0] at L
    exact L
  · rw [rd_wr_eq (by omega) (by omega)]; rfl
  · intro k hk
    rw [rd_wr_row (by decide), show k = 0 by omega]
    exact rd_wr_eq (by omega) (by omega)
  · intro id k hk
    rw [rd_wr_ne (fun z => hk (Or.inr z)), rd_wr_row (fun z => hk (Or.inl z))]
theorem x12_roll_l {I : Nat → Nat → Int32} {J : Nat → Nat → Int64} {F : Option Value → zM → Prop} {g s : Int} (hg : 1 ≤ g ∧ g ≤ 1000) (hs : 0 ≤ s ∧ s ≤ 100) (h : ∀ (c : Nat) (I' : Nat → Nat → Int32), rOK g s c → (rd I' 171 25 = c ∧ (∀ k, k < c → rd I' 188 k = rP g s k) ∧ fq (fun id k => id = 188 ∨ (id = 171 ∧ k = 25)) I I') → F (some (.int (iI (c : Int)))) (gM I' J)) : ∀ (n : Nat) (c : Nat) (I' : Nat → Nat → Int32), 41 - c < n → 1 ≤ c → c ≤ 40 → (∀ j : Nat, j + 1 < c → 1 ≤ g - s * j) → (rd I' 171 25 = c ∧ (∀ k, k < c → rd I' 188 k = rP g s k) ∧ fq (fun id k => id = 188 ∨ (id = 171 ∧ k = 25)) I I') → Wp (sE kX12_roll RX12) F 37 [(0, .ref 171), (1, .int (iI g)), (2, .int (iI s)), (3, .int (iI (g - s * ((c : Int) - 1))))] [] (gM I' J) := by
  intro n
  induction n with
  | zero =>
    intro c I' hmz hc1 hc hj0 hI
    exact absurd hmz (Nat.not_lt_zero _)
  | succ n ih =>
    intro c I' hmz hc1 hc hj0 hI
    have bs : 0 ≤ s * ((c : Int) - 1) ∧ s * ((c : Int) - 1) ≤ 4000 := ⟨Int.mul_nonneg hs.1 (by omega), Int.le_trans (Int.mul_le_mul_of_nonneg_right hs.2 (by omega)) (by omega)⟩
    refine w_iload_n dX12_roll_37 rfl ?_
    refine v_if_le 89 dX12_roll_38 (by decide) (by omega) (fun c38 => ?_) (fun c38 => ?_)
    · refine w_aload_n dX12_roll_89 rfl ?_
      refine v_getI dX12_roll_90 fX12_213 ⟨by decide, rfl⟩ (Or.inl rfl) (fun z90 e90 b90 => ?_)
      refine v_iret dX12_roll_93 rfl ⟨rfl, rfl⟩ ?_
      rw [show z90 = (c : Int) by rw [e90]; exact hI.1]
      exact h c I' ⟨by omega, by omega, hj0, by omega⟩ hI
    · refine w_aload_n dX12_roll_41 rfl ?_
      refine v_getI dX12_roll_42 fX12_213 ⟨by decide, rfl⟩ (Or.inl rfl) (fun z42 e42 b42 => ?_)
      have f42 : z42 = c := by rw [e42]; exact hI.1
      refine w_bipush (v := iI 40) dX12_roll_45 (by decide) ?_
      refine v_icmp_ge 89 dX12_roll_47 (by decide) (by omega) (by omega) (fun c47 => ?_) (fun c47 => ?_)
      · refine w_aload_n dX12_roll_89 rfl ?_
        refine v_getI dX12_roll_90 fX12_213 ⟨by decide, rfl⟩ (Or.inl rfl) (fun z90 e90 b90 => ?_)
        refine v_iret dX12_roll_93 rfl ⟨rfl, rfl⟩ ?_
        rw [show z90 = (c : Int) by rw [e90]; exact hI.1]
        exact h c I' ⟨by omega, by omega, hj0, by omega⟩ hI
      · refine w_aload_n dX12_roll_50 rfl ?_
        refine v_getR (j := 188) dX12_roll_51 fX12_59 ⟨by decide, rfl⟩ rfl rfl ?_
        refine w_aload_n dX12_roll_54 rfl ?_
        refine v_getI dX12_roll_55 fX12_213 ⟨by decide, rfl⟩ (Or.inl rfl) (fun z55 e55 b55 => ?_)
        have f55 : z55 = c := by rw [e55]; exact hI.1
        refine w_aload_n dX12_roll_58 rfl ?_
        refine v_getR (j := 188) dX12_roll_59 fX12_59 ⟨by decide, rfl⟩ rfl rfl ?_
        refine w_aload_n dX12_roll_62 rfl ?_
        refine v_getI dX12_roll_63 fX12_213 ⟨by decide, rfl⟩ (Or.inl rfl) (fun z63 e63 b63 => ?_)
        have f63 : z63 = c := by rw [e63]; exact hI.1
        refine w_iconst (v := iI 1) dX12_roll_66 rfl ?_
        refine v_isub dX12_roll_67 ?_
        refine v_iald dX12_roll_68 ⟨by decide, rfl⟩ (by omega) (by omega) (by decide) (fun z68 e68 b68 => ?_)
        have f68 : z68 = rP g s (c - 1) := by rw [e68, show (z63 - 1).toNat = c - 1 by omega]; exact hI.2.1 (c - 1) (by omega)
        refine w_iload_n dX12_roll_69 rfl ?_
        refine v_iadd dX12_roll_70 ?_
        refine v_iast dX12_roll_71 ⟨by decide, rfl⟩ (by omega) (by omega) (by decide) ?_
        refine w_aload_n dX12_roll_72 rfl ?_
        refine w_dup dX12_roll_73 rfl ?_
        refine v_getI dX12_roll_74 fX12_213 ⟨by decide, rfl⟩ (Or.inl rfl) (fun z74 e74 b74 => ?_)
        have f74 : z74 = c := by rw [e74, rd_wr_row (by decide)]; exact hI.1
        refine w_iconst (v := iI 1) dX12_roll_77 rfl ?_
        refine v_iadd dX12_roll_78 ?_
        refine v_putI dX12_roll_79 fX12_213 ⟨by decide, rfl⟩ rfl (Or.inl rfl) ?_
        refine w_iload_n dX12_roll_82 rfl ?_
        refine w_iload_n dX12_roll_83 rfl ?_
        refine v_isub dX12_roll_84 ?_
        refine w_istore_n dX12_roll_85 rfl rfl ?_
        refine w_goto 37 dX12_roll_86 (by decide) ?_
        have hgc : 1 ≤ g - s * ((c - 1 : Nat) : Int) := by rw [show ((c - 1 : Nat) : Int) = (c : Int) - 1 by omega]; omega
        have e5 : g - s * ((c : Int) - 1) - s = g - s * (((c + 1 : Nat) : Int) - 1) := by
          rw [show (((c + 1 : Nat) : Int) - 1) = ((c : Int) - 1) + 1 by omega, Int.mul_add]; omega
        rw [e5]
        have hjj : ∀ j : Nat, j < c → 1 ≤ g - s * j := fun j hj => by
          by_cases q : j + 1 < c
          · exact hj0 j q
          · rw [show j = c - 1 by omega]; exact hgc
        have b0 := rP_bd hg.2 hs.1 c hjj
        have e6 : rP g s c = rP g s (c - 1) + (g - s * ((c : Int) - 1)) := by
          conv => lhs; rw [show c = (c - 1) + 1 by omega]
          rw [rP, show ((c - 1 : Nat) : Int) = (c : Int) - 1 by omega]
        have e7 : z68 + (g - s * ((c : Int) - 1)) = rP g s c := by omega
        refine ih (c + 1) _ (by omega) (by omega) (by omega) (fun j hj => hjj j (by omega)) ⟨?_, ?_, ?_⟩
        · rw [rd_wr_eq (by omega) (by omega)]; omega
        · intro k hk
          rw [rd_wr_row (by decide), rd_wr (by omega) (by omega)]
          by_cases q : k = z55.toNat
          · rw [if_pos ⟨rfl, q⟩, e7]; congr 1; omega
          · rw [if_neg (fun z => q z.2)]; exact hI.2.1 k (by omega)
        · intro id k hk
          rw [rd_wr_ne (fun z => hk (Or.inr z)), rd_wr_row (fun z => hk (Or.inl z))]
          exact hI.2.2 id k hk
theorem x12_roll {I : Nat → Nat → Int32} {J : Nat → Nat → Int64} {F : Option Value → zM → Prop} {g s : Int} (bg : -2147483648 ≤ g ∧ g < 2147483648) (bs : -2147483648 ≤ s ∧ s < 2147483648) (hno : ¬ ((1 ≤ g ∧ g ≤ 1000) ∧ (0 ≤ s ∧ s ≤ 100)) → F (some (.int (iI (-1)))) (gM I J)) (h : (1 ≤ g ∧ g ≤ 1000) → (0 ≤ s ∧ s ≤ 100) → ∀ (c : Nat) (I' : Nat → Nat → Int32), rOK g s c → (rd I' 171 25 = c ∧ (∀ k, k < c → rd I' 188 k = rP g s k) ∧ fq (fun id k => id = 188 ∨ (id = 171 ∧ k = 25)) I I') → F (some (.int (iI (c : Int)))) (gM I' J)) : Cl yX12_roll kX12_roll [.ref 171, .int (iI g), .int (iI s)] (gM I J) F := by
  refine cl_s (by decide) (by decide) (Nat.le_of_ble_eq_true rfl) rt_i ?_
  show Wp _ F 0 [(0, .ref 171), (1, .int (iI g)), (2, .int (iI s))] [] _
  refine w_iload_n dX12_roll_0 rfl ?_
  refine w_iconst (v := iI 1) dX12_roll_1 rfl ?_
  refine w_sipush (v := iI 1000) dX12_roll_2 (by decide) ?_
  refine v_callS3 dX12_roll_5 lX12_69 vX12_isIn (by decide) rfl rfl (by decide) ?_
  refine x12_isIn (by omega) (by omega) (by omega) (fun q5 => ?_) (fun q5 => ?_)
  · refine v_if_eq 21 dX12_roll_8 (by decide) (by decide) (fun q => absurd q (by decide)) (fun _ => ?_)
    refine w_iload_n dX12_roll_11 rfl ?_
    refine w_iconst (v := iI 0) dX12_roll_12 rfl ?_
    refine w_bipush (v := iI 100) dX12_roll_13 (by decide) ?_
    refine v_callS3 dX12_roll_15 lX12_69 vX12_isIn (by decide) rfl rfl (by decide) ?_
    refine x12_isIn (by omega) (by omega) (by omega) (fun q15 => ?_) (fun q15 => ?_)
    · refine v_if_ne 23 dX12_roll_18 (by decide) (by decide) (fun _ => ?_) (fun q => absurd q (by decide))
      refine w_aload_n dX12_roll_23 rfl ?_
      refine v_getR (j := 188) dX12_roll_24 fX12_59 ⟨by decide, rfl⟩ rfl rfl ?_
      refine w_iconst (v := iI 0) dX12_roll_27 rfl ?_
      refine w_iconst (v := iI 0) dX12_roll_28 rfl ?_
      refine v_iast dX12_roll_29 ⟨by decide, rfl⟩ (by omega) (by omega) (by decide) ?_
      refine w_aload_n dX12_roll_30 rfl ?_
      refine w_iconst (v := iI 1) dX12_roll_31 rfl ?_
      refine v_putI dX12_roll_32 fX12_213 ⟨by decide, rfl⟩ rfl (Or.inl rfl) ?_
      refine w_iload_n dX12_roll_35 rfl ?_
      refine w_istore_n dX12_roll_36 rfl rfl ?_
      have e0 : g - s * (((1 : Nat) : Int) - 1) = g := by rw [show (((1 : Nat) : Int) - 1) = 0 by omega]; omega
      have L := x12_roll_l (F := F) (J := J) (I := I) q5 q15 (h q5 q15) 41 1 (wr (wr I 188 0 0) 171 25 1) (by omega) (by omega) (by omega) (fun j hj => by omega) ⟨?_, ?_, ?_⟩
      · rw [e0] at L
        exact L
      · rw [rd_wr_eq (by omega) (by omega)]; rfl
      · intro k hk
        rw [rd_wr_row (by decide), show k = 0 by omega]
        exact rd_wr_eq (by omega) (by omega)
      · intro id k hk
        rw [rd_wr_ne (fun z => hk (Or.inr z)), rd_wr_row (fun z => hk (Or.inl z))]
    · refine v_if_ne 23 dX12_roll_18 (by decide) (by decide) (fun q => absurd q (by decide)) (fun _ => ?_)
      refine w_iconst (v := iI (-1)) dX12_roll_21 rfl ?_
      refine v_iret dX12_roll_22 rfl ⟨rfl, rfl⟩ ?_
      exact hno (by omega)
  · refine v_if_eq 21 dX12_roll_8 (by decide) (by decide) (fun _ => ?_) (fun q => absurd q (by decide))
    refine w_iconst (v := iI (-1)) dX12_roll_21 rfl ?_
    refine v_iret dX12_roll_22 rfl ⟨rfl, rfl⟩ ?_
    exact hno (by omega)
theorem x11_roll {I : Nat → Nat → Int32} {J : Nat → Nat → Int64} {F : Option Value → zM → Prop} {g s : Int} (bg : -2147483648 ≤ g ∧ g < 2147483648) (bs : -2147483648 ≤ s ∧ s < 2147483648) (hno : ¬ ((1 ≤ g ∧ g ≤ 1000) ∧ (0 ≤ s ∧ s ≤ 100)) → F (some (.int (iI (-1)))) (gM I J)) (h : (1 ≤ g ∧ g ≤ 1000) → (0 ≤ s ∧ s ≤ 100) → ∀ (c : Nat) (I' : Nat → Nat → Int32), rOK g s c → (rd I' 167 1 = c ∧ (∀ k, k < c → rd I' 168 k = rP g s k) ∧ fq (fun id k => id = 168 ∨ (id = 167 ∧ k = 1)) I I') → F (some (.int (iI (c : Int)))) (gM I' J)) : Cl yX11_roll kX11_roll [.ref 0, .int (iI g), .int (iI s)] (gM I J) F := by
  refine cl_s (by decide) (by decide) (Nat.le_of_ble_eq_true rfl) rt_i ?_
  show Wp _ F 0 [(0, .ref 0), (1, .int (iI g)), (2, .int (iI s))] [] _
  refine w_iload_n dX11_roll_0 rfl ?_
  refine w_iconst (v := iI 1) dX11_roll_1 rfl ?_
  refine v_icmp_lt 22 dX11_roll_2 (by decide) (by omega) (by omega) (fun c2 => ?_) (fun c2 => ?_)
  · refine w_iconst (v := iI (-1)) dX11_roll_22 rfl ?_
    refine v_iret dX11_roll_23 rfl ⟨rfl, rfl⟩ ?_
    exact hno (by omega)
  · refine w_iload_n dX11_roll_5 rfl ?_
    refine w_sipush (v := iI 1000) dX11_roll_6 (by decide) ?_
    refine v_icmp_gt 22 dX11_roll_9 (by decide) (by omega) (by omega) (fun c9 => ?_) (fun c9 => ?_)
    · refine w_iconst (v := iI (-1)) dX11_roll_22 rfl ?_
      refine v_iret dX11_roll_23 rfl ⟨rfl, rfl⟩ ?_
      exact hno (by omega)
    · refine w_iload_n dX11_roll_12 rfl ?_
      refine v_if_lt 22 dX11_roll_13 (by decide) (by omega) (fun c13 => ?_) (fun c13 => ?_)
      · refine w_iconst (v := iI (-1)) dX11_roll_22 rfl ?_
        refine v_iret dX11_roll_23 rfl ⟨rfl, rfl⟩ ?_
        exact hno (by omega)
      · refine w_iload_n dX11_roll_16 rfl ?_
        refine w_bipush (v := iI 100) dX11_roll_17 (by decide) ?_
        refine v_icmp_le 24 dX11_roll_19 (by decide) (by omega) (by omega) (fun c19 => ?_) (fun c19 => ?_)
        · refine w_aload_n dX11_roll_24 rfl ?_
          refine v_getR (j := 167) dX11_roll_25 fX11_49 ⟨by decide, rfl⟩ rfl rfl ?_
          refine w_iload_n dX11_roll_28 rfl ?_
          refine w_iload_n dX11_roll_29 rfl ?_
          refine v_callV2 dX11_roll_30 lX11_181 vX6_bore (by decide) rfl rfl ⟨by decide, rfl⟩ (by decide) rfl (by decide) ?_
          refine x6_bore (by omega) (by omega) (fun c I' hc hI => ?_)
          refine w_aload_n dX11_roll_33 rfl ?_
          refine v_getR (j := 167) dX11_roll_34 fX11_49 ⟨by decide, rfl⟩ rfl rfl ?_
          refine v_getI dX11_roll_37 fX11_185 ⟨by decide, rfl⟩ (Or.inl rfl) (fun z37 e37 b37 => ?_)
          refine v_iret dX11_roll_40 rfl ⟨rfl, rfl⟩ ?_
          rw [show z37 = (c : Int) by rw [e37]; exact hI.1]
          exact h (by omega) (by omega) c I' hc hI
        · refine w_iconst (v := iI (-1)) dX11_roll_22 rfl ?_
          refine v_iret dX11_roll_23 rfl ⟨rfl, rfl⟩ ?_
          exact hno (by omega)
theorem x11_bitOf {I : Nat → Nat → Int32} {J : Nat → Nat → Int64} {F : Option Value → zM → Prop} {b : Int} (bb : -2147483648 ≤ b ∧ b < 2147483648) (hn : (∀ q : Nat, b = q → q < 10 → rd I (bI q 0) 4 = 0) → F (some .null) (gM I J)) (hy : ∀ q : Nat, b = q → q < 10 → rd I (bI q 0) 4 ≠ 0 → F (some (.ref (bI q 0))) (gM I J)) : Cl yX11_bitOf kX11_bitOf [.ref 0, .int (iI b)] (gM I J) F := by
  refine cl_s (by decide) (by decide) (Nat.le_of_ble_eq_true rfl) (rt_o _) ?_
  show Wp _ F 0 [(0, .ref 0), (1, .int (iI b))] [] _
  refine w_iload_n dX11_bitOf_0 rfl ?_
  refine v_if_lt 22 dX11_bitOf_1 (by decide) (by omega) (fun c1 => ?_) (fun c1 => ?_)
  · refine w_null dX11_bitOf_22 ?_
    refine v_nret dX11_bitOf_23 rfl ⟨rfl, rfl⟩ ?_
    refine hn (fun q g1 g2 => ?_)
    first | omega | (subst g1; simp only [Int.toNat_natCast] at e16; rw [← e16]; assumption)
  · refine w_iload_n dX11_bitOf_4 rfl ?_
    refine w_bipush (v := iI 10) dX11_bitOf_5 (by decide) ?_
    refine v_icmp_ge 22 dX11_bitOf_7 (by decide) (by omega) (by omega) (fun c7 => ?_) (fun c7 => ?_)
    · refine w_null dX11_bitOf_22 ?_
      refine v_nret dX11_bitOf_23 rfl ⟨rfl, rfl⟩ ?_
      refine hn (fun q g1 g2 => ?_)
      first | omega | (subst g1; simp only [Int.toNat_natCast] at e16; rw [← e16]; assumption)
    · refine w_aload_n dX11_bitOf_10 rfl ?_
      refine v_getR (j := 3) dX11_bitOf_11 fX11_18 ⟨by decide, rfl⟩ rfl rfl ?_
      refine w_iload_n dX11_bitOf_14 rfl ?_
      refine v_aald dX11_bitOf_15 (by omega) (by omega) ?_
      refine v_getI dX11_bitOf_16 fX11_212 (sO_b (show b.toNat < 10 by omega) (by decide) rfl) (Or.inl rfl) (fun z16 e16 b16 => ?_)
      refine v_if_ne 24 dX11_bitOf_19 (by decide) (by omega) (fun c19 => ?_) (fun c19 => ?_)
      · refine w_aload_n dX11_bitOf_24 rfl ?_
        refine v_getR (j := 3) dX11_bitOf_25 fX11_18 ⟨by decide, rfl⟩ rfl rfl ?_
        refine w_iload_n dX11_bitOf_28 rfl ?_
        refine v_aald dX11_bitOf_29 (by omega) (by omega) ?_
        refine v_aret dX11_bitOf_30 rfl ⟨rfl, rfl⟩ ?_
        exact hy b.toNat (by omega) (by omega) (by rw [← e16]; assumption)
      · refine w_null dX11_bitOf_22 ?_
        refine v_nret dX11_bitOf_23 rfl ⟨rfl, rfl⟩ ?_
        refine hn (fun q g1 g2 => ?_)
        first | omega | (subst g1; simp only [Int.toNat_natCast] at e16; rw [← e16]; assumption)
theorem x12_isBit {I : Nat → Nat → Int32} {J : Nat → Nat → Int64} {F : Option Value → zM → Prop} {b : Int} (bb : -2147483648 ≤ b ∧ b < 2147483648) (hn : (∀ q : Nat, b = q → q < 10 → rd I 173 q = 0) → F (some (.int (iI 0))) (gM I J)) (hy : ∀ q : Nat, b = q → q < 10 → rd I 173 q ≠ 0 → F (some (.int (iI 1))) (gM I J)) : Cl yX12_isBit kX12_isBit [.ref 171, .int (iI b)] (gM I J) F := by
  refine cl_s (by decide) (by decide) (Nat.le_of_ble_eq_true rfl) rt_z ?_
  show Wp _ F 0 [(0, .ref 171), (1, .int (iI b))] [] _
  refine w_iload_n dX12_isBit_0 rfl ?_
  refine w_iconst (v := iI 0) dX12_isBit_1 rfl ?_
  refine w_bipush (v := iI 9) dX12_isBit_2 (by decide) ?_
  refine v_callS3 dX12_isBit_4 lX12_69 vX12_isIn (by decide) rfl rfl (by decide) ?_
  refine x12_isIn (by omega) (by omega) (by omega) (fun q4 => ?_) (fun q4 => ?_)
  · refine v_if_eq 23 dX12_isBit_7 (by decide) (by decide) (fun q => absurd q (by decide)) (fun _ => ?_)
    refine w_aload_n dX12_isBit_10 rfl ?_
    refine v_getR (j := 173) dX12_isBit_11 fX12_13 ⟨by decide, rfl⟩ rfl rfl ?_
    refine w_iload_n dX12_isBit_14 rfl ?_
    refine v_zald dX12_isBit_15 ⟨by decide, rfl⟩ (by omega) (by omega) (by decide) (fun z15 e15 b15 => ?_)
    refine v_if_eq 23 dX12_isBit_16 (by decide) (by omega) (fun c16 => ?_) (fun c16 => ?_)
    · refine w_iconst (v := iI 0) dX12_isBit_23 rfl ?_
      refine v_zret dX12_isBit_24 rfl ⟨rfl, rfl⟩ (by decide) ?_
      first | exact hy b.toNat (by omega) (by omega) (by rw [← e15]; assumption) | (refine hn (fun q g1 g2 => ?_); first | omega | (subst g1; simp only [Int.toNat_natCast] at e15; rw [← e15]; assumption))
    · refine w_iconst (v := iI 1) dX12_isBit_19 rfl ?_
      refine w_goto 24 dX12_isBit_20 (by decide) ?_
      refine v_zret dX12_isBit_24 rfl ⟨rfl, rfl⟩ (by decide) ?_
      first | exact hy b.toNat (by omega) (by omega) (by rw [← e15]; assumption) | (refine hn (fun q g1 g2 => ?_); first | omega | (subst g1; simp only [Int.toNat_natCast] at e15; rw [← e15]; assumption))
  · refine v_if_eq 23 dX12_isBit_7 (by decide) (by decide) (fun _ => ?_) (fun q => absurd q (by decide))
    refine w_iconst (v := iI 0) dX12_isBit_23 rfl ?_
    refine v_zret dX12_isBit_24 rfl ⟨rfl, rfl⟩ (by decide) ?_
    first | exact hy b.toNat (by omega) (by omega) (by rw [← e15]; assumption) | (refine hn (fun q g1 g2 => ?_); first | omega | (subst g1; simp only [Int.toNat_natCast] at e15; rw [← e15]; assumption))
