/-! all that lies: the reference -/
abbrev lyB (I : Nat → Nat → Int32) (b : Nat) : Prop := rd I 177 b ≠ 0
def okL (I : Nat → Nat → Int32) (n : Nat) : Prop := ∀ b, b < n → lyB I b → ∀ y x : Int, rcA I b y x ≠ 95 → inS y x ∧ ∀ a, a < b → lyB I a → rcA I a y x = 95
def shL (I I' : Nat → Nat → Int32) (n : Nat) : Prop := ∀ k, k < 512 → (∀ b, b < n → lyB I b → rcA I b ((k / 32 : Nat) : Int) ((k % 32 : Nat) : Int) ≠ 95 → rd I' 185 k = rcA I b ((k / 32 : Nat) : Int) ((k % 32 : Nat) : Int) ∧ rd I' 186 k = b) ∧ ((∀ b, b < n → lyB I b → rcA I b ((k / 32 : Nat) : Int) ((k % 32 : Nat) : Int) = 95) → rd I' 185 k = 95 ∧ rd I' 186 k = -1)
theorem shL_none {I I' : Nat → Nat → Int32} {n k : Nat} (h : shL I I' n) (hk : k < 512) : rd I' 186 k = -1 ↔ ∀ b, b < n → lyB I b → rcA I b ((k / 32 : Nat) : Int) ((k % 32 : Nat) : Int) = 95 := by
  constructor
  · intro g b hb hl
    apply Classical.byContradiction
    intro q
    have := ((h k hk).1 b hb hl q).2
    omega
  · intro g
    exact ((h k hk).2 g).2
theorem rcA_fq {I I' : Nat → Nat → Int32} (h : fq (fun id _ => id = 185 ∨ id = 186) I I') (b : Nat) (y x : Int) : rcA I' b y x = rcA I b y x := by
  unfold rcA
  rw [h 178 b (by (try dsimp only); omega), h 179 b (by (try dsimp only); omega), show rce I' b = rce I b from funext fun k => h 174 _ (by (try dsimp only); omega)]
theorem rmO_sh {I I' : Nat → Nat → Int32} {n : Nat} (hf : fq (fun id _ => id = 185 ∨ id = 186) I I') (h : shL I I' n) : rmO (fun k => rd I' 186 k) (rce I' n) (rd I' 178 n) (rd I' 179 n) ↔ ∀ y x : Int, rcA I n y x ≠ 95 → inS y x ∧ ∀ a, a < n → lyB I a → rcA I a y x = 95 := by
  have e : ∀ y x, cA (rce I' n) (rd I' 178 n) (rd I' 179 n) y x = rcA I n y x := rcA_fq hf n
  unfold rmO
  constructor
  · intro g y x q
    have g1 := g y x (by rw [e]; exact q)
    have g2 : 0 ≤ y ∧ y < 16 ∧ 0 ≤ x ∧ x < 32 := g1.1
    refine ⟨g1.1, ?_⟩
    have := (shL_none h (k := (32 * y + x).toNat) (by omega)).mp g1.2
    rw [show (((32 * y + x).toNat / 32 : Nat) : Int) = y by omega, show (((32 * y + x).toNat % 32 : Nat) : Int) = x by omega] at this
    exact this
  · intro g y x q
    rw [e] at q
    have g1 := g y x q
    have g2 : 0 ≤ y ∧ y < 16 ∧ 0 ≤ x ∧ x < 32 := g1.1
    refine ⟨g1.1, (shL_none h (k := (32 * y + x).toNat) (by omega)).mpr ?_⟩
    rw [show (((32 * y + x).toNat / 32 : Nat) : Int) = y by omega, show (((32 * y + x).toNat % 32 : Nat) : Int) = x by omega]
    exact g1.2
theorem shL_lay {I I1 I' : Nat → Nat → Int32} {n : Nat} (hf : fq (fun id _ => id = 185 ∨ id = 186) I I1) (h : shL I I1 n) (hl : lyB I n) (ho : ∀ y x : Int, rcA I n y x ≠ 95 → inS y x ∧ ∀ a, a < n → lyB I a → rcA I a y x = 95) (hm : lyM I1 I' n 50) : shL I I' (n + 1) := by
  intro k hk
  have e := rcA_fq hf n ((k / 32 : Nat) : Int) ((k % 32 : Nat) : Int)
  have m1 := hm 185 k
  have m2 := hm 186 k
  rw [e] at m1 m2
  by_cases g : rcA I n ((k / 32 : Nat) : Int) ((k % 32 : Nat) : Int) = 95
  · rw [if_neg (fun q => q.2.2.1 g)] at m1 m2
    rw [m1, m2]
    refine ⟨fun b hb lb q => ?_, fun q => (h k hk).2 fun b hb => q b (by omega)⟩
    rcases Nat.lt_succ_iff_lt_or_eq.mp hb with u | u
    · exact (h k hk).1 b u lb q
    · subst u; exact absurd g q
  · have g2 := cA_ne g
    have g3 : 10 * (((k / 32 : Nat) : Int) - rd I1 178 n) + (((k % 32 : Nat) : Int) - rd I1 179 n) < 50 := by
      rw [hf 178 n (by (try dsimp only); omega), hf 179 n (by (try dsimp only); omega)]; omega
    rw [if_pos ⟨Or.inl rfl, hk, g, g3⟩, if_pos rfl] at m1
    rw [if_pos ⟨Or.inr rfl, hk, g, g3⟩, if_neg (by decide)] at m2
    rw [m1, m2]
    refine ⟨fun b hb lb q => ?_, fun q => absurd (q n (by omega) hl) g⟩
    rcases Nat.lt_succ_iff_lt_or_eq.mp hb with u | u
    · exact absurd ((ho _ _ g).2 b u lb) q
    · subst u; exact ⟨rfl, rfl⟩
theorem shL_skip {I I' : Nat → Nat → Int32} {n : Nat} (h : shL I I' n) (hl : ¬ lyB I n) : shL I I' (n + 1) := by
  intro k hk
  refine ⟨fun b hb lb q => ?_, fun q => (h k hk).2 fun b hb => q b (by omega)⟩
  rcases Nat.lt_succ_iff_lt_or_eq.mp hb with u | u
  · exact (h k hk).1 b u lb q
  · subst u; exact absurd lb hl
theorem lyM_fq2 {I I1 I' : Nat → Nat → Int32} {b : Nat} {m : Int} (hf : fq (fun id _ => id = 185 ∨ id = 186) I I1) (h : lyM I1 I' b m) : fq (fun id _ => id = 185 ∨ id = 186) I I' := fun id k g => (lyM_fq h id k g).trans (hf id k g)
theorem x12_laysAll_l {I : Nat → Nat → Int32} {J : Nat → Nat → Int64} {F : Option Value → zM → Prop} (hR : ∀ b, b < 10 → -1000 ≤ rd I 178 b ∧ rd I 178 b ≤ 1000) (hC : ∀ b, b < 10 → -1000 ≤ rd I 179 b ∧ rd I 179 b ≤ 1000) (ht : okL I 10 → ∀ I', shL I I' 10 → fq (fun id _ => id = 185 ∨ id = 186) I I' → F (some (.int (iI 1))) (gM I' J)) (hf : ¬ okL I 10 → ∀ I', fq (fun id _ => id = 185 ∨ id = 186) I I' → F (some (.int (iI 0))) (gM I' J)) : ∀ (nz : Nat) (b : Nat) (I' : Nat → Nat → Int32), 10 - b < nz → b ≤ 10 → fq (fun id _ => id = 185 ∨ id = 186) I I' → shL I I' b → okL I b → Wp (sE kX12_laysAll RX12) F 32 [(0, .ref 171), (1, .int (iI (b : Int)))] [] (gM I' J) := by
  intro nz
  induction nz with
  | zero =>
    intro b I' hmz hb hx hs ho
    exact absurd hmz (Nat.not_lt_zero _)
  | succ nz ih =>
    intro b I' hmz hb hx hs ho
    refine w_iload_n dX12_laysAll_32 rfl ?_
    refine w_bipush (v := iI 10) dX12_laysAll_33 (by decide) ?_
    refine v_icmp_ge 63 dX12_laysAll_35 (by decide) (by omega) (by omega) (fun c35 => ?_) (fun c35 => ?_)
    · refine w_iconst (v := iI 1) dX12_laysAll_63 rfl ?_
      refine v_zret dX12_laysAll_64 rfl ⟨rfl, rfl⟩ (by decide) ?_
      have g : b = 10 := by omega
      subst g
      exact ht ho I' hs hx
    · refine w_aload_n dX12_laysAll_38 rfl ?_
      refine v_getR (j := 177) dX12_laysAll_39 fX12_26 ⟨by decide, rfl⟩ rfl rfl ?_
      refine w_iload_n dX12_laysAll_42 rfl ?_
      refine v_zald dX12_laysAll_43 ⟨by decide, rfl⟩ (by omega) (by omega) (by decide) (fun z43 e43 b43 => ?_)
      have f43 : z43 = rd I 177 b := by rw [e43, hx _ _ (by (try dsimp only); omega)]; rfl
      refine v_if_eq 57 dX12_laysAll_44 (by decide) (by omega) (fun c44 => ?_) (fun c44 => ?_)
      · refine v_iinc dX12_laysAll_57 rfl rfl rfl ?_
        refine w_goto 32 dX12_laysAll_60 (by decide) ?_
        rw [show (b : Int) + 1 = ((b + 1 : Nat) : Int) by omega]
        first
          | (refine ih (b + 1) I2 (by omega) (by omega) (lyM_fq2 hx m2) (shL_lay hx hs (by show rd I 177 b ≠ 0; omega) q49 m2) (fun a ha la => ?_)
             rcases Nat.lt_succ_iff_lt_or_eq.mp ha with g | g
             · exact ho a g la
             · subst g; exact q49)
          | (have nl : ¬ lyB I b := by show ¬ (rd I 177 b ≠ 0); omega
             refine ih (b + 1) I' (by omega) (by omega) hx (shL_skip hs nl) (fun a ha la => ?_)
             rcases Nat.lt_succ_iff_lt_or_eq.mp ha with g | g
             · exact ho a g la
             · subst g; exact absurd la nl)
      · refine w_aload_n dX12_laysAll_47 rfl ?_
        refine w_iload_n dX12_laysAll_48 rfl ?_
        refine v_callV1 dX12_laysAll_49 lX12_90 vX12_lays (by decide) rfl rfl ⟨by decide, rfl⟩ (by decide) rfl (Nat.le_of_ble_eq_true rfl) ?_
        refine x12_lays (b := b) (by omega) (by rw [hx _ _ (by (try dsimp only); omega)]; exact hR b (by omega)) (by rw [hx _ _ (by (try dsimp only); omega)]; exact hC b (by omega)) (fun q49 I2 m2 => ?_) (fun q49 I2 m2 => ?_)
        all_goals rw [rmO_sh hx hs] at q49
        · refine v_if_ne 57 dX12_laysAll_52 (by decide) (by decide) (fun _ => ?_) (fun q => absurd q (by decide))
          refine v_iinc dX12_laysAll_57 rfl rfl rfl ?_
          refine w_goto 32 dX12_laysAll_60 (by decide) ?_
          rw [show (b : Int) + 1 = ((b + 1 : Nat) : Int) by omega]
          first
            | (refine ih (b + 1) I2 (by omega) (by omega) (lyM_fq2 hx m2) (shL_lay hx hs (by show rd I 177 b ≠ 0; omega) q49 m2) (fun a ha la => ?_)
               rcases Nat.lt_succ_iff_lt_or_eq.mp ha with g | g
               · exact ho a g la
               · subst g; exact q49)
            | (have nl : ¬ lyB I b := by show ¬ (rd I 177 b ≠ 0); omega
               refine ih (b + 1) I' (by omega) (by omega) hx (shL_skip hs nl) (fun a ha la => ?_)
               rcases Nat.lt_succ_iff_lt_or_eq.mp ha with g | g
               · exact ho a g la
               · subst g; exact absurd la nl)
        · refine v_if_ne 57 dX12_laysAll_52 (by decide) (by decide) (fun q => absurd q (by decide)) (fun _ => ?_)
          refine w_iconst (v := iI 0) dX12_laysAll_55 rfl ?_
          refine v_zret dX12_laysAll_56 rfl ⟨rfl, rfl⟩ (by decide) ?_
          refine hf (fun g => q49 ?_) I2 (fun id k g => (m2 id k g).trans (hx id k g))
          exact g b (by omega) (by show rd I 177 b ≠ 0; omega)
theorem x12_laysAll_z {I : Nat → Nat → Int32} {J : Nat → Nat → Int64} {F : Option Value → zM → Prop} (hR : ∀ b, b < 10 → -1000 ≤ rd I 178 b ∧ rd I 178 b ≤ 1000) (hC : ∀ b, b < 10 → -1000 ≤ rd I 179 b ∧ rd I 179 b ≤ 1000) (ht : okL I 10 → ∀ I', shL I I' 10 → fq (fun id _ => id = 185 ∨ id = 186) I I' → F (some (.int (iI 1))) (gM I' J)) (hf : ¬ okL I 10 → ∀ I', fq (fun id _ => id = 185 ∨ id = 186) I I' → F (some (.int (iI 0))) (gM I' J)) : ∀ (nz : Nat) (b : Nat) (I' : Nat → Nat → Int32), 512 - b < nz → b ≤ 512 → (∀ id k, rd I' id k = if id = 185 ∧ k < b then 95 else if id = 186 ∧ k < b then -1 else rd I id k) → Wp (sE kX12_laysAll RX12) F 2 [(0, .ref 171), (1, .int (iI (b : Int)))] [] (gM I' J) := by
  intro nz
  induction nz with
  | zero =>
    intro b I' hmz hb hz
    exact absurd hmz (Nat.not_lt_zero _)
  | succ nz ih =>
    intro b I' hmz hb hz
    refine w_iload_n dX12_laysAll_2 rfl ?_
    refine w_sipush (v := iI 512) dX12_laysAll_3 (by decide) ?_
    refine v_icmp_ge 30 dX12_laysAll_6 (by decide) (by omega) (by omega) (fun c6 => ?_) (fun c6 => ?_)
    · refine w_iconst (v := iI 0) dX12_laysAll_30 rfl ?_
      refine w_istore_n dX12_laysAll_31 rfl rfl ?_
      have g : b = 512 := by omega
      subst g
      refine x12_laysAll_l hR hC ht hf 11 0 I' (by omega) (by omega) (fun id k g => ?_) (fun k hk => ⟨fun b hb => by omega, fun _ => ?_⟩) (fun a ha => by omega)
      · rw [hz id k, if_neg (fun q => g (Or.inl q.1)), if_neg (fun q => g (Or.inr q.1))]
      · rw [hz 185 k, hz 186 k, if_pos ⟨rfl, hk⟩, if_neg (fun q => absurd q.1 (by decide)), if_pos ⟨rfl, hk⟩]
        exact ⟨rfl, rfl⟩
    · refine w_aload_n dX12_laysAll_9 rfl ?_
      refine v_getR (j := 185) dX12_laysAll_10 fX12_50 ⟨by decide, rfl⟩ rfl rfl ?_
      refine w_iload_n dX12_laysAll_13 rfl ?_
      refine w_bipush (v := iI 95) dX12_laysAll_14 (by decide) ?_
      refine v_iast dX12_laysAll_16 ⟨by decide, rfl⟩ (by omega) (by omega) (by decide) ?_
      refine w_aload_n dX12_laysAll_17 rfl ?_
      refine v_getR (j := 186) dX12_laysAll_18 fX12_53 ⟨by decide, rfl⟩ rfl rfl ?_
      refine w_iload_n dX12_laysAll_21 rfl ?_
      refine w_iconst (v := iI (-1)) dX12_laysAll_22 rfl ?_
      refine v_iast dX12_laysAll_23 ⟨by decide, rfl⟩ (by omega) (by omega) (by decide) ?_
      refine v_iinc dX12_laysAll_24 rfl rfl rfl ?_
      refine w_goto 2 dX12_laysAll_27 (by decide) ?_
      rw [show (b : Int) + 1 = ((b + 1 : Nat) : Int) by omega]
      refine ih (b + 1) _ (by omega) (by omega) (fun id k => ?_)
      rw [rd_wr (by omega) (by omega), rd_wr (by omega) (by omega), hz id k]
      simp only [show (((b : Nat) : Int)).toNat = b from rfl]
      by_cases i1 : id = 185
      · subst i1
        by_cases g : k = b
        · simp [g]
        · by_cases g2 : k < b
          · have g3 : k < b + 1 := by omega
            simp [g, g2, g3]
          · have g3 : ¬ k < b + 1 := by omega
            simp [g, g2, g3]
      · by_cases i2 : id = 186
        · subst i2
          by_cases g : k = b
          · simp [g]
          · by_cases g2 : k < b
            · have g3 : k < b + 1 := by omega
              simp [g, g2, g3]
            · have g3 : ¬ k < b + 1 := by omega
              simp [g, g2, g3]
        · simp [i1, i2]
theorem x12_laysAll {I : Nat → Nat → Int32} {J : Nat → Nat → Int64} {F : Option Value → zM → Prop} (hR : ∀ b, b < 10 → -1000 ≤ rd I 178 b ∧ rd I 178 b ≤ 1000) (hC : ∀ b, b < 10 → -1000 ≤ rd I 179 b ∧ rd I 179 b ≤ 1000) (ht : okL I 10 → ∀ I', shL I I' 10 → fq (fun id _ => id = 185 ∨ id = 186) I I' → F (some (.int (iI 1))) (gM I' J)) (hf : ¬ okL I 10 → ∀ I', fq (fun id _ => id = 185 ∨ id = 186) I I' → F (some (.int (iI 0))) (gM I' J)) : Cl yX12_laysAll kX12_laysAll [.ref 171] (gM I J) F := by
  refine cl_s (by decide) (by decide) (Nat.le_of_ble_eq_true rfl) rt_z ?_
  show Wp _ F 0 [(0, .ref 171)] [] _
  refine w_iconst (v := iI 0) dX12_laysAll_0 rfl ?_
  refine w_istore_n dX12_laysAll_1 rfl rfl ?_
  exact x12_laysAll_z hR hC ht hf 513 0 I (by omega) (by omega) (fun id k => by rw [if_neg (by omega), if_neg (by omega)])
