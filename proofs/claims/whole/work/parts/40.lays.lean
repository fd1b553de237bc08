/-! BITS laid: the reference -/
/-- the sign that a BIT at (R, C) has at (y, x) -/
def cA (ce : Nat → Int) (R C y x : Int) : Int := if 0 ≤ y - R ∧ y - R < 5 ∧ 0 ≤ x - C ∧ x - C < 10 then ce (10 * (y - R) + (x - C)).toNat else 95
theorem cA_at {ce : Nat → Int} {R C : Int} {k : Nat} (h : k < 50) : cA ce R C (R + (k / 10 : Nat)) (C + (k % 10 : Nat)) = ce k := by
  unfold cA
  rw [if_pos (by omega)]
  congr 1
  omega
theorem cA_ne {ce : Nat → Int} {R C y x : Int} (h : cA ce R C y x ≠ 95) : 0 ≤ y - R ∧ y - R < 5 ∧ 0 ≤ x - C ∧ x - C < 10 ∧ ce (10 * (y - R) + (x - C)).toNat ≠ 95 := by
  unfold cA at h
  by_cases g : 0 ≤ y - R ∧ y - R < 5 ∧ 0 ≤ x - C ∧ x - C < 10
  · rw [if_pos g] at h; exact ⟨g.1, g.2.1, g.2.2.1, g.2.2.2, h⟩
  · rw [if_neg g] at h; exact absurd rfl h
/-- it has room there -/
def rmO (ow : Nat → Int) (ce : Nat → Int) (R C : Int) : Prop := ∀ y x : Int, cA ce R C y x ≠ 95 → inS y x ∧ ow (32 * y + x).toNat = -1
def rce (I : Nat → Nat → Int32) (b : Nat) : Nat → Int := fun k => rd I 174 (50 * b + k)
def rcA (I : Nat → Nat → Int32) (b : Nat) (y x : Int) : Int := cA (rce I b) (rd I 178 b) (rd I 179 b) y x
/-- cells of bit b before m are laid -/
def lyM (I I' : Nat → Nat → Int32) (b : Nat) (m : Int) : Prop := ∀ id k, rd I' id k = if (id = 185 ∨ id = 186) ∧ k < 512 ∧ rcA I b ((k / 32 : Nat) : Int) ((k % 32 : Nat) : Int) ≠ 95 ∧ 10 * (((k / 32 : Nat) : Int) - rd I 178 b) + (((k % 32 : Nat) : Int) - rd I 179 b) < m then (if id = 185 then rcA I b ((k / 32 : Nat) : Int) ((k % 32 : Nat) : Int) else b) else rd I id k
theorem lyM_fq {I I' : Nat → Nat → Int32} {b : Nat} {m : Int} (h : lyM I I' b m) : fq (fun id _ => id = 185 ∨ id = 186) I I' := fun id k g => by
  rw [h id k, if_neg (fun q => g q.1)]
theorem x12_lays_l {I : Nat → Nat → Int32} {J : Nat → Nat → Int64} {F : Option Value → zM → Prop} {b : Nat} (hb : b < 10) (hR : -1000 ≤ rd I 178 b ∧ rd I 178 b ≤ 1000) (hC : -1000 ≤ rd I 179 b ∧ rd I 179 b ≤ 1000) (ht : (rmO (fun k => rd I 186 k) (rce I b) (rd I 178 b) (rd I 179 b)) → ∀ I', lyM I I' b 50 → F (some (.int (iI 1))) (gM I' J)) (hf : ¬ (rmO (fun k => rd I 186 k) (rce I b) (rd I 178 b) (rd I 179 b)) → ∀ I', fq (fun id _ => id = 185 ∨ id = 186) I I' → F (some (.int (iI 0))) (gM I' J)) : ∀ (nz : Nat) (r : Nat) (c : Nat) (I' : Nat → Nat → Int32), (5 - r) * 11 + (10 - c) < nz → r < 5 → c ≤ 10 → (∀ y x : Int, cA (rce I b) (rd I 178 b) (rd I 179 b) y x ≠ 95 → 10 * (y - rd I 178 b) + (x - rd I 179 b) < 10 * (r : Int) + c → inS y x ∧ (fun k => rd I 186 k) (32 * y + x).toNat = -1) → lyM I I' b (10 * (r : Int) + c) → Wp (sE kX12_lays RX12) F 9 [(0, .ref 171), (1, .int (iI (b : Int))), (2, .int (iI (r : Int))), (3, .int (iI (c : Int)))] [] (gM I' J) := by
  intro nz
  induction nz with
  | zero =>
    intro r c I' hmz hr hcc hc hI
    exact absurd hmz (Nat.not_lt_zero _)
  | succ nz ih =>
    intro r c I' hmz hr hcc hc hI
    have fq0 := lyM_fq hI
    refine w_iload_n dX12_lays_9 rfl ?_
    refine w_bipush (v := iI 10) dX12_lays_10 (by decide) ?_
    refine v_icmp_ge 131 dX12_lays_12 (by decide) (by omega) (by omega) (fun c12 => ?_) (fun c12 => ?_)
    · refine v_iinc dX12_lays_131 rfl rfl rfl ?_
      refine w_goto 2 dX12_lays_134 (by decide) ?_
      refine w_iload_n dX12_lays_2 rfl ?_
      refine w_iconst (v := iI 5) dX12_lays_3 rfl ?_
      refine v_icmp_ge 137 dX12_lays_4 (by decide) (by omega) (by omega) (fun c4 => ?_) (fun c4 => ?_)
      · refine w_iconst (v := iI 1) dX12_lays_137 rfl ?_
        refine v_zret dX12_lays_138 rfl ⟨rfl, rfl⟩ (by decide) ?_
        refine ht (fun y x g1 => hc y x g1 (by have := cA_ne g1; omega)) I' (fun id k => ?_)
        rw [hI id k, show 10 * (r : Int) + c = 50 by omega]
      · refine w_iconst (v := iI 0) dX12_lays_7 rfl ?_
        refine w_istore_n dX12_lays_8 rfl rfl ?_
        first
          | (fail_if_success (have := c12)
             rw [show (r : Int) + 1 = ((r + 1 : Nat) : Int) by omega]
             exact ih (r + 1) 0 I' (by omega) (by omega) (by omega) (fun y x g1 g2 => hc y x g1 (by omega)) (fun id k => by
               rw [hI id k, show 10 * ((r + 1 : Nat) : Int) + ((0 : Nat) : Int) = 10 * (r : Int) + c by omega]))
          | (fail_if_success (have := c86)
             fail_if_success (have : (10 : Int) ≤ c := c12)
             refine w_keep 4 ?_
             rw [show (c : Int) + 1 = ((c + 1 : Nat) : Int) by omega]
             first
               | (refine ih r (c + 1) I' (by omega) (by omega) (by omega) (fun y x g1 g2 => ?_) (fun id k => ?_)
                  · refine hc y x g1 ?_
                    have g3 := cA_ne g1
                    by_cases g4 : 10 * (y - rd I 178 b) + (x - rd I 179 b) = 10 * r + c
                    · exfalso
                      have g5 := g3.2.2.2.2
                      rw [show (10 * (y - rd I 178 b) + (x - rd I 179 b)).toNat = 10 * r + c by omega, ← f19] at g5
                      omega
                    · omega
                  · rw [hI id k]
                    by_cases g1 : (id = 185 ∨ id = 186) ∧ k < 512 ∧ rcA I b ((k / 32 : Nat) : Int) ((k % 32 : Nat) : Int) ≠ 95 ∧ 10 * (((k / 32 : Nat) : Int) - rd I 178 b) + (((k % 32 : Nat) : Int) - rd I 179 b) < 10 * r + c
                    · exact (if_pos g1).trans (if_pos ⟨g1.1, g1.2.1, g1.2.2.1, by omega⟩).symm
                    · rw [if_neg g1, if_neg]
                      rintro ⟨u1, u2, u3, u4⟩
                      have g3 := cA_ne u3
                      by_cases g4 : 10 * (((k / 32 : Nat) : Int) - rd I 178 b) + (((k % 32 : Nat) : Int) - rd I 179 b) = 10 * r + c
                      · have g5 := g3.2.2.2.2
                        rw [show (10 * (((k / 32 : Nat) : Int) - rd I 178 b) + (((k % 32 : Nat) : Int) - rd I 179 b)).toNat = 10 * r + c by omega, ← f19] at g5
                        omega
                      · exact g1 ⟨u1, u2, u3, by omega⟩))
          | (have := c86
             refine w_keep 4 ?_
             rw [show (c : Int) + 1 = ((c + 1 : Nat) : Int) by omega]
             have cae : rcA I b (z35 + r) (z45 + c) = z19 := by
               rw [f35, f45, f19]; unfold rcA
               have := cA_at (ce := rce I b) (R := rd I 178 b) (C := rd I 179 b) (k := 10 * r + c) (by omega)
               rw [show (10 * r + c) / 10 = r by omega, show (10 * r + c) % 10 = c by omega] at this
               exact this
             have bz := cae
             refine ih r (c + 1) _ (by omega) (by omega) (by omega) (fun y x g1 g2 => ?_) (fun id k => ?_)
             · have g3 := cA_ne g1
               by_cases g4 : 10 * (y - rd I 178 b) + (x - rd I 179 b) = 10 * r + c
               · have y1 : y = z35 + r := by omega
                 have x1 : x = z45 + c := by omega
                 refine ⟨by show 0 ≤ y ∧ y < 16 ∧ 0 ≤ x ∧ x < 32; omega, ?_⟩
                 (try dsimp only)
                 rw [y1, x1, ← f84]; omega
               · exact hc y x g1 (by omega)
             · rw [rd_wr (by omega) (by omega), rd_wr (by omega) (by omega), hI id k]
               by_cases g0 : k = (32 * (z35 + r) + (z45 + c)).toNat
               · have k1 : ((k / 32 : Nat) : Int) = z35 + r := by omega
                 have k2 : ((k % 32 : Nat) : Int) = z45 + c := by omega
                 rw [k1, k2, cae]
                 have k3 : k < 512 := by omega
                 have k4 : z19 ≠ 95 := by omega
                 have k5 : 10 * (z35 + r - rd I 178 b) + (z45 + c - rd I 179 b) < 10 * (r : Int) + ((c + 1 : Nat) : Int) := by omega
                 have k6 : z121 = z19 := by rw [f121, f19]
                 by_cases i1 : id = 185
                 · subst i1
                   exact (if_pos ⟨rfl, g0⟩).trans ((k6.trans (if_pos rfl).symm).trans (if_pos ⟨Or.inl rfl, k3, k4, k5⟩).symm)
                 · by_cases i2 : id = 186
                   · subst i2
                     exact (if_neg (fun g => absurd g.1 (by decide))).trans ((if_pos ⟨rfl, g0⟩).trans ((if_neg (by decide)).symm.trans (if_pos ⟨Or.inr rfl, k3, k4, k5⟩).symm))
                   · rw [if_neg (fun g => i1 g.1), if_neg (fun g => i2 g.1), if_neg (fun g => g.1.elim i1 i2), if_neg (fun g => g.1.elim i1 i2)]
               · have i1 : ¬ (id = 185 ∧ k = (32 * (z35 + r) + (z45 + c)).toNat) := fun g => g0 g.2
                 have i2 : ¬ (id = 186 ∧ k = (32 * (z35 + r) + (z45 + c)).toNat) := fun g => g0 g.2
                 rw [if_neg i1, if_neg i2]
                 by_cases g1 : (id = 185 ∨ id = 186) ∧ k < 512 ∧ rcA I b ((k / 32 : Nat) : Int) ((k % 32 : Nat) : Int) ≠ 95 ∧ 10 * (((k / 32 : Nat) : Int) - rd I 178 b) + (((k % 32 : Nat) : Int) - rd I 179 b) < 10 * r + c
                 · exact (if_pos g1).trans (if_pos ⟨g1.1, g1.2.1, g1.2.2.1, by omega⟩).symm
                 · rw [if_neg g1, if_neg]
                   rintro ⟨u1, u2, u3, u4⟩
                   have g3 := cA_ne u3
                   refine g1 ⟨u1, u2, u3, ?_⟩
                   omega)
          | (rw [show (r : Int) + 1 = ((r + 1 : Nat) : Int) by omega]
             exact ih (r + 1) 0 I' (by omega) (by omega) (by omega) (fun y x g1 g2 => hc y x g1 (by omega)) (fun id k => by
               rw [hI id k, show 10 * ((r + 1 : Nat) : Int) + ((0 : Nat) : Int) = 10 * (r : Int) + c by omega]))
        
    · refine w_aload_n dX12_lays_15 rfl ?_
      refine w_iload_n dX12_lays_16 rfl ?_
      refine w_iload_n dX12_lays_17 rfl ?_
      refine w_iload_n dX12_lays_18 rfl ?_
      refine v_callV3 dX12_lays_19 lX12_86 vX12_at (by decide) rfl rfl ⟨by decide, rfl⟩ (by decide) rfl (Nat.le_of_ble_eq_true rfl) ?_
      refine x12_at hb (by omega) (by omega) (fun z19 e19 b19 => ?_)
      have f19 : z19 = rce I b (10 * r + c) := by
        rw [e19, hI 174 _, if_neg (by omega)]; unfold rce; congr 1; omega
      refine w_bipush (v := iI 95) dX12_lays_22 (by decide) ?_
      refine v_icmp_ne 30 dX12_lays_24 (by decide) (by omega) (by omega) (fun c24 => ?_) (fun c24 => ?_)
      · refine w_aload_n dX12_lays_30 rfl ?_
        refine v_getR (j := 178) dX12_lays_31 fX12_29 ⟨by decide, rfl⟩ rfl rfl ?_
        refine w_iload_n dX12_lays_34 rfl ?_
        refine v_iald dX12_lays_35 ⟨by decide, rfl⟩ (by omega) (by omega) (by decide) (fun z35 e35 b35 => ?_)
        have f35 : z35 = rd I 178 b := by rw [e35, hI 178 _, if_neg (by omega)]; rfl
        refine w_iload_n dX12_lays_36 rfl ?_
        refine v_iadd dX12_lays_37 ?_
        refine w_istore dX12_lays_38 rfl rfl ?_
        refine w_aload_n dX12_lays_40 rfl ?_
        refine v_getR (j := 179) dX12_lays_41 fX12_32 ⟨by decide, rfl⟩ rfl rfl ?_
        refine w_iload_n dX12_lays_44 rfl ?_
        refine v_iald dX12_lays_45 ⟨by decide, rfl⟩ (by omega) (by omega) (by decide) (fun z45 e45 b45 => ?_)
        have f45 : z45 = rd I 179 b := by rw [e45, hI 179 _, if_neg (by omega)]; rfl
        refine w_iload_n dX12_lays_46 rfl ?_
        refine v_iadd dX12_lays_47 ?_
        refine w_istore dX12_lays_48 rfl rfl ?_
        refine w_iload dX12_lays_50 rfl ?_
        refine w_iconst (v := iI 0) dX12_lays_52 rfl ?_
        refine w_bipush (v := iI 15) dX12_lays_53 (by decide) ?_
        refine v_callS3 dX12_lays_55 lX12_69 vX12_isIn (by decide) rfl rfl (Nat.le_of_ble_eq_true rfl) ?_
        refine x12_isIn (by omega) (by omega) (by omega) (fun q55 => ?_) (fun q55 => ?_)
        · refine v_if_eq 89 dX12_lays_58 (by decide) (by decide) (fun q => absurd q (by decide)) (fun _ => ?_)
          refine w_iload dX12_lays_61 rfl ?_
          refine w_iconst (v := iI 0) dX12_lays_63 rfl ?_
          refine w_bipush (v := iI 31) dX12_lays_64 (by decide) ?_
          refine v_callS3 dX12_lays_66 lX12_69 vX12_isIn (by decide) rfl rfl (Nat.le_of_ble_eq_true rfl) ?_
          refine x12_isIn (by omega) (by omega) (by omega) (fun q66 => ?_) (fun q66 => ?_)
          · refine v_if_eq 89 dX12_lays_69 (by decide) (by decide) (fun q => absurd q (by decide)) (fun _ => ?_)
            refine w_aload_n dX12_lays_72 rfl ?_
            refine v_getR (j := 186) dX12_lays_73 fX12_53 ⟨by decide, rfl⟩ rfl rfl ?_
            refine w_bipush (v := iI 32) dX12_lays_76 (by decide) ?_
            refine w_iload dX12_lays_78 rfl ?_
            refine v_imul dX12_lays_80 ?_
            refine w_iload dX12_lays_81 rfl ?_
            refine v_iadd dX12_lays_83 ?_
            refine v_iald dX12_lays_84 ⟨by decide, rfl⟩ (by omega) (by omega) (by decide) (fun z84 e84 b84 => ?_)
            have f84 : z84 = rd I 186 (32 * (z35 + r) + (z45 + c)).toNat := by rw [e84, hI 186 _, if_neg (by omega)]
            refine w_iconst (v := iI (-1)) dX12_lays_85 rfl ?_
            refine v_icmp_eq 91 dX12_lays_86 (by decide) (by omega) (by omega) (fun c86 => ?_) (fun c86 => ?_)
            · refine w_aload_n dX12_lays_91 rfl ?_
              refine v_getR (j := 186) dX12_lays_92 fX12_53 ⟨by decide, rfl⟩ rfl rfl ?_
              refine w_bipush (v := iI 32) dX12_lays_95 (by decide) ?_
              refine w_iload dX12_lays_97 rfl ?_
              refine v_imul dX12_lays_99 ?_
              refine w_iload dX12_lays_100 rfl ?_
              refine v_iadd dX12_lays_102 ?_
              refine w_iload_n dX12_lays_103 rfl ?_
              refine v_iast dX12_lays_104 ⟨by decide, rfl⟩ (by omega) (by omega) (by decide) ?_
              refine w_aload_n dX12_lays_105 rfl ?_
              refine v_getR (j := 185) dX12_lays_106 fX12_50 ⟨by decide, rfl⟩ rfl rfl ?_
              refine w_bipush (v := iI 32) dX12_lays_109 (by decide) ?_
              refine w_iload dX12_lays_111 rfl ?_
              refine v_imul dX12_lays_113 ?_
              refine w_iload dX12_lays_114 rfl ?_
              refine v_iadd dX12_lays_116 ?_
              refine w_aload_n dX12_lays_117 rfl ?_
              refine w_iload_n dX12_lays_118 rfl ?_
              refine w_iload_n dX12_lays_119 rfl ?_
              refine w_iload_n dX12_lays_120 rfl ?_
              refine v_callV3 dX12_lays_121 lX12_86 vX12_at (by decide) rfl rfl ⟨by decide, rfl⟩ (by decide) rfl (Nat.le_of_ble_eq_true rfl) ?_
              refine x12_at hb (by omega) (by omega) (fun z121 e121 b121 => ?_)
              have f121 : z121 = rce I b (10 * r + c) := by
                rw [e121, rd_wr_row (by decide), hI 174 _, if_neg (by omega)]; unfold rce; congr 1; omega
              refine v_iast dX12_lays_124 ⟨by decide, rfl⟩ (by omega) (by omega) (by decide) ?_
              refine v_iinc dX12_lays_125 rfl rfl rfl ?_
              refine w_goto 9 dX12_lays_128 (by decide) ?_
              first
                | (fail_if_success (have := c12)
                   rw [show (r : Int) + 1 = ((r + 1 : Nat) : Int) by omega]
                   exact ih (r + 1) 0 I' (by omega) (by omega) (by omega) (fun y x g1 g2 => hc y x g1 (by omega)) (fun id k => by
                     rw [hI id k, show 10 * ((r + 1 : Nat) : Int) + ((0 : Nat) : Int) = 10 * (r : Int) + c by omega]))
                | (fail_if_success (have := c86)
                   fail_if_success (have : (10 : Int) ≤ c := c12)
                   refine w_keep 4 ?_
                   rw [show (c : Int) + 1 = ((c + 1 : Nat) : Int) by omega]
                   first
                     | (refine ih r (c + 1) I' (by omega) (by omega) (by omega) (fun y x g1 g2 => ?_) (fun id k => ?_)
                        · refine hc y x g1 ?_
                          have g3 := cA_ne g1
                          by_cases g4 : 10 * (y - rd I 178 b) + (x - rd I 179 b) = 10 * r + c
                          · exfalso
                            have g5 := g3.2.2.2.2
                            rw [show (10 * (y - rd I 178 b) + (x - rd I 179 b)).toNat = 10 * r + c by omega, ← f19] at g5
                            omega
                          · omega
                        · rw [hI id k]
                          by_cases g1 : (id = 185 ∨ id = 186) ∧ k < 512 ∧ rcA I b ((k / 32 : Nat) : Int) ((k % 32 : Nat) : Int) ≠ 95 ∧ 10 * (((k / 32 : Nat) : Int) - rd I 178 b) + (((k % 32 : Nat) : Int) - rd I 179 b) < 10 * r + c
                          · exact (if_pos g1).trans (if_pos ⟨g1.1, g1.2.1, g1.2.2.1, by omega⟩).symm
                          · rw [if_neg g1, if_neg]
                            rintro ⟨u1, u2, u3, u4⟩
                            have g3 := cA_ne u3
                            by_cases g4 : 10 * (((k / 32 : Nat) : Int) - rd I 178 b) + (((k % 32 : Nat) : Int) - rd I 179 b) = 10 * r + c
                            · have g5 := g3.2.2.2.2
                              rw [show (10 * (((k / 32 : Nat) : Int) - rd I 178 b) + (((k % 32 : Nat) : Int) - rd I 179 b)).toNat = 10 * r + c by omega, ← f19] at g5
                              omega
                            · exact g1 ⟨u1, u2, u3, by omega⟩))
                | (have := c86
                   refine w_keep 4 ?_
                   rw [show (c : Int) + 1 = ((c + 1 : Nat) : Int) by omega]
                   have cae : rcA I b (z35 + r) (z45 + c) = z19 := by
                     rw [f35, f45, f19]; unfold rcA
                     have := cA_at (ce := rce I b) (R := rd I 178 b) (C := rd I 179 b) (k := 10 * r + c) (by omega)
                     rw [show (10 * r + c) / 10 = r by omega, show (10 * r + c) % 10 = c by omega] at this
                     exact this
                   have bz := cae
                   refine ih r (c + 1) _ (by omega) (by omega) (by omega) (fun y x g1 g2 => ?_) (fun id k => ?_)
                   · have g3 := cA_ne g1
                     by_cases g4 : 10 * (y - rd I 178 b) + (x - rd I 179 b) = 10 * r + c
                     · have y1 : y = z35 + r := by omega
                       have x1 : x = z45 + c := by omega
                       refine ⟨by show 0 ≤ y ∧ y < 16 ∧ 0 ≤ x ∧ x < 32; omega, ?_⟩
                       (try dsimp only)
                       rw [y1, x1, ← f84]; omega
                     · exact hc y x g1 (by omega)
                   · rw [rd_wr (by omega) (by omega), rd_wr (by omega) (by omega), hI id k]
                     by_cases g0 : k = (32 * (z35 + r) + (z45 + c)).toNat
                     · have k1 : ((k / 32 : Nat) : Int) = z35 + r := by omega
                       have k2 : ((k % 32 : Nat) : Int) = z45 + c := by omega
                       rw [k1, k2, cae]
                       have k3 : k < 512 := by omega
                       have k4 : z19 ≠ 95 := by omega
                       have k5 : 10 * (z35 + r - rd I 178 b) + (z45 + c - rd I 179 b) < 10 * (r : Int) + ((c + 1 : Nat) : Int) := by omega
                       have k6 : z121 = z19 := by rw [f121, f19]
                       by_cases i1 : id = 185
                       · subst i1
                         exact (if_pos ⟨rfl, g0⟩).trans ((k6.trans (if_pos rfl).symm).trans (if_pos ⟨Or.inl rfl, k3, k4, k5⟩).symm)
                       · by_cases i2 : id = 186
                         · subst i2
                           exact (if_neg (fun g => absurd g.1 (by decide))).trans ((if_pos ⟨rfl, g0⟩).trans ((if_neg (by decide)).symm.trans (if_pos ⟨Or.inr rfl, k3, k4, k5⟩).symm))
                         · rw [if_neg (fun g => i1 g.1), if_neg (fun g => i2 g.1), if_neg (fun g => g.1.elim i1 i2), if_neg (fun g => g.1.elim i1 i2)]
                     · have i1 : ¬ (id = 185 ∧ k = (32 * (z35 + r) + (z45 + c)).toNat) := fun g => g0 g.2
                       have i2 : ¬ (id = 186 ∧ k = (32 * (z35 + r) + (z45 + c)).toNat) := fun g => g0 g.2
                       rw [if_neg i1, if_neg i2]
                       by_cases g1 : (id = 185 ∨ id = 186) ∧ k < 512 ∧ rcA I b ((k / 32 : Nat) : Int) ((k % 32 : Nat) : Int) ≠ 95 ∧ 10 * (((k / 32 : Nat) : Int) - rd I 178 b) + (((k % 32 : Nat) : Int) - rd I 179 b) < 10 * r + c
                       · exact (if_pos g1).trans (if_pos ⟨g1.1, g1.2.1, g1.2.2.1, by omega⟩).symm
                       · rw [if_neg g1, if_neg]
                         rintro ⟨u1, u2, u3, u4⟩
                         have g3 := cA_ne u3
                         refine g1 ⟨u1, u2, u3, ?_⟩
                         omega)
                | (rw [show (r : Int) + 1 = ((r + 1 : Nat) : Int) by omega]
                   exact ih (r + 1) 0 I' (by omega) (by omega) (by omega) (fun y x g1 g2 => hc y x g1 (by omega)) (fun id k => by
                     rw [hI id k, show 10 * ((r + 1 : Nat) : Int) + ((0 : Nat) : Int) = 10 * (r : Int) + c by omega]))
              
            · refine w_iconst (v := iI 0) dX12_lays_89 rfl ?_
              refine v_zret dX12_lays_90 rfl ⟨rfl, rfl⟩ (by decide) ?_
              have cae : rcA I b (z35 + r) (z45 + c) = z19 := by
                rw [f35, f45, f19]; unfold rcA
                have := cA_at (ce := rce I b) (R := rd I 178 b) (C := rd I 179 b) (k := 10 * r + c) (by omega)
                rw [show (10 * r + c) / 10 = r by omega, show (10 * r + c) % 10 = c by omega] at this
                exact this
              refine hf (fun g => ?_) I' fq0
              have g1 := g (z35 + r) (z45 + c) (by show rcA I b _ _ ≠ 95; rw [cae]; omega)
              have g2 : 0 ≤ z35 + r ∧ z35 + r < 16 ∧ 0 ≤ z45 + c ∧ z45 + c < 32 := g1.1
              first
                | omega
                | (have g3 := g1.2
                   (try dsimp only at g3)
                   rw [← f84] at g3
                   omega)
          · refine v_if_eq 89 dX12_lays_69 (by decide) (by decide) (fun _ => ?_) (fun q => absurd q (by decide))
            refine w_iconst (v := iI 0) dX12_lays_89 rfl ?_
            refine v_zret dX12_lays_90 rfl ⟨rfl, rfl⟩ (by decide) ?_
            have cae : rcA I b (z35 + r) (z45 + c) = z19 := by
              rw [f35, f45, f19]; unfold rcA
              have := cA_at (ce := rce I b) (R := rd I 178 b) (C := rd I 179 b) (k := 10 * r + c) (by omega)
              rw [show (10 * r + c) / 10 = r by omega, show (10 * r + c) % 10 = c by omega] at this
              exact this
            refine hf (fun g => ?_) I' fq0
            have g1 := g (z35 + r) (z45 + c) (by show rcA I b _ _ ≠ 95; rw [cae]; omega)
            have g2 : 0 ≤ z35 + r ∧ z35 + r < 16 ∧ 0 ≤ z45 + c ∧ z45 + c < 32 := g1.1
            first
              | omega
              | (have g3 := g1.2
                 (try dsimp only at g3)
                 rw [← f84] at g3
                 omega)
        · refine v_if_eq 89 dX12_lays_58 (by decide) (by decide) (fun _ => ?_) (fun q => absurd q (by decide))
          refine w_iconst (v := iI 0) dX12_lays_89 rfl ?_
          refine v_zret dX12_lays_90 rfl ⟨rfl, rfl⟩ (by decide) ?_
          have cae : rcA I b (z35 + r) (z45 + c) = z19 := by
            rw [f35, f45, f19]; unfold rcA
            have := cA_at (ce := rce I b) (R := rd I 178 b) (C := rd I 179 b) (k := 10 * r + c) (by omega)
            rw [show (10 * r + c) / 10 = r by omega, show (10 * r + c) % 10 = c by omega] at this
            exact this
          refine hf (fun g => ?_) I' fq0
          have g1 := g (z35 + r) (z45 + c) (by show rcA I b _ _ ≠ 95; rw [cae]; omega)
          have g2 : 0 ≤ z35 + r ∧ z35 + r < 16 ∧ 0 ≤ z45 + c ∧ z45 + c < 32 := g1.1
          first
            | omega
            | (have g3 := g1.2
               (try dsimp only at g3)
               rw [← f84] at g3
               omega)
      · refine w_goto 125 dX12_lays_27 (by decide) ?_
        refine v_iinc dX12_lays_125 rfl rfl rfl ?_
        refine w_goto 9 dX12_lays_128 (by decide) ?_
        first
          | (fail_if_success (have := c12)
             rw [show (r : Int) + 1 = ((r + 1 : Nat) : Int) by omega]
             exact ih (r + 1) 0 I' (by omega) (by omega) (by omega) (fun y x g1 g2 => hc y x g1 (by omega)) (fun id k => by
               rw [hI id k, show 10 * ((r + 1 : Nat) : Int) + ((0 : Nat) : Int) = 10 * (r : Int) + c by omega]))
          | (fail_if_success (have := c86)
             fail_if_success (have : (10 : Int) ≤ c := c12)
             refine w_keep 4 ?_
             rw [show (c : Int) + 1 = ((c + 1 : Nat) : Int) by omega]
             first
               | (refine ih r (c + 1) I' (by omega) (by omega) (by omega) (fun y x g1 g2 => ?_) (fun id k => ?_)
                  · refine hc y x g1 ?_
                    have g3 := cA_ne g1
                    by_cases g4 : 10 * (y - rd I 178 b) + (x - rd I 179 b) = 10 * r + c
                    · exfalso
                      have g5 := g3.2.2.2.2
                      rw [show (10 * (y - rd I 178 b) + (x - rd I 179 b)).toNat = 10 * r + c by omega, ← f19] at g5
                      omega
                    · omega
                  · rw [hI id k]
                    by_cases g1 : (id = 185 ∨ id = 186) ∧ k < 512 ∧ rcA I b ((k / 32 : Nat) : Int) ((k % 32 : Nat) : Int) ≠ 95 ∧ 10 * (((k / 32 : Nat) : Int) - rd I 178 b) + (((k % 32 : Nat) : Int) - rd I 179 b) < 10 * r + c
                    · exact (if_pos g1).trans (if_pos ⟨g1.1, g1.2.1, g1.2.2.1, by omega⟩).symm
                    · rw [if_neg g1, if_neg]
                      rintro ⟨u1, u2, u3, u4⟩
                      have g3 := cA_ne u3
                      by_cases g4 : 10 * (((k / 32 : Nat) : Int) - rd I 178 b) + (((k % 32 : Nat) : Int) - rd I 179 b) = 10 * r + c
                      · have g5 := g3.2.2.2.2
                        rw [show (10 * (((k / 32 : Nat) : Int) - rd I 178 b) + (((k % 32 : Nat) : Int) - rd I 179 b)).toNat = 10 * r + c by omega, ← f19] at g5
                        omega
                      · exact g1 ⟨u1, u2, u3, by omega⟩))
          | (have := c86
             refine w_keep 4 ?_
             rw [show (c : Int) + 1 = ((c + 1 : Nat) : Int) by omega]
             have cae : rcA I b (z35 + r) (z45 + c) = z19 := by
               rw [f35, f45, f19]; unfold rcA
               have := cA_at (ce := rce I b) (R := rd I 178 b) (C := rd I 179 b) (k := 10 * r + c) (by omega)
               rw [show (10 * r + c) / 10 = r by omega, show (10 * r + c) % 10 = c by omega] at this
               exact this
             have bz := cae
             refine ih r (c + 1) _ (by omega) (by omega) (by omega) (fun y x g1 g2 => ?_) (fun id k => ?_)
             · have g3 := cA_ne g1
               by_cases g4 : 10 * (y - rd I 178 b) + (x - rd I 179 b) = 10 * r + c
               · have y1 : y = z35 + r := by omega
                 have x1 : x = z45 + c := by omega
                 refine ⟨by show 0 ≤ y ∧ y < 16 ∧ 0 ≤ x ∧ x < 32; omega, ?_⟩
                 (try dsimp only)
                 rw [y1, x1, ← f84]; omega
               · exact hc y x g1 (by omega)
             · rw [rd_wr (by omega) (by omega), rd_wr (by omega) (by omega), hI id k]
               by_cases g0 : k = (32 * (z35 + r) + (z45 + c)).toNat
               · have k1 : ((k / 32 : Nat) : Int) = z35 + r := by omega
                 have k2 : ((k % 32 : Nat) : Int) = z45 + c := by omega
                 rw [k1, k2, cae]
                 have k3 : k < 512 := by omega
                 have k4 : z19 ≠ 95 := by omega
                 have k5 : 10 * (z35 + r - rd I 178 b) + (z45 + c - rd I 179 b) < 10 * (r : Int) + ((c + 1 : Nat) : Int) := by omega
                 have k6 : z121 = z19 := by rw [f121, f19]
                 by_cases i1 : id = 185
                 · subst i1
                   exact (if_pos ⟨rfl, g0⟩).trans ((k6.trans (if_pos rfl).symm).trans (if_pos ⟨Or.inl rfl, k3, k4, k5⟩).symm)
                 · by_cases i2 : id = 186
                   · subst i2
                     exact (if_neg (fun g => absurd g.1 (by decide))).trans ((if_pos ⟨rfl, g0⟩).trans ((if_neg (by decide)).symm.trans (if_pos ⟨Or.inr rfl, k3, k4, k5⟩).symm))
                   · rw [if_neg (fun g => i1 g.1), if_neg (fun g => i2 g.1), if_neg (fun g => g.1.elim i1 i2), if_neg (fun g => g.1.elim i1 i2)]
               · have i1 : ¬ (id = 185 ∧ k = (32 * (z35 + r) + (z45 + c)).toNat) := fun g => g0 g.2
                 have i2 : ¬ (id = 186 ∧ k = (32 * (z35 + r) + (z45 + c)).toNat) := fun g => g0 g.2
                 rw [if_neg i1, if_neg i2]
                 by_cases g1 : (id = 185 ∨ id = 186) ∧ k < 512 ∧ rcA I b ((k / 32 : Nat) : Int) ((k % 32 : Nat) : Int) ≠ 95 ∧ 10 * (((k / 32 : Nat) : Int) - rd I 178 b) + (((k % 32 : Nat) : Int) - rd I 179 b) < 10 * r + c
                 · exact (if_pos g1).trans (if_pos ⟨g1.1, g1.2.1, g1.2.2.1, by omega⟩).symm
                 · rw [if_neg g1, if_neg]
                   rintro ⟨u1, u2, u3, u4⟩
                   have g3 := cA_ne u3
                   refine g1 ⟨u1, u2, u3, ?_⟩
                   omega)
          | (rw [show (r : Int) + 1 = ((r + 1 : Nat) : Int) by omega]
             exact ih (r + 1) 0 I' (by omega) (by omega) (by omega) (fun y x g1 g2 => hc y x g1 (by omega)) (fun id k => by
               rw [hI id k, show 10 * ((r + 1 : Nat) : Int) + ((0 : Nat) : Int) = 10 * (r : Int) + c by omega]))
        
theorem x12_lays {I : Nat → Nat → Int32} {J : Nat → Nat → Int64} {F : Option Value → zM → Prop} {b : Nat} (hb : b < 10) (hR : -1000 ≤ rd I 178 b ∧ rd I 178 b ≤ 1000) (hC : -1000 ≤ rd I 179 b ∧ rd I 179 b ≤ 1000) (ht : (rmO (fun k => rd I 186 k) (rce I b) (rd I 178 b) (rd I 179 b)) → ∀ I', lyM I I' b 50 → F (some (.int (iI 1))) (gM I' J)) (hf : ¬ (rmO (fun k => rd I 186 k) (rce I b) (rd I 178 b) (rd I 179 b)) → ∀ I', fq (fun id _ => id = 185 ∨ id = 186) I I' → F (some (.int (iI 0))) (gM I' J)) : Cl yX12_lays kX12_lays [.ref 171, .int (iI (b : Int))] (gM I J) F := by
  refine cl_s (by decide) (by decide) (Nat.le_of_ble_eq_true rfl) rt_z ?_
  show Wp _ F 0 [(0, .ref 171), (1, .int (iI (b : Int)))] [] _
  refine w_iconst (v := iI 0) dX12_lays_0 rfl ?_
  refine w_istore_n dX12_lays_1 rfl rfl ?_
  refine w_iload_n dX12_lays_2 rfl ?_
  refine w_iconst (v := iI 5) dX12_lays_3 rfl ?_
  refine v_icmp_ge 137 dX12_lays_4 (by decide) (by decide) (by decide) (fun q => absurd q (by decide)) (fun _ => ?_)
  refine w_iconst (v := iI 0) dX12_lays_7 rfl ?_
  refine w_istore_n dX12_lays_8 rfl rfl ?_
  exact x12_lays_l hb hR hC ht hf 100 0 0 I (by omega) (by omega) (by omega) (fun y x g1 g2 => by have := cA_ne g1; omega) (fun id k => by
    rw [if_neg]
    rintro ⟨_, _, u3, u4⟩
    have := cA_ne u3
    omega)
