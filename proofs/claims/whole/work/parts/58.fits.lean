/-! fits: the reference -/
def tcE (o : Nat → Int) (y x : Int) : Prop := (0 < x ∧ o (32 * y + x - 1).toNat ≠ -1) ∨ (x < 31 ∧ o (32 * y + x + 1).toNat ≠ -1) ∨ (0 < y ∧ o (32 * y + x - 32).toNat ≠ -1) ∨ (y < 15 ∧ o (32 * y + x + 32).toNat ≠ -1)
def tcB (o : Nat → Int) (ce : Nat → Int) (R C : Int) : Prop := ∃ y x : Int, cA ce R C y x ≠ 95 ∧ tcE o y x
set_option maxHeartbeats 8000000 in
theorem x12_fits_l {I : Nat → Nat → Int32} {J : Nat → Nat → Int64} {F : Option Value → zM → Prop} {b : Nat} (hb : b < 10) (hR : -1000 ≤ rd I 178 b ∧ rd I 178 b ≤ 1000) (hC : -1000 ≤ rd I 179 b ∧ rd I 179 b ≤ 1000) (h0 : ¬ (rmO (fun k => rd I 187 k) (rce I b) (rd I 178 b) (rd I 179 b)) → F (some (.int (iI 0))) (gM I J)) (h1 : (rmO (fun k => rd I 187 k) (rce I b) (rd I 178 b) (rd I 179 b)) → ¬ (tcB (fun k => rd I 187 k) (rce I b) (rd I 178 b) (rd I 179 b)) → F (some (.int (iI 1))) (gM I J)) (h2 : (rmO (fun k => rd I 187 k) (rce I b) (rd I 178 b) (rd I 179 b)) → (tcB (fun k => rd I 187 k) (rce I b) (rd I 178 b) (rd I 179 b)) → F (some (.int (iI 2))) (gM I J)) : ∀ (nz : Nat) (r : Nat) (c : Nat) (u : Int), (5 - r) * 11 + (10 - c) < nz → r < 5 → c ≤ 10 → (∀ y x : Int, cA (rce I b) (rd I 178 b) (rd I 179 b) y x ≠ 95 → 10 * (y - rd I 178 b) + (x - rd I 179 b) < 10 * (r : Int) + c → inS y x ∧ (fun k => rd I 187 k) (32 * y + x).toNat = -1) → (u = 1 ∨ u = 2) → (u = 1 → ∀ y x : Int, cA (rce I b) (rd I 178 b) (rd I 179 b) y x ≠ 95 → 10 * (y - rd I 178 b) + (x - rd I 179 b) < 10 * (r : Int) + c → ¬ tcE (fun k => rd I 187 k) y x) → (u = 2 → (tcB (fun k => rd I 187 k) (rce I b) (rd I 178 b) (rd I 179 b))) → Wp (sE kX12_fits RX12) F 12 [(0, .ref 171), (1, .int (iI (b : Int))), (2, .int (iI u)), (3, .int (iI (r : Int))), (4, .int (iI (c : Int)))] [] (gM I J) := by
  intro nz
  induction nz with
  | zero =>
    intro r c u hmz hr hcc hc hu1 hu2 hu3
    exact absurd hmz (Nat.not_lt_zero _)
  | succ nz ih =>
    intro r c u hmz hr hcc hc hu1 hu2 hu3
    refine w_iload dX12_fits_12 rfl ?_
    refine w_bipush (v := iI 10) dX12_fits_14 (by decide) ?_
    refine v_icmp_ge 181 dX12_fits_16 (by decide) (by omega) (by omega) (fun c16 => ?_) (fun c16 => ?_)
    · refine v_iinc dX12_fits_181 rfl rfl rfl ?_
      refine w_goto 4 dX12_fits_184 (by decide) ?_
      refine w_iload_n dX12_fits_4 rfl ?_
      refine w_iconst (v := iI 5) dX12_fits_5 rfl ?_
      refine v_icmp_ge 187 dX12_fits_6 (by decide) (by omega) (by omega) (fun c6 => ?_) (fun c6 => ?_)
      · refine w_iload_n dX12_fits_187 rfl ?_
        refine v_iret dX12_fits_188 rfl ⟨rfl, rfl⟩ ?_
        have hrm : rmO (fun k => rd I 187 k) (rce I b) (rd I 178 b) (rd I 179 b) := fun y x g1 => hc y x g1 (by have := cA_ne g1; omega)
        rcases hu1 with g | g
        · rw [g]
          exact h1 hrm (fun ⟨y, x, g1, g2⟩ => hu2 g y x g1 (by have := cA_ne g1; omega) g2)
        · rw [g]
          exact h2 hrm (hu3 g)
      · refine w_iconst (v := iI 0) dX12_fits_9 rfl ?_
        refine w_istore dX12_fits_10 rfl rfl ?_
        first
          | (fail_if_success (have := e24)
             rw [show (r : Int) + 1 = ((r + 1 : Nat) : Int) by omega]
             exact ih (r + 1) 0 u (by omega) (by omega) (by omega) (fun y x g1 g2 => hc y x g1 (by omega)) hu1 (fun gu y x g1 g2 => hu2 gu y x g1 (by omega)) hu3)
          | (fail_if_success (have := e40)
             have := e24
             refine w_keep 5 ?_
             rw [show (c : Int) + 1 = ((c + 1 : Nat) : Int) by omega]
             have sk : ∀ y x : Int, cA (rce I b) (rd I 178 b) (rd I 179 b) y x ≠ 95 → 10 * (y - rd I 178 b) + (x - rd I 179 b) < 10 * (r : Int) + ((c + 1 : Nat) : Int) → 10 * (y - rd I 178 b) + (x - rd I 179 b) < 10 * (r : Int) + c := fun y x g1 g2 => by
               have g3 := cA_ne g1
               by_cases g4 : 10 * (y - rd I 178 b) + (x - rd I 179 b) = 10 * r + c
               · exfalso
                 have g5 := g3.2.2.2.2
                 rw [show (10 * (y - rd I 178 b) + (x - rd I 179 b)).toNat = 10 * r + c by omega, ← f24] at g5
                 omega
               · omega
             exact ih r (c + 1) u (by omega) (by omega) (by omega) (fun y x g1 g2 => hc y x g1 (sk y x g1 g2)) hu1 (fun gu y x g1 g2 => hu2 gu y x g1 (sk y x g1 g2)) hu3)
          | (have i2 : 0 ≤ z40 + r ∧ z40 + r < 16 ∧ 0 ≤ z50 + c ∧ z50 + c < 32 := q60
             refine w_keep 5 ?_
             rw [show (c : Int) + 1 = ((c + 1 : Nat) : Int) by omega]
             refine ih r (c + 1) 2 (by omega) (by omega) (by omega) ?_ (by omega) (fun g => by omega) (fun _ => ⟨z40 + r, z50 + c, by rw [cae]; omega, ?_⟩)
             · intro y x g1 g2
               have g3 := cA_ne g1
               by_cases g4 : 10 * (y - rd I 178 b) + (x - rd I 179 b) = 10 * r + c
               · have y1 : y = z40 + r := by omega
                 have x1 : x = z50 + c := by omega
                 refine ⟨by show 0 ≤ y ∧ y < 16 ∧ 0 ≤ x ∧ x < 32; omega, ?_⟩
                 (try dsimp only)
                 rw [y1, x1, ← e78]; omega
               · exact hc y x g1 (by omega)
             · first
                 | exact Or.inr (Or.inr (Or.inr ⟨by omega, (by show rd I 187 _ ≠ -1; rw [← e168]; omega)⟩))
                 | exact Or.inr (Or.inr (Or.inl ⟨by omega, (by show rd I 187 _ ≠ -1; rw [← e147]; omega)⟩))
                 | exact Or.inr (Or.inl ⟨by omega, (by show rd I 187 _ ≠ -1; rw [← e128]; omega)⟩)
                 | exact Or.inl ⟨by omega, (by show rd I 187 _ ≠ -1; rw [← e108]; omega)⟩)
          | (have i2 : 0 ≤ z40 + r ∧ z40 + r < 16 ∧ 0 ≤ z50 + c ∧ z50 + c < 32 := q60
             refine w_keep 5 ?_
             rw [show (c : Int) + 1 = ((c + 1 : Nat) : Int) by omega]
             refine ih r (c + 1) u (by omega) (by omega) (by omega) ?_ hu1 (fun gu y x g1 g2 => ?_) hu3
             · intro y x g1 g2
               have g3 := cA_ne g1
               by_cases g4 : 10 * (y - rd I 178 b) + (x - rd I 179 b) = 10 * r + c
               · have y1 : y = z40 + r := by omega
                 have x1 : x = z50 + c := by omega
                 refine ⟨by show 0 ≤ y ∧ y < 16 ∧ 0 ≤ x ∧ x < 32; omega, ?_⟩
                 (try dsimp only)
                 rw [y1, x1, ← e78]; omega
               · exact hc y x g1 (by omega)
             · have g3 := cA_ne g1
               by_cases g4 : 10 * (y - rd I 178 b) + (x - rd I 179 b) = 10 * r + c
               · have y1 : y = z40 + r := by omega
                 have x1 : x = z50 + c := by omega
                 rw [y1, x1]
                 rintro (⟨v1, v2⟩ | ⟨v1, v2⟩ | ⟨v1, v2⟩ | ⟨v1, v2⟩)
                 · first | omega | (have v3 : rd I 187 _ ≠ -1 := v2; rw [← e108] at v3; omega)
                 · first | omega | (have v3 : rd I 187 _ ≠ -1 := v2; rw [← e128] at v3; omega)
                 · first | omega | (have v3 : rd I 187 _ ≠ -1 := v2; rw [← e147] at v3; omega)
                 · first | omega | (have v3 : rd I 187 _ ≠ -1 := v2; rw [← e168] at v3; omega)
               · exact hu2 gu y x g1 (by omega))
    · refine w_aload_n dX12_fits_19 rfl ?_
      refine w_iload_n dX12_fits_20 rfl ?_
      refine w_iload_n dX12_fits_21 rfl ?_
      refine w_iload dX12_fits_22 rfl ?_
      refine v_callV3 dX12_fits_24 lX12_86 vX12_at (by decide) rfl rfl ⟨by decide, rfl⟩ (by decide) rfl (Nat.le_of_ble_eq_true rfl) ?_
      refine x12_at hb (by omega) (by omega) (fun z24 e24 b24 => ?_)
      have f24 : z24 = rce I b (10 * r + c) := by
        rw [e24]; unfold rce; congr 1; omega
      refine w_bipush (v := iI 95) dX12_fits_27 (by decide) ?_
      refine v_icmp_ne 35 dX12_fits_29 (by decide) (by omega) (by omega) (fun c29 => ?_) (fun c29 => ?_)
      · refine w_aload_n dX12_fits_35 rfl ?_
        refine v_getR (j := 178) dX12_fits_36 fX12_29 ⟨by decide, rfl⟩ rfl rfl ?_
        refine w_iload_n dX12_fits_39 rfl ?_
        refine v_iald dX12_fits_40 ⟨by decide, rfl⟩ (by omega) (by omega) (by decide) (fun z40 e40 b40 => ?_)
        have f40 : z40 = rd I 178 b := by rw [e40]; rfl
        refine w_iload_n dX12_fits_41 rfl ?_
        refine v_iadd dX12_fits_42 ?_
        refine w_istore dX12_fits_43 rfl rfl ?_
        refine w_aload_n dX12_fits_45 rfl ?_
        refine v_getR (j := 179) dX12_fits_46 fX12_32 ⟨by decide, rfl⟩ rfl rfl ?_
        refine w_iload_n dX12_fits_49 rfl ?_
        refine v_iald dX12_fits_50 ⟨by decide, rfl⟩ (by omega) (by omega) (by decide) (fun z50 e50 b50 => ?_)
        have f50 : z50 = rd I 179 b := by rw [e50]; rfl
        have cae : cA (rce I b) (rd I 178 b) (rd I 179 b) (z40 + r) (z50 + c) = z24 := by
          rw [f40, f50, f24]
          have := cA_at (ce := rce I b) (R := rd I 178 b) (C := rd I 179 b) (k := 10 * r + c) (by omega)
          rw [show (10 * r + c) / 10 = r by omega, show (10 * r + c) % 10 = c by omega] at this
          exact this
        refine w_iload dX12_fits_51 rfl ?_
        refine v_iadd dX12_fits_53 ?_
        refine w_istore dX12_fits_54 rfl rfl ?_
        refine w_iload dX12_fits_56 rfl ?_
        refine w_iload dX12_fits_58 rfl ?_
        refine v_callS2 dX12_fits_60 lX12_152 vX12_isPlace (by decide) rfl rfl (Nat.le_of_ble_eq_true rfl) ?_
        refine x12_isPlace (by omega) (by omega) (fun q60 => ?_) (fun q60 => ?_)
        · refine v_if_eq 83 dX12_fits_63 (by decide) (by decide) (fun q => absurd q (by decide)) (fun _ => ?_)
          refine w_aload_n dX12_fits_66 rfl ?_
          refine v_getR (j := 187) dX12_fits_67 fX12_56 ⟨by decide, rfl⟩ rfl rfl ?_
          refine w_bipush (v := iI 32) dX12_fits_70 (by decide) ?_
          refine w_iload dX12_fits_72 rfl ?_
          refine v_imul dX12_fits_74 ?_
          refine w_iload dX12_fits_75 rfl ?_
          refine v_iadd dX12_fits_77 ?_
          refine v_iald dX12_fits_78 ⟨by decide, rfl⟩ (by have i2 : 0 ≤ z40 + r ∧ z40 + r < 16 ∧ 0 ≤ z50 + c ∧ z50 + c < 32 := q60; omega) (by have i2 : 0 ≤ z40 + r ∧ z40 + r < 16 ∧ 0 ≤ z50 + c ∧ z50 + c < 32 := q60; omega) (by decide) (fun z78 e78 b78 => ?_)
          refine w_iconst (v := iI (-1)) dX12_fits_79 rfl ?_
          refine v_icmp_eq 85 dX12_fits_80 (by decide) (by omega) (by omega) (fun c80 => ?_) (fun c80 => ?_)
          · refine w_bipush (v := iI 32) dX12_fits_85 (by decide) ?_
            refine w_iload dX12_fits_87 rfl ?_
            refine v_imul dX12_fits_89 ?_
            refine w_iload dX12_fits_90 rfl ?_
            refine v_iadd dX12_fits_92 ?_
            refine w_istore dX12_fits_93 rfl rfl ?_
            refine w_iload dX12_fits_95 rfl ?_
            refine v_if_le 113 dX12_fits_97 (by decide) (by omega) (fun c97 => ?_) (fun c97 => ?_)
            · refine w_iload dX12_fits_113 rfl ?_
              refine w_bipush (v := iI 31) dX12_fits_115 (by decide) ?_
              refine v_icmp_ge 133 dX12_fits_117 (by decide) (by omega) (by omega) (fun c117 => ?_) (fun c117 => ?_)
              · refine w_iload dX12_fits_133 rfl ?_
                refine v_if_le 152 dX12_fits_135 (by decide) (by omega) (fun c135 => ?_) (fun c135 => ?_)
                · refine w_iload dX12_fits_152 rfl ?_
                  refine w_bipush (v := iI 15) dX12_fits_154 (by decide) ?_
                  refine v_icmp_ge 175 dX12_fits_156 (by decide) (by omega) (by omega) (fun c156 => ?_) (fun c156 => ?_)
                  · refine v_iinc dX12_fits_175 rfl rfl rfl ?_
                    refine w_goto 12 dX12_fits_178 (by decide) ?_
                    first
                      | (fail_if_success (have := e24)
                         rw [show (r : Int) + 1 = ((r + 1 : Nat) : Int) by omega]
                         exact ih (r + 1) 0 u (by omega) (by omega) (by omega) (fun y x g1 g2 => hc y x g1 (by omega)) hu1 (fun gu y x g1 g2 => hu2 gu y x g1 (by omega)) hu3)
                      | (fail_if_success (have := e40)
                         have := e24
                         refine w_keep 5 ?_
                         rw [show (c : Int) + 1 = ((c + 1 : Nat) : Int) by omega]
                         have sk : ∀ y x : Int, cA (rce I b) (rd I 178 b) (rd I 179 b) y x ≠ 95 → 10 * (y - rd I 178 b) + (x - rd I 179 b) < 10 * (r : Int) + ((c + 1 : Nat) : Int) → 10 * (y - rd I 178 b) + (x - rd I 179 b) < 10 * (r : Int) + c := fun y x g1 g2 => by
                           have g3 := cA_ne g1
                           by_cases g4 : 10 * (y - rd I 178 b) + (x - rd I 179 b) = 10 * r + c
                           · exfalso
                             have g5 := g3.2.2.2.2
                             rw [show (10 * (y - rd I 178 b) + (x - rd I 179 b)).toNat = 10 * r + c by omega, ← f24] at g5
                             omega
                           · omega
                         exact ih r (c + 1) u (by omega) (by omega) (by omega) (fun y x g1 g2 => hc y x g1 (sk y x g1 g2)) hu1 (fun gu y x g1 g2 => hu2 gu y x g1 (sk y x g1 g2)) hu3)
                      | (have i2 : 0 ≤ z40 + r ∧ z40 + r < 16 ∧ 0 ≤ z50 + c ∧ z50 + c < 32 := q60
                         refine w_keep 5 ?_
                         rw [show (c : Int) + 1 = ((c + 1 : Nat) : Int) by omega]
                         refine ih r (c + 1) 2 (by omega) (by omega) (by omega) ?_ (by omega) (fun g => by omega) (fun _ => ⟨z40 + r, z50 + c, by rw [cae]; omega, ?_⟩)
                         · intro y x g1 g2
                           have g3 := cA_ne g1
                           by_cases g4 : 10 * (y - rd I 178 b) + (x - rd I 179 b) = 10 * r + c
                           · have y1 : y = z40 + r := by omega
                             have x1 : x = z50 + c := by omega
                             refine ⟨by show 0 ≤ y ∧ y < 16 ∧ 0 ≤ x ∧ x < 32; omega, ?_⟩
                             (try dsimp only)
                             rw [y1, x1, ← e78]; omega
                           · exact hc y x g1 (by omega)
                         · first
                             | exact Or.inr (Or.inr (Or.inr ⟨by omega, (by show rd I 187 _ ≠ -1; rw [← e168]; omega)⟩))
                             | exact Or.inr (Or.inr (Or.inl ⟨by omega, (by show rd I 187 _ ≠ -1; rw [← e147]; omega)⟩))
                             | exact Or.inr (Or.inl ⟨by omega, (by show rd I 187 _ ≠ -1; rw [← e128]; omega)⟩)
                             | exact Or.inl ⟨by omega, (by show rd I 187 _ ≠ -1; rw [← e108]; omega)⟩)
                      | (have i2 : 0 ≤ z40 + r ∧ z40 + r < 16 ∧ 0 ≤ z50 + c ∧ z50 + c < 32 := q60
                         refine w_keep 5 ?_
                         rw [show (c : Int) + 1 = ((c + 1 : Nat) : Int) by omega]
                         refine ih r (c + 1) u (by omega) (by omega) (by omega) ?_ hu1 (fun gu y x g1 g2 => ?_) hu3
                         · intro y x g1 g2
                           have g3 := cA_ne g1
                           by_cases g4 : 10 * (y - rd I 178 b) + (x - rd I 179 b) = 10 * r + c
                           · have y1 : y = z40 + r := by omega
                             have x1 : x = z50 + c := by omega
                             refine ⟨by show 0 ≤ y ∧ y < 16 ∧ 0 ≤ x ∧ x < 32; omega, ?_⟩
                             (try dsimp only)
                             rw [y1, x1, ← e78]; omega
                           · exact hc y x g1 (by omega)
                         · have g3 := cA_ne g1
                           by_cases g4 : 10 * (y - rd I 178 b) + (x - rd I 179 b) = 10 * r + c
                           · have y1 : y = z40 + r := by omega
                             have x1 : x = z50 + c := by omega
                             rw [y1, x1]
                             rintro (⟨v1, v2⟩ | ⟨v1, v2⟩ | ⟨v1, v2⟩ | ⟨v1, v2⟩)
                             · first | omega | (have v3 : rd I 187 _ ≠ -1 := v2; rw [← e108] at v3; omega)
                             · first | omega | (have v3 : rd I 187 _ ≠ -1 := v2; rw [← e128] at v3; omega)
                             · first | omega | (have v3 : rd I 187 _ ≠ -1 := v2; rw [← e147] at v3; omega)
                             · first | omega | (have v3 : rd I 187 _ ≠ -1 := v2; rw [← e168] at v3; omega)
                           · exact hu2 gu y x g1 (by omega))
                  · refine w_aload_n dX12_fits_159 rfl ?_
                    refine v_getR (j := 187) dX12_fits_160 fX12_56 ⟨by decide, rfl⟩ rfl rfl ?_
                    refine w_iload dX12_fits_163 rfl ?_
                    refine w_bipush (v := iI 32) dX12_fits_165 (by decide) ?_
                    refine v_iadd dX12_fits_167 ?_
                    refine v_iald dX12_fits_168 ⟨by decide, rfl⟩ (by have i2 : 0 ≤ z40 + r ∧ z40 + r < 16 ∧ 0 ≤ z50 + c ∧ z50 + c < 32 := q60; omega) (by have i2 : 0 ≤ z40 + r ∧ z40 + r < 16 ∧ 0 ≤ z50 + c ∧ z50 + c < 32 := q60; omega) (by decide) (fun z168 e168 b168 => ?_)
                    refine w_iconst (v := iI (-1)) dX12_fits_169 rfl ?_
                    refine v_icmp_eq 175 dX12_fits_170 (by decide) (by omega) (by omega) (fun c170 => ?_) (fun c170 => ?_)
                    · refine v_iinc dX12_fits_175 rfl rfl rfl ?_
                      refine w_goto 12 dX12_fits_178 (by decide) ?_
                      first
                        | (fail_if_success (have := e24)
                           rw [show (r : Int) + 1 = ((r + 1 : Nat) : Int) by omega]
                           exact ih (r + 1) 0 u (by omega) (by omega) (by omega) (fun y x g1 g2 => hc y x g1 (by omega)) hu1 (fun gu y x g1 g2 => hu2 gu y x g1 (by omega)) hu3)
                        | (fail_if_success (have := e40)
                           have := e24
                           refine w_keep 5 ?_
                           rw [show (c : Int) + 1 = ((c + 1 : Nat) : Int) by omega]
                           have sk : ∀ y x : Int, cA (rce I b) (rd I 178 b) (rd I 179 b) y x ≠ 95 → 10 * (y - rd I 178 b) + (x - rd I 179 b) < 10 * (r : Int) + ((c + 1 : Nat) : Int) → 10 * (y - rd I 178 b) + (x - rd I 179 b) < 10 * (r : Int) + c := fun y x g1 g2 => by
                             have g3 := cA_ne g1
                             by_cases g4 : 10 * (y - rd I 178 b) + (x - rd I 179 b) = 10 * r + c
                             · exfalso
                               have g5 := g3.2.2.2.2
                               rw [show (10 * (y - rd I 178 b) + (x - rd I 179 b)).toNat = 10 * r + c by omega, ← f24] at g5
                               omega
                             · omega
                           exact ih r (c + 1) u (by omega) (by omega) (by omega) (fun y x g1 g2 => hc y x g1 (sk y x g1 g2)) hu1 (fun gu y x g1 g2 => hu2 gu y x g1 (sk y x g1 g2)) hu3)
                        | (have i2 : 0 ≤ z40 + r ∧ z40 + r < 16 ∧ 0 ≤ z50 + c ∧ z50 + c < 32 := q60
                           refine w_keep 5 ?_
                           rw [show (c : Int) + 1 = ((c + 1 : Nat) : Int) by omega]
                           refine ih r (c + 1) 2 (by omega) (by omega) (by omega) ?_ (by omega) (fun g => by omega) (fun _ => ⟨z40 + r, z50 + c, by rw [cae]; omega, ?_⟩)
                           · intro y x g1 g2
                             have g3 := cA_ne g1
                             by_cases g4 : 10 * (y - rd I 178 b) + (x - rd I 179 b) = 10 * r + c
                             · have y1 : y = z40 + r := by omega
                               have x1 : x = z50 + c := by omega
                               refine ⟨by show 0 ≤ y ∧ y < 16 ∧ 0 ≤ x ∧ x < 32; omega, ?_⟩
                               (try dsimp only)
                               rw [y1, x1, ← e78]; omega
                             · exact hc y x g1 (by omega)
                           · first
                               | exact Or.inr (Or.inr (Or.inr ⟨by omega, (by show rd I 187 _ ≠ -1; rw [← e168]; omega)⟩))
                               | exact Or.inr (Or.inr (Or.inl ⟨by omega, (by show rd I 187 _ ≠ -1; rw [← e147]; omega)⟩))
                               | exact Or.inr (Or.inl ⟨by omega, (by show rd I 187 _ ≠ -1; rw [← e128]; omega)⟩)
                               | exact Or.inl ⟨by omega, (by show rd I 187 _ ≠ -1; rw [← e108]; omega)⟩)
                        | (have i2 : 0 ≤ z40 + r ∧ z40 + r < 16 ∧ 0 ≤ z50 + c ∧ z50 + c < 32 := q60
                           refine w_keep 5 ?_
                           rw [show (c : Int) + 1 = ((c + 1 : Nat) : Int) by omega]
                           refine ih r (c + 1) u (by omega) (by omega) (by omega) ?_ hu1 (fun gu y x g1 g2 => ?_) hu3
                           · intro y x g1 g2
                             have g3 := cA_ne g1
                             by_cases g4 : 10 * (y - rd I 178 b) + (x - rd I 179 b) = 10 * r + c
                             · have y1 : y = z40 + r := by omega
                               have x1 : x = z50 + c := by omega
                               refine ⟨by show 0 ≤ y ∧ y < 16 ∧ 0 ≤ x ∧ x < 32; omega, ?_⟩
                               (try dsimp only)
                               rw [y1, x1, ← e78]; omega
                             · exact hc y x g1 (by omega)
                           · have g3 := cA_ne g1
                             by_cases g4 : 10 * (y - rd I 178 b) + (x - rd I 179 b) = 10 * r + c
                             · have y1 : y = z40 + r := by omega
                               have x1 : x = z50 + c := by omega
                               rw [y1, x1]
                               rintro (⟨v1, v2⟩ | ⟨v1, v2⟩ | ⟨v1, v2⟩ | ⟨v1, v2⟩)
                               · first | omega | (have v3 : rd I 187 _ ≠ -1 := v2; rw [← e108] at v3; omega)
                               · first | omega | (have v3 : rd I 187 _ ≠ -1 := v2; rw [← e128] at v3; omega)
                               · first | omega | (have v3 : rd I 187 _ ≠ -1 := v2; rw [← e147] at v3; omega)
                               · first | omega | (have v3 : rd I 187 _ ≠ -1 := v2; rw [← e168] at v3; omega)
                             · exact hu2 gu y x g1 (by omega))
                    · refine w_iconst (v := iI 2) dX12_fits_173 rfl ?_
                      refine w_istore_n dX12_fits_174 rfl rfl ?_
                      refine v_iinc dX12_fits_175 rfl rfl rfl ?_
                      refine w_goto 12 dX12_fits_178 (by decide) ?_
                      first
                        | (fail_if_success (have := e24)
                           rw [show (r : Int) + 1 = ((r + 1 : Nat) : Int) by omega]
                           exact ih (r + 1) 0 u (by omega) (by omega) (by omega) (fun y x g1 g2 => hc y x g1 (by omega)) hu1 (fun gu y x g1 g2 => hu2 gu y x g1 (by omega)) hu3)
                        | (fail_if_success (have := e40)
                           have := e24
                           refine w_keep 5 ?_
                           rw [show (c : Int) + 1 = ((c + 1 : Nat) : Int) by omega]
                           have sk : ∀ y x : Int, cA (rce I b) (rd I 178 b) (rd I 179 b) y x ≠ 95 → 10 * (y - rd I 178 b) + (x - rd I 179 b) < 10 * (r : Int) + ((c + 1 : Nat) : Int) → 10 * (y - rd I 178 b) + (x - rd I 179 b) < 10 * (r : Int) + c := fun y x g1 g2 => by
                             have g3 := cA_ne g1
                             by_cases g4 : 10 * (y - rd I 178 b) + (x - rd I 179 b) = 10 * r + c
                             · exfalso
                               have g5 := g3.2.2.2.2
                               rw [show (10 * (y - rd I 178 b) + (x - rd I 179 b)).toNat = 10 * r + c by omega, ← f24] at g5
                               omega
                             · omega
                           exact ih r (c + 1) u (by omega) (by omega) (by omega) (fun y x g1 g2 => hc y x g1 (sk y x g1 g2)) hu1 (fun gu y x g1 g2 => hu2 gu y x g1 (sk y x g1 g2)) hu3)
                        | (have i2 : 0 ≤ z40 + r ∧ z40 + r < 16 ∧ 0 ≤ z50 + c ∧ z50 + c < 32 := q60
                           refine w_keep 5 ?_
                           rw [show (c : Int) + 1 = ((c + 1 : Nat) : Int) by omega]
                           refine ih r (c + 1) 2 (by omega) (by omega) (by omega) ?_ (by omega) (fun g => by omega) (fun _ => ⟨z40 + r, z50 + c, by rw [cae]; omega, ?_⟩)
                           · intro y x g1 g2
                             have g3 := cA_ne g1
                             by_cases g4 : 10 * (y - rd I 178 b) + (x - rd I 179 b) = 10 * r + c
                             · have y1 : y = z40 + r := by omega
                               have x1 : x = z50 + c := by omega
                               refine ⟨by show 0 ≤ y ∧ y < 16 ∧ 0 ≤ x ∧ x < 32; omega, ?_⟩
                               (try dsimp only)
                               rw [y1, x1, ← e78]; omega
                             · exact hc y x g1 (by omega)
                           · first
                               | exact Or.inr (Or.inr (Or.inr ⟨by omega, (by show rd I 187 _ ≠ -1; rw [← e168]; omega)⟩))
                               | exact Or.inr (Or.inr (Or.inl ⟨by omega, (by show rd I 187 _ ≠ -1; rw [← e147]; omega)⟩))
                               | exact Or.inr (Or.inl ⟨by omega, (by show rd I 187 _ ≠ -1; rw [← e128]; omega)⟩)
                               | exact Or.inl ⟨by omega, (by show rd I 187 _ ≠ -1; rw [← e108]; omega)⟩)
                        | (have i2 : 0 ≤ z40 + r ∧ z40 + r < 16 ∧ 0 ≤ z50 + c ∧ z50 + c < 32 := q60
                           refine w_keep 5 ?_
                           rw [show (c : Int) + 1 = ((c + 1 : Nat) : Int) by omega]
                           refine ih r (c + 1) u (by omega) (by omega) (by omega) ?_ hu1 (fun gu y x g1 g2 => ?_) hu3
                           · intro y x g1 g2
                             have g3 := cA_ne g1
                             by_cases g4 : 10 * (y - rd I 178 b) + (x - rd I 179 b) = 10 * r + c
                             · have y1 : y = z40 + r := by omega
                               have x1 : x = z50 + c := by omega
                               refine ⟨by show 0 ≤ y ∧ y < 16 ∧ 0 ≤ x ∧ x < 32; omega, ?_⟩
                               (try dsimp only)
                               rw [y1, x1, ← e78]; omega
                             · exact hc y x g1 (by omega)
                           · have g3 := cA_ne g1
                             by_cases g4 : 10 * (y - rd I 178 b) + (x - rd I 179 b) = 10 * r + c
                             · have y1 : y = z40 + r := by omega
                               have x1 : x = z50 + c := by omega
                               rw [y1, x1]
                               rintro (⟨v1, v2⟩ | ⟨v1, v2⟩ | ⟨v1, v2⟩ | ⟨v1, v2⟩)
                               · first | omega | (have v3 : rd I 187 _ ≠ -1 := v2; rw [← e108] at v3; omega)
                               · first | omega | (have v3 : rd I 187 _ ≠ -1 := v2; rw [← e128] at v3; omega)
                               · first | omega | (have v3 : rd I 187 _ ≠ -1 := v2; rw [← e147] at v3; omega)
                               · first | omega | (have v3 : rd I 187 _ ≠ -1 := v2; rw [← e168] at v3; omega)
                             · exact hu2 gu y x g1 (by omega))
                · refine w_aload_n dX12_fits_138 rfl ?_
                  refine v_getR (j := 187) dX12_fits_139 fX12_56 ⟨by decide, rfl⟩ rfl rfl ?_
                  refine w_iload dX12_fits_142 rfl ?_
                  refine w_bipush (v := iI 32) dX12_fits_144 (by decide) ?_
                  refine v_isub dX12_fits_146 ?_
                  refine v_iald dX12_fits_147 ⟨by decide, rfl⟩ (by have i2 : 0 ≤ z40 + r ∧ z40 + r < 16 ∧ 0 ≤ z50 + c ∧ z50 + c < 32 := q60; omega) (by have i2 : 0 ≤ z40 + r ∧ z40 + r < 16 ∧ 0 ≤ z50 + c ∧ z50 + c < 32 := q60; omega) (by decide) (fun z147 e147 b147 => ?_)
                  refine w_iconst (v := iI (-1)) dX12_fits_148 rfl ?_
                  refine v_icmp_ne 173 dX12_fits_149 (by decide) (by omega) (by omega) (fun c149 => ?_) (fun c149 => ?_)
                  · refine w_iconst (v := iI 2) dX12_fits_173 rfl ?_
                    refine w_istore_n dX12_fits_174 rfl rfl ?_
                    refine v_iinc dX12_fits_175 rfl rfl rfl ?_
                    refine w_goto 12 dX12_fits_178 (by decide) ?_
                    first
                      | (fail_if_success (have := e24)
                         rw [show (r : Int) + 1 = ((r + 1 : Nat) : Int) by omega]
                         exact ih (r + 1) 0 u (by omega) (by omega) (by omega) (fun y x g1 g2 => hc y x g1 (by omega)) hu1 (fun gu y x g1 g2 => hu2 gu y x g1 (by omega)) hu3)
                      | (fail_if_success (have := e40)
                         have := e24
                         refine w_keep 5 ?_
                         rw [show (c : Int) + 1 = ((c + 1 : Nat) : Int) by omega]
                         have sk : ∀ y x : Int, cA (rce I b) (rd I 178 b) (rd I 179 b) y x ≠ 95 → 10 * (y - rd I 178 b) + (x - rd I 179 b) < 10 * (r : Int) + ((c + 1 : Nat) : Int) → 10 * (y - rd I 178 b) + (x - rd I 179 b) < 10 * (r : Int) + c := fun y x g1 g2 => by
                           have g3 := cA_ne g1
                           by_cases g4 : 10 * (y - rd I 178 b) + (x - rd I 179 b) = 10 * r + c
                           · exfalso
                             have g5 := g3.2.2.2.2
                             rw [show (10 * (y - rd I 178 b) + (x - rd I 179 b)).toNat = 10 * r + c by omega, ← f24] at g5
                             omega
                           · omega
                         exact ih r (c + 1) u (by omega) (by omega) (by omega) (fun y x g1 g2 => hc y x g1 (sk y x g1 g2)) hu1 (fun gu y x g1 g2 => hu2 gu y x g1 (sk y x g1 g2)) hu3)
                      | (have i2 : 0 ≤ z40 + r ∧ z40 + r < 16 ∧ 0 ≤ z50 + c ∧ z50 + c < 32 := q60
                         refine w_keep 5 ?_
                         rw [show (c : Int) + 1 = ((c + 1 : Nat) : Int) by omega]
                         refine ih r (c + 1) 2 (by omega) (by omega) (by omega) ?_ (by omega) (fun g => by omega) (fun _ => ⟨z40 + r, z50 + c, by rw [cae]; omega, ?_⟩)
                         · intro y x g1 g2
                           have g3 := cA_ne g1
                           by_cases g4 : 10 * (y - rd I 178 b) + (x - rd I 179 b) = 10 * r + c
                           · have y1 : y = z40 + r := by omega
                             have x1 : x = z50 + c := by omega
                             refine ⟨by show 0 ≤ y ∧ y < 16 ∧ 0 ≤ x ∧ x < 32; omega, ?_⟩
                             (try dsimp only)
                             rw [y1, x1, ← e78]; omega
                           · exact hc y x g1 (by omega)
                         · first
                             | exact Or.inr (Or.inr (Or.inr ⟨by omega, (by show rd I 187 _ ≠ -1; rw [← e168]; omega)⟩))
                             | exact Or.inr (Or.inr (Or.inl ⟨by omega, (by show rd I 187 _ ≠ -1; rw [← e147]; omega)⟩))
                             | exact Or.inr (Or.inl ⟨by omega, (by show rd I 187 _ ≠ -1; rw [← e128]; omega)⟩)
                             | exact Or.inl ⟨by omega, (by show rd I 187 _ ≠ -1; rw [← e108]; omega)⟩)
                      | (have i2 : 0 ≤ z40 + r ∧ z40 + r < 16 ∧ 0 ≤ z50 + c ∧ z50 + c < 32 := q60
                         refine w_keep 5 ?_
                         rw [show (c : Int) + 1 = ((c + 1 : Nat) : Int) by omega]
                         refine ih r (c + 1) u (by omega) (by omega) (by omega) ?_ hu1 (fun gu y x g1 g2 => ?_) hu3
                         · intro y x g1 g2
                           have g3 := cA_ne g1
                           by_cases g4 : 10 * (y - rd I 178 b) + (x - rd I 179 b) = 10 * r + c
                           · have y1 : y = z40 + r := by omega
                             have x1 : x = z50 + c := by omega
                             refine ⟨by show 0 ≤ y ∧ y < 16 ∧ 0 ≤ x ∧ x < 32; omega, ?_⟩
                             (try dsimp only)
                             rw [y1, x1, ← e78]; omega
                           · exact hc y x g1 (by omega)
                         · have g3 := cA_ne g1
                           by_cases g4 : 10 * (y - rd I 178 b) + (x - rd I 179 b) = 10 * r + c
                           · have y1 : y = z40 + r := by omega
                             have x1 : x = z50 + c := by omega
                             rw [y1, x1]
                             rintro (⟨v1, v2⟩ | ⟨v1, v2⟩ | ⟨v1, v2⟩ | ⟨v1, v2⟩)
                             · first | omega | (have v3 : rd I 187 _ ≠ -1 := v2; rw [← e108] at v3; omega)
                             · first | omega | (have v3 : rd I 187 _ ≠ -1 := v2; rw [← e128] at v3; omega)
                             · first | omega | (have v3 : rd I 187 _ ≠ -1 := v2; rw [← e147] at v3; omega)
                             · first | omega | (have v3 : rd I 187 _ ≠ -1 := v2; rw [← e168] at v3; omega)
                           · exact hu2 gu y x g1 (by omega))
                  · refine w_iload dX12_fits_152 rfl ?_
                    refine w_bipush (v := iI 15) dX12_fits_154 (by decide) ?_
                    refine v_icmp_ge 175 dX12_fits_156 (by decide) (by omega) (by omega) (fun c156 => ?_) (fun c156 => ?_)
                    · refine v_iinc dX12_fits_175 rfl rfl rfl ?_
                      refine w_goto 12 dX12_fits_178 (by decide) ?_
                      first
                        | (fail_if_success (have := e24)
                           rw [show (r : Int) + 1 = ((r + 1 : Nat) : Int) by omega]
                           exact ih (r + 1) 0 u (by omega) (by omega) (by omega) (fun y x g1 g2 => hc y x g1 (by omega)) hu1 (fun gu y x g1 g2 => hu2 gu y x g1 (by omega)) hu3)
                        | (fail_if_success (have := e40)
                           have := e24
                           refine w_keep 5 ?_
                           rw [show (c : Int) + 1 = ((c + 1 : Nat) : Int) by omega]
                           have sk : ∀ y x : Int, cA (rce I b) (rd I 178 b) (rd I 179 b) y x ≠ 95 → 10 * (y - rd I 178 b) + (x - rd I 179 b) < 10 * (r : Int) + ((c + 1 : Nat) : Int) → 10 * (y - rd I 178 b) + (x - rd I 179 b) < 10 * (r : Int) + c := fun y x g1 g2 => by
                             have g3 := cA_ne g1
                             by_cases g4 : 10 * (y - rd I 178 b) + (x - rd I 179 b) = 10 * r + c
                             · exfalso
                               have g5 := g3.2.2.2.2
                               rw [show (10 * (y - rd I 178 b) + (x - rd I 179 b)).toNat = 10 * r + c by omega, ← f24] at g5
                               omega
                             · omega
                           exact ih r (c + 1) u (by omega) (by omega) (by omega) (fun y x g1 g2 => hc y x g1 (sk y x g1 g2)) hu1 (fun gu y x g1 g2 => hu2 gu y x g1 (sk y x g1 g2)) hu3)
                        | (have i2 : 0 ≤ z40 + r ∧ z40 + r < 16 ∧ 0 ≤ z50 + c ∧ z50 + c < 32 := q60
                           refine w_keep 5 ?_
                           rw [show (c : Int) + 1 = ((c + 1 : Nat) : Int) by omega]
                           refine ih r (c + 1) 2 (by omega) (by omega) (by omega) ?_ (by omega) (fun g => by omega) (fun _ => ⟨z40 + r, z50 + c, by rw [cae]; omega, ?_⟩)
                           · intro y x g1 g2
                             have g3 := cA_ne g1
                             by_cases g4 : 10 * (y - rd I 178 b) + (x - rd I 179 b) = 10 * r + c
                             · have y1 : y = z40 + r := by omega
                               have x1 : x = z50 + c := by omega
                               refine ⟨by show 0 ≤ y ∧ y < 16 ∧ 0 ≤ x ∧ x < 32; omega, ?_⟩
                               (try dsimp only)
                               rw [y1, x1, ← e78]; omega
                             · exact hc y x g1 (by omega)
                           · first
                               | exact Or.inr (Or.inr (Or.inr ⟨by omega, (by show rd I 187 _ ≠ -1; rw [← e168]; omega)⟩))
                               | exact Or.inr (Or.inr (Or.inl ⟨by omega, (by show rd I 187 _ ≠ -1; rw [← e147]; omega)⟩))
                               | exact Or.inr (Or.inl ⟨by omega, (by show rd I 187 _ ≠ -1; rw [← e128]; omega)⟩)
                               | exact Or.inl ⟨by omega, (by show rd I 187 _ ≠ -1; rw [← e108]; omega)⟩)
                        | (have i2 : 0 ≤ z40 + r ∧ z40 + r < 16 ∧ 0 ≤ z50 + c ∧ z50 + c < 32 := q60
                           refine w_keep 5 ?_
                           rw [show (c : Int) + 1 = ((c + 1 : Nat) : Int) by omega]
                           refine ih r (c + 1) u (by omega) (by omega) (by omega) ?_ hu1 (fun gu y x g1 g2 => ?_) hu3
                           · intro y x g1 g2
                             have g3 := cA_ne g1
                             by_cases g4 : 10 * (y - rd I 178 b) + (x - rd I 179 b) = 10 * r + c
                             · have y1 : y = z40 + r := by omega
                               have x1 : x = z50 + c := by omega
                               refine ⟨by show 0 ≤ y ∧ y < 16 ∧ 0 ≤ x ∧ x < 32; omega, ?_⟩
                               (try dsimp only)
                               rw [y1, x1, ← e78]; omega
                             · exact hc y x g1 (by omega)
                           · have g3 := cA_ne g1
                             by_cases g4 : 10 * (y - rd I 178 b) + (x - rd I 179 b) = 10 * r + c
                             · have y1 : y = z40 + r := by omega
                               have x1 : x = z50 + c := by omega
                               rw [y1, x1]
                               rintro (⟨v1, v2⟩ | ⟨v1, v2⟩ | ⟨v1, v2⟩ | ⟨v1, v2⟩)
                               · first | omega | (have v3 : rd I 187 _ ≠ -1 := v2; rw [← e108] at v3; omega)
                               · first | omega | (have v3 : rd I 187 _ ≠ -1 := v2; rw [← e128] at v3; omega)
                               · first | omega | (have v3 : rd I 187 _ ≠ -1 := v2; rw [← e147] at v3; omega)
                               · first | omega | (have v3 : rd I 187 _ ≠ -1 := v2; rw [← e168] at v3; omega)
                             · exact hu2 gu y x g1 (by omega))
                    · refine w_aload_n dX12_fits_159 rfl ?_
                      refine v_getR (j := 187) dX12_fits_160 fX12_56 ⟨by decide, rfl⟩ rfl rfl ?_
                      refine w_iload dX12_fits_163 rfl ?_
                      refine w_bipush (v := iI 32) dX12_fits_165 (by decide) ?_
                      refine v_iadd dX12_fits_167 ?_
                      refine v_iald dX12_fits_168 ⟨by decide, rfl⟩ (by have i2 : 0 ≤ z40 + r ∧ z40 + r < 16 ∧ 0 ≤ z50 + c ∧ z50 + c < 32 := q60; omega) (by have i2 : 0 ≤ z40 + r ∧ z40 + r < 16 ∧ 0 ≤ z50 + c ∧ z50 + c < 32 := q60; omega) (by decide) (fun z168 e168 b168 => ?_)
                      refine w_iconst (v := iI (-1)) dX12_fits_169 rfl ?_
                      refine v_icmp_eq 175 dX12_fits_170 (by decide) (by omega) (by omega) (fun c170 => ?_) (fun c170 => ?_)
                      · refine v_iinc dX12_fits_175 rfl rfl rfl ?_
                        refine w_goto 12 dX12_fits_178 (by decide) ?_
                        first
                          | (fail_if_success (have := e24)
                             rw [show (r : Int) + 1 = ((r + 1 : Nat) : Int) by omega]
                             exact ih (r + 1) 0 u (by omega) (by omega) (by omega) (fun y x g1 g2 => hc y x g1 (by omega)) hu1 (fun gu y x g1 g2 => hu2 gu y x g1 (by omega)) hu3)
                          | (fail_if_success (have := e40)
                             have := e24
                             refine w_keep 5 ?_
                             rw [show (c : Int) + 1 = ((c + 1 : Nat) : Int) by omega]
                             have sk : ∀ y x : Int, cA (rce I b) (rd I 178 b) (rd I 179 b) y x ≠ 95 → 10 * (y - rd I 178 b) + (x - rd I 179 b) < 10 * (r : Int) + ((c + 1 : Nat) : Int) → 10 * (y - rd I 178 b) + (x - rd I 179 b) < 10 * (r : Int) + c := fun y x g1 g2 => by
                               have g3 := cA_ne g1
                               by_cases g4 : 10 * (y - rd I 178 b) + (x - rd I 179 b) = 10 * r + c
                               · exfalso
                                 have g5 := g3.2.2.2.2
                                 rw [show (10 * (y - rd I 178 b) + (x - rd I 179 b)).toNat = 10 * r + c by omega, ← f24] at g5
                                 omega
                               · omega
                             exact ih r (c + 1) u (by omega) (by omega) (by omega) (fun y x g1 g2 => hc y x g1 (sk y x g1 g2)) hu1 (fun gu y x g1 g2 => hu2 gu y x g1 (sk y x g1 g2)) hu3)
                          | (have i2 : 0 ≤ z40 + r ∧ z40 + r < 16 ∧ 0 ≤ z50 + c ∧ z50 + c < 32 := q60
                             refine w_keep 5 ?_
                             rw [show (c : Int) + 1 = ((c + 1 : Nat) : Int) by omega]
                             refine ih r (c + 1) 2 (by omega) (by omega) (by omega) ?_ (by omega) (fun g => by omega) (fun _ => ⟨z40 + r, z50 + c, by rw [cae]; omega, ?_⟩)
                             · intro y x g1 g2
                               have g3 := cA_ne g1
                               by_cases g4 : 10 * (y - rd I 178 b) + (x - rd I 179 b) = 10 * r + c
                               · have y1 : y = z40 + r := by omega
                                 have x1 : x = z50 + c := by omega
                                 refine ⟨by show 0 ≤ y ∧ y < 16 ∧ 0 ≤ x ∧ x < 32; omega, ?_⟩
                                 (try dsimp only)
                                 rw [y1, x1, ← e78]; omega
                               · exact hc y x g1 (by omega)
                             · first
                                 | exact Or.inr (Or.inr (Or.inr ⟨by omega, (by show rd I 187 _ ≠ -1; rw [← e168]; omega)⟩))
                                 | exact Or.inr (Or.inr (Or.inl ⟨by omega, (by show rd I 187 _ ≠ -1; rw [← e147]; omega)⟩))
                                 | exact Or.inr (Or.inl ⟨by omega, (by show rd I 187 _ ≠ -1; rw [← e128]; omega)⟩)
                                 | exact Or.inl ⟨by omega, (by show rd I 187 _ ≠ -1; rw [← e108]; omega)⟩)
                          | (have i2 : 0 ≤ z40 + r ∧ z40 + r < 16 ∧ 0 ≤ z50 + c ∧ z50 + c < 32 := q60
                             refine w_keep 5 ?_
                             rw [show (c : Int) + 1 = ((c + 1 : Nat) : Int) by omega]
                             refine ih r (c + 1) u (by omega) (by omega) (by omega) ?_ hu1 (fun gu y x g1 g2 => ?_) hu3
                             · intro y x g1 g2
                               have g3 := cA_ne g1
                               by_cases g4 : 10 * (y - rd I 178 b) + (x - rd I 179 b) = 10 * r + c
                               · have y1 : y = z40 + r := by omega
                                 have x1 : x = z50 + c := by omega
                                 refine ⟨by show 0 ≤ y ∧ y < 16 ∧ 0 ≤ x ∧ x < 32; omega, ?_⟩
                                 (try dsimp only)
                                 rw [y1, x1, ← e78]; omega
                               · exact hc y x g1 (by omega)
                             · have g3 := cA_ne g1
                               by_cases g4 : 10 * (y - rd I 178 b) + (x - rd I 179 b) = 10 * r + c
                               · have y1 : y = z40 + r := by omega
                                 have x1 : x = z50 + c := by omega
                                 rw [y1, x1]
                                 rintro (⟨v1, v2⟩ | ⟨v1, v2⟩ | ⟨v1, v2⟩ | ⟨v1, v2⟩)
                                 · first | omega | (have v3 : rd I 187 _ ≠ -1 := v2; rw [← e108] at v3; omega)
                                 · first | omega | (have v3 : rd I 187 _ ≠ -1 := v2; rw [← e128] at v3; omega)
                                 · first | omega | (have v3 : rd I 187 _ ≠ -1 := v2; rw [← e147] at v3; omega)
                                 · first | omega | (have v3 : rd I 187 _ ≠ -1 := v2; rw [← e168] at v3; omega)
                               · exact hu2 gu y x g1 (by omega))
                      · refine w_iconst (v := iI 2) dX12_fits_173 rfl ?_
                        refine w_istore_n dX12_fits_174 rfl rfl ?_
                        refine v_iinc dX12_fits_175 rfl rfl rfl ?_
                        refine w_goto 12 dX12_fits_178 (by decide) ?_
                        first
                          | (fail_if_success (have := e24)
                             rw [show (r : Int) + 1 = ((r + 1 : Nat) : Int) by omega]
                             exact ih (r + 1) 0 u (by omega) (by omega) (by omega) (fun y x g1 g2 => hc y x g1 (by omega)) hu1 (fun gu y x g1 g2 => hu2 gu y x g1 (by omega)) hu3)
                          | (fail_if_success (have := e40)
                             have := e24
                             refine w_keep 5 ?_
                             rw [show (c : Int) + 1 = ((c + 1 : Nat) : Int) by omega]
                             have sk : ∀ y x : Int, cA (rce I b) (rd I 178 b) (rd I 179 b) y x ≠ 95 → 10 * (y - rd I 178 b) + (x - rd I 179 b) < 10 * (r : Int) + ((c + 1 : Nat) : Int) → 10 * (y - rd I 178 b) + (x - rd I 179 b) < 10 * (r : Int) + c := fun y x g1 g2 => by
                               have g3 := cA_ne g1
                               by_cases g4 : 10 * (y - rd I 178 b) + (x - rd I 179 b) = 10 * r + c
                               · exfalso
                                 have g5 := g3.2.2.2.2
                                 rw [show (10 * (y - rd I 178 b) + (x - rd I 179 b)).toNat = 10 * r + c by omega, ← f24] at g5
                                 omega
                               · omega
                             exact ih r (c + 1) u (by omega) (by omega) (by omega) (fun y x g1 g2 => hc y x g1 (sk y x g1 g2)) hu1 (fun gu y x g1 g2 => hu2 gu y x g1 (sk y x g1 g2)) hu3)
                          | (have i2 : 0 ≤ z40 + r ∧ z40 + r < 16 ∧ 0 ≤ z50 + c ∧ z50 + c < 32 := q60
                             refine w_keep 5 ?_
                             rw [show (c : Int) + 1 = ((c + 1 : Nat) : Int) by omega]
                             refine ih r (c + 1) 2 (by omega) (by omega) (by omega) ?_ (by omega) (fun g => by omega) (fun _ => ⟨z40 + r, z50 + c, by rw [cae]; omega, ?_⟩)
                             · intro y x g1 g2
                               have g3 := cA_ne g1
                               by_cases g4 : 10 * (y - rd I 178 b) + (x - rd I 179 b) = 10 * r + c
                               · have y1 : y = z40 + r := by omega
                                 have x1 : x = z50 + c := by omega
                                 refine ⟨by show 0 ≤ y ∧ y < 16 ∧ 0 ≤ x ∧ x < 32; omega, ?_⟩
                                 (try dsimp only)
                                 rw [y1, x1, ← e78]; omega
                               · exact hc y x g1 (by omega)
                             · first
                                 | exact Or.inr (Or.inr (Or.inr ⟨by omega, (by show rd I 187 _ ≠ -1; rw [← e168]; omega)⟩))
                                 | exact Or.inr (Or.inr (Or.inl ⟨by omega, (by show rd I 187 _ ≠ -1; rw [← e147]; omega)⟩))
                                 | exact Or.inr (Or.inl ⟨by omega, (by show rd I 187 _ ≠ -1; rw [← e128]; omega)⟩)
                                 | exact Or.inl ⟨by omega, (by show rd I 187 _ ≠ -1; rw [← e108]; omega)⟩)
                          | (have i2 : 0 ≤ z40 + r ∧ z40 + r < 16 ∧ 0 ≤ z50 + c ∧ z50 + c < 32 := q60
                             refine w_keep 5 ?_
                             rw [show (c : Int) + 1 = ((c + 1 : Nat) : Int) by omega]
                             refine ih r (c + 1) u (by omega) (by omega) (by omega) ?_ hu1 (fun gu y x g1 g2 => ?_) hu3
                             · intro y x g1 g2
                               have g3 := cA_ne g1
                               by_cases g4 : 10 * (y - rd I 178 b) + (x - rd I 179 b) = 10 * r + c
                               · have y1 : y = z40 + r := by omega
                                 have x1 : x = z50 + c := by omega
                                 refine ⟨by show 0 ≤ y ∧ y < 16 ∧ 0 ≤ x ∧ x < 32; omega, ?_⟩
                                 (try dsimp only)
                                 rw [y1, x1, ← e78]; omega
                               · exact hc y x g1 (by omega)
                             · have g3 := cA_ne g1
                               by_cases g4 : 10 * (y - rd I 178 b) + (x - rd I 179 b) = 10 * r + c
                               · have y1 : y = z40 + r := by omega
                                 have x1 : x = z50 + c := by omega
                                 rw [y1, x1]
                                 rintro (⟨v1, v2⟩ | ⟨v1, v2⟩ | ⟨v1, v2⟩ | ⟨v1, v2⟩)
                                 · first | omega | (have v3 : rd I 187 _ ≠ -1 := v2; rw [← e108] at v3; omega)
                                 · first | omega | (have v3 : rd I 187 _ ≠ -1 := v2; rw [← e128] at v3; omega)
                                 · first | omega | (have v3 : rd I 187 _ ≠ -1 := v2; rw [← e147] at v3; omega)
                                 · first | omega | (have v3 : rd I 187 _ ≠ -1 := v2; rw [← e168] at v3; omega)
                               · exact hu2 gu y x g1 (by omega))
              · refine w_aload_n dX12_fits_120 rfl ?_
                refine v_getR (j := 187) dX12_fits_121 fX12_56 ⟨by decide, rfl⟩ rfl rfl ?_
                refine w_iload dX12_fits_124 rfl ?_
                refine w_iconst (v := iI 1) dX12_fits_126 rfl ?_
                refine v_iadd dX12_fits_127 ?_
                refine v_iald dX12_fits_128 ⟨by decide, rfl⟩ (by have i2 : 0 ≤ z40 + r ∧ z40 + r < 16 ∧ 0 ≤ z50 + c ∧ z50 + c < 32 := q60; omega) (by have i2 : 0 ≤ z40 + r ∧ z40 + r < 16 ∧ 0 ≤ z50 + c ∧ z50 + c < 32 := q60; omega) (by decide) (fun z128 e128 b128 => ?_)
                refine w_iconst (v := iI (-1)) dX12_fits_129 rfl ?_
                refine v_icmp_ne 173 dX12_fits_130 (by decide) (by omega) (by omega) (fun c130 => ?_) (fun c130 => ?_)
                · refine w_iconst (v := iI 2) dX12_fits_173 rfl ?_
                  refine w_istore_n dX12_fits_174 rfl rfl ?_
                  refine v_iinc dX12_fits_175 rfl rfl rfl ?_
                  refine w_goto 12 dX12_fits_178 (by decide) ?_
                  first
                    | (fail_if_success (have := e24)
                       rw [show (r : Int) + 1 = ((r + 1 : Nat) : Int) by omega]
                       exact ih (r + 1) 0 u (by omega) (by omega) (by omega) (fun y x g1 g2 => hc y x g1 (by omega)) hu1 (fun gu y x g1 g2 => hu2 gu y x g1 (by omega)) hu3)
                    | (fail_if_success (have := e40)
                       have := e24
                       refine w_keep 5 ?_
                       rw [show (c : Int) + 1 = ((c + 1 : Nat) : Int) by omega]
                       have sk : ∀ y x : Int, cA (rce I b) (rd I 178 b) (rd I 179 b) y x ≠ 95 → 10 * (y - rd I 178 b) + (x - rd I 179 b) < 10 * (r : Int) + ((c + 1 : Nat) : Int) → 10 * (y - rd I 178 b) + (x - rd I 179 b) < 10 * (r : Int) + c := fun y x g1 g2 => by
                         have g3 := cA_ne g1
                         by_cases g4 : 10 * (y - rd I 178 b) + (x - rd I 179 b) = 10 * r + c
                         · exfalso
                           have g5 := g3.2.2.2.2
                           rw [show (10 * (y - rd I 178 b) + (x - rd I 179 b)).toNat = 10 * r + c by omega, ← f24] at g5
                           omega
                         · omega
                       exact ih r (c + 1) u (by omega) (by omega) (by omega) (fun y x g1 g2 => hc y x g1 (sk y x g1 g2)) hu1 (fun gu y x g1 g2 => hu2 gu y x g1 (sk y x g1 g2)) hu3)
                    | (have i2 : 0 ≤ z40 + r ∧ z40 + r < 16 ∧ 0 ≤ z50 + c ∧ z50 + c < 32 := q60
                       refine w_keep 5 ?_
                       rw [show (c : Int) + 1 = ((c + 1 : Nat) : Int) by omega]
                       refine ih r (c + 1) 2 (by omega) (by omega) (by omega) ?_ (by omega) (fun g => by omega) (fun _ => ⟨z40 + r, z50 + c, by rw [cae]; omega, ?_⟩)
                       · intro y x g1 g2
                         have g3 := cA_ne g1
                         by_cases g4 : 10 * (y - rd I 178 b) + (x - rd I 179 b) = 10 * r + c
                         · have y1 : y = z40 + r := by omega
                           have x1 : x = z50 + c := by omega
                           refine ⟨by show 0 ≤ y ∧ y < 16 ∧ 0 ≤ x ∧ x < 32; omega, ?_⟩
                           (try dsimp only)
                           rw [y1, x1, ← e78]; omega
                         · exact hc y x g1 (by omega)
                       · first
                           | exact Or.inr (Or.inr (Or.inr ⟨by omega, (by show rd I 187 _ ≠ -1; rw [← e168]; omega)⟩))
                           | exact Or.inr (Or.inr (Or.inl ⟨by omega, (by show rd I 187 _ ≠ -1; rw [← e147]; omega)⟩))
                           | exact Or.inr (Or.inl ⟨by omega, (by show rd I 187 _ ≠ -1; rw [← e128]; omega)⟩)
                           | exact Or.inl ⟨by omega, (by show rd I 187 _ ≠ -1; rw [← e108]; omega)⟩)
                    | (have i2 : 0 ≤ z40 + r ∧ z40 + r < 16 ∧ 0 ≤ z50 + c ∧ z50 + c < 32 := q60
                       refine w_keep 5 ?_
                       rw [show (c : Int) + 1 = ((c + 1 : Nat) : Int) by omega]
                       refine ih r (c + 1) u (by omega) (by omega) (by omega) ?_ hu1 (fun gu y x g1 g2 => ?_) hu3
                       · intro y x g1 g2
                         have g3 := cA_ne g1
                         by_cases g4 : 10 * (y - rd I 178 b) + (x - rd I 179 b) = 10 * r + c
                         · have y1 : y = z40 + r := by omega
                           have x1 : x = z50 + c := by omega
                           refine ⟨by show 0 ≤ y ∧ y < 16 ∧ 0 ≤ x ∧ x < 32; omega, ?_⟩
                           (try dsimp only)
                           rw [y1, x1, ← e78]; omega
                         · exact hc y x g1 (by omega)
                       · have g3 := cA_ne g1
                         by_cases g4 : 10 * (y - rd I 178 b) + (x - rd I 179 b) = 10 * r + c
                         · have y1 : y = z40 + r := by omega
                           have x1 : x = z50 + c := by omega
                           rw [y1, x1]
                           rintro (⟨v1, v2⟩ | ⟨v1, v2⟩ | ⟨v1, v2⟩ | ⟨v1, v2⟩)
                           · first | omega | (have v3 : rd I 187 _ ≠ -1 := v2; rw [← e108] at v3; omega)
                           · first | omega | (have v3 : rd I 187 _ ≠ -1 := v2; rw [← e128] at v3; omega)
                           · first | omega | (have v3 : rd I 187 _ ≠ -1 := v2; rw [← e147] at v3; omega)
                           · first | omega | (have v3 : rd I 187 _ ≠ -1 := v2; rw [← e168] at v3; omega)
                         · exact hu2 gu y x g1 (by omega))
                · refine w_iload dX12_fits_133 rfl ?_
                  refine v_if_le 152 dX12_fits_135 (by decide) (by omega) (fun c135 => ?_) (fun c135 => ?_)
                  · refine w_iload dX12_fits_152 rfl ?_
                    refine w_bipush (v := iI 15) dX12_fits_154 (by decide) ?_
                    refine v_icmp_ge 175 dX12_fits_156 (by decide) (by omega) (by omega) (fun c156 => ?_) (fun c156 => ?_)
                    · refine v_iinc dX12_fits_175 rfl rfl rfl ?_
                      refine w_goto 12 dX12_fits_178 (by decide) ?_
                      first
                        | (fail_if_success (have := e24)
                           rw [show (r : Int) + 1 = ((r + 1 : Nat) : Int) by omega]
                           exact ih (r + 1) 0 u (by omega) (by omega) (by omega) (fun y x g1 g2 => hc y x g1 (by omega)) hu1 (fun gu y x g1 g2 => hu2 gu y x g1 (by omega)) hu3)
                        | (fail_if_success (have := e40)
                           have := e24
                           refine w_keep 5 ?_
                           rw [show (c : Int) + 1 = ((c + 1 : Nat) : Int) by omega]
                           have sk : ∀ y x : Int, cA (rce I b) (rd I 178 b) (rd I 179 b) y x ≠ 95 → 10 * (y - rd I 178 b) + (x - rd I 179 b) < 10 * (r : Int) + ((c + 1 : Nat) : Int) → 10 * (y - rd I 178 b) + (x - rd I 179 b) < 10 * (r : Int) + c := fun y x g1 g2 => by
                             have g3 := cA_ne g1
                             by_cases g4 : 10 * (y - rd I 178 b) + (x - rd I 179 b) = 10 * r + c
                             · exfalso
                               have g5 := g3.2.2.2.2
                               rw [show (10 * (y - rd I 178 b) + (x - rd I 179 b)).toNat = 10 * r + c by omega, ← f24] at g5
                               omega
                             · omega
                           exact ih r (c + 1) u (by omega) (by omega) (by omega) (fun y x g1 g2 => hc y x g1 (sk y x g1 g2)) hu1 (fun gu y x g1 g2 => hu2 gu y x g1 (sk y x g1 g2)) hu3)
                        | (have i2 : 0 ≤ z40 + r ∧ z40 + r < 16 ∧ 0 ≤ z50 + c ∧ z50 + c < 32 := q60
                           refine w_keep 5 ?_
                           rw [show (c : Int) + 1 = ((c + 1 : Nat) : Int) by omega]
                           refine ih r (c + 1) 2 (by omega) (by omega) (by omega) ?_ (by omega) (fun g => by omega) (fun _ => ⟨z40 + r, z50 + c, by rw [cae]; omega, ?_⟩)
                           · intro y x g1 g2
                             have g3 := cA_ne g1
                             by_cases g4 : 10 * (y - rd I 178 b) + (x - rd I 179 b) = 10 * r + c
                             · have y1 : y = z40 + r := by omega
                               have x1 : x = z50 + c := by omega
                               refine ⟨by show 0 ≤ y ∧ y < 16 ∧ 0 ≤ x ∧ x < 32; omega, ?_⟩
                               (try dsimp only)
                               rw [y1, x1, ← e78]; omega
                             · exact hc y x g1 (by omega)
                           · first
                               | exact Or.inr (Or.inr (Or.inr ⟨by omega, (by show rd I 187 _ ≠ -1; rw [← e168]; omega)⟩))
                               | exact Or.inr (Or.inr (Or.inl ⟨by omega, (by show rd I 187 _ ≠ -1; rw [← e147]; omega)⟩))
                               | exact Or.inr (Or.inl ⟨by omega, (by show rd I 187 _ ≠ -1; rw [← e128]; omega)⟩)
                               | exact Or.inl ⟨by omega, (by show rd I 187 _ ≠ -1; rw [← e108]; omega)⟩)
                        | (have i2 : 0 ≤ z40 + r ∧ z40 + r < 16 ∧ 0 ≤ z50 + c ∧ z50 + c < 32 := q60
                           refine w_keep 5 ?_
                           rw [show (c : Int) + 1 = ((c + 1 : Nat) : Int) by omega]
                           refine ih r (c + 1) u (by omega) (by omega) (by omega) ?_ hu1 (fun gu y x g1 g2 => ?_) hu3
                           · intro y x g1 g2
                             have g3 := cA_ne g1
                             by_cases g4 : 10 * (y - rd I 178 b) + (x - rd I 179 b) = 10 * r + c
                             · have y1 : y = z40 + r := by omega
                               have x1 : x = z50 + c := by omega
                               refine ⟨by show 0 ≤ y ∧ y < 16 ∧ 0 ≤ x ∧ x < 32; omega, ?_⟩
                               (try dsimp only)
                               rw [y1, x1, ← e78]; omega
                             · exact hc y x g1 (by omega)
                           · have g3 := cA_ne g1
                             by_cases g4 : 10 * (y - rd I 178 b) + (x - rd I 179 b) = 10 * r + c
                             · have y1 : y = z40 + r := by omega
                               have x1 : x = z50 + c := by omega
                               rw [y1, x1]
                               rintro (⟨v1, v2⟩ | ⟨v1, v2⟩ | ⟨v1, v2⟩ | ⟨v1, v2⟩)
                               · first | omega | (have v3 : rd I 187 _ ≠ -1 := v2; rw [← e108] at v3; omega)
                               · first | omega | (have v3 : rd I 187 _ ≠ -1 := v2; rw [← e128] at v3; omega)
                               · first | omega | (have v3 : rd I 187 _ ≠ -1 := v2; rw [← e147] at v3; omega)
                               · first | omega | (have v3 : rd I 187 _ ≠ -1 := v2; rw [← e168] at v3; omega)
                             · exact hu2 gu y x g1 (by omega))
                    · refine w_aload_n dX12_fits_159 rfl ?_
                      refine v_getR (j := 187) dX12_fits_160 fX12_56 ⟨by decide, rfl⟩ rfl rfl ?_
                      refine w_iload dX12_fits_163 rfl ?_
                      refine w_bipush (v := iI 32) dX12_fits_165 (by decide) ?_
                      refine v_iadd dX12_fits_167 ?_
                      refine v_iald dX12_fits_168 ⟨by decide, rfl⟩ (by have i2 : 0 ≤ z40 + r ∧ z40 + r < 16 ∧ 0 ≤ z50 + c ∧ z50 + c < 32 := q60; omega) (by have i2 : 0 ≤ z40 + r ∧ z40 + r < 16 ∧ 0 ≤ z50 + c ∧ z50 + c < 32 := q60; omega) (by decide) (fun z168 e168 b168 => ?_)
                      refine w_iconst (v := iI (-1)) dX12_fits_169 rfl ?_
                      refine v_icmp_eq 175 dX12_fits_170 (by decide) (by omega) (by omega) (fun c170 => ?_) (fun c170 => ?_)
                      · refine v_iinc dX12_fits_175 rfl rfl rfl ?_
                        refine w_goto 12 dX12_fits_178 (by decide) ?_
                        first
                          | (fail_if_success (have := e24)
                             rw [show (r : Int) + 1 = ((r + 1 : Nat) : Int) by omega]
                             exact ih (r + 1) 0 u (by omega) (by omega) (by omega) (fun y x g1 g2 => hc y x g1 (by omega)) hu1 (fun gu y x g1 g2 => hu2 gu y x g1 (by omega)) hu3)
                          | (fail_if_success (have := e40)
                             have := e24
                             refine w_keep 5 ?_
                             rw [show (c : Int) + 1 = ((c + 1 : Nat) : Int) by omega]
                             have sk : ∀ y x : Int, cA (rce I b) (rd I 178 b) (rd I 179 b) y x ≠ 95 → 10 * (y - rd I 178 b) + (x - rd I 179 b) < 10 * (r : Int) + ((c + 1 : Nat) : Int) → 10 * (y - rd I 178 b) + (x - rd I 179 b) < 10 * (r : Int) + c := fun y x g1 g2 => by
                               have g3 := cA_ne g1
                               by_cases g4 : 10 * (y - rd I 178 b) + (x - rd I 179 b) = 10 * r + c
                               · exfalso
                                 have g5 := g3.2.2.2.2
                                 rw [show (10 * (y - rd I 178 b) + (x - rd I 179 b)).toNat = 10 * r + c by omega, ← f24] at g5
                                 omega
                               · omega
                             exact ih r (c + 1) u (by omega) (by omega) (by omega) (fun y x g1 g2 => hc y x g1 (sk y x g1 g2)) hu1 (fun gu y x g1 g2 => hu2 gu y x g1 (sk y x g1 g2)) hu3)
                          | (have i2 : 0 ≤ z40 + r ∧ z40 + r < 16 ∧ 0 ≤ z50 + c ∧ z50 + c < 32 := q60
                             refine w_keep 5 ?_
                             rw [show (c : Int) + 1 = ((c + 1 : Nat) : Int) by omega]
                             refine ih r (c + 1) 2 (by omega) (by omega) (by omega) ?_ (by omega) (fun g => by omega) (fun _ => ⟨z40 + r, z50 + c, by rw [cae]; omega, ?_⟩)
                             · intro y x g1 g2
                               have g3 := cA_ne g1
                               by_cases g4 : 10 * (y - rd I 178 b) + (x - rd I 179 b) = 10 * r + c
                               · have y1 : y = z40 + r := by omega
                                 have x1 : x = z50 + c := by omega
                                 refine ⟨by show 0 ≤ y ∧ y < 16 ∧ 0 ≤ x ∧ x < 32; omega, ?_⟩
                                 (try dsimp only)
                                 rw [y1, x1, ← e78]; omega
                               · exact hc y x g1 (by omega)
                             · first
                                 | exact Or.inr (Or.inr (Or.inr ⟨by omega, (by show rd I 187 _ ≠ -1; rw [← e168]; omega)⟩))
                                 | exact Or.inr (Or.inr (Or.inl ⟨by omega, (by show rd I 187 _ ≠ -1; rw [← e147]; omega)⟩))
                                 | exact Or.inr (Or.inl ⟨by omega, (by show rd I 187 _ ≠ -1; rw [← e128]; omega)⟩)
                                 | exact Or.inl ⟨by omega, (by show rd I 187 _ ≠ -1; rw [← e108]; omega)⟩)
                          | (have i2 : 0 ≤ z40 + r ∧ z40 + r < 16 ∧ 0 ≤ z50 + c ∧ z50 + c < 32 := q60
                             refine w_keep 5 ?_
                             rw [show (c : Int) + 1 = ((c + 1 : Nat) : Int) by omega]
                             refine ih r (c + 1) u (by omega) (by omega) (by omega) ?_ hu1 (fun gu y x g1 g2 => ?_) hu3
                             · intro y x g1 g2
                               have g3 := cA_ne g1
                               by_cases g4 : 10 * (y - rd I 178 b) + (x - rd I 179 b) = 10 * r + c
                               · have y1 : y = z40 + r := by omega
                                 have x1 : x = z50 + c := by omega
                                 refine ⟨by show 0 ≤ y ∧ y < 16 ∧ 0 ≤ x ∧ x < 32; omega, ?_⟩
                                 (try dsimp only)
                                 rw [y1, x1, ← e78]; omega
                               · exact hc y x g1 (by omega)
                             · have g3 := cA_ne g1
                               by_cases g4 : 10 * (y - rd I 178 b) + (x - rd I 179 b) = 10 * r + c
                               · have y1 : y = z40 + r := by omega
                                 have x1 : x = z50 + c := by omega
                                 rw [y1, x1]
                                 rintro (⟨v1, v2⟩ | ⟨v1, v2⟩ | ⟨v1, v2⟩ | ⟨v1, v2⟩)
                                 · first | omega | (have v3 : rd I 187 _ ≠ -1 := v2; rw [← e108] at v3; omega)
                                 · first | omega | (have v3 : rd I 187 _ ≠ -1 := v2; rw [← e128] at v3; omega)
                                 · first | omega | (have v3 : rd I 187 _ ≠ -1 := v2; rw [← e147] at v3; omega)
                                 · first | omega | (have v3 : rd I 187 _ ≠ -1 := v2; rw [← e168] at v3; omega)
                               · exact hu2 gu y x g1 (by omega))
                      · refine w_iconst (v := iI 2) dX12_fits_173 rfl ?_
                        refine w_istore_n dX12_fits_174 rfl rfl ?_
                        refine v_iinc dX12_fits_175 rfl rfl rfl ?_
                        refine w_goto 12 dX12_fits_178 (by decide) ?_
                        first
                          | (fail_if_success (have := e24)
                             rw [show (r : Int) + 1 = ((r + 1 : Nat) : Int) by omega]
                             exact ih (r + 1) 0 u (by omega) (by omega) (by omega) (fun y x g1 g2 => hc y x g1 (by omega)) hu1 (fun gu y x g1 g2 => hu2 gu y x g1 (by omega)) hu3)
                          | (fail_if_success (have := e40)
                             have := e24
                             refine w_keep 5 ?_
                             rw [show (c : Int) + 1 = ((c + 1 : Nat) : Int) by omega]
                             have sk : ∀ y x : Int, cA (rce I b) (rd I 178 b) (rd I 179 b) y x ≠ 95 → 10 * (y - rd I 178 b) + (x - rd I 179 b) < 10 * (r : Int) + ((c + 1 : Nat) : Int) → 10 * (y - rd I 178 b) + (x - rd I 179 b) < 10 * (r : Int) + c := fun y x g1 g2 => by
                               have g3 := cA_ne g1
                               by_cases g4 : 10 * (y - rd I 178 b) + (x - rd I 179 b) = 10 * r + c
                               · exfalso
                                 have g5 := g3.2.2.2.2
                                 rw [show (10 * (y - rd I 178 b) + (x - rd I 179 b)).toNat = 10 * r + c by omega, ← f24] at g5
                                 omega
                               · omega
                             exact ih r (c + 1) u (by omega) (by omega) (by omega) (fun y x g1 g2 => hc y x g1 (sk y x g1 g2)) hu1 (fun gu y x g1 g2 => hu2 gu y x g1 (sk y x g1 g2)) hu3)
                          | (have i2 : 0 ≤ z40 + r ∧ z40 + r < 16 ∧ 0 ≤ z50 + c ∧ z50 + c < 32 := q60
                             refine w_keep 5 ?_
                             rw [show (c : Int) + 1 = ((c + 1 : Nat) : Int) by omega]
                             refine ih r (c + 1) 2 (by omega) (by omega) (by omega) ?_ (by omega) (fun g => by omega) (fun _ => ⟨z40 + r, z50 + c, by rw [cae]; omega, ?_⟩)
                             · intro y x g1 g2
                               have g3 := cA_ne g1
                               by_cases g4 : 10 * (y - rd I 178 b) + (x - rd I 179 b) = 10 * r + c
                               · have y1 : y = z40 + r := by omega
                                 have x1 : x = z50 + c := by omega
                                 refine ⟨by show 0 ≤ y ∧ y < 16 ∧ 0 ≤ x ∧ x < 32; omega, ?_⟩
                                 (try dsimp only)
                                 rw [y1, x1, ← e78]; omega
                               · exact hc y x g1 (by omega)
                             · first
                                 | exact Or.inr (Or.inr (Or.inr ⟨by omega, (by show rd I 187 _ ≠ -1; rw [← e168]; omega)⟩))
                                 | exact Or.inr (Or.inr (Or.inl ⟨by omega, (by show rd I 187 _ ≠ -1; rw [← e147]; omega)⟩))
                                 | exact Or.inr (Or.inl ⟨by omega, (by show rd I 187 _ ≠ -1; rw [← e128]; omega)⟩)
                                 | exact Or.inl ⟨by omega, (by show rd I 187 _ ≠ -1; rw [← e108]; omega)⟩)
                          | (have i2 : 0 ≤ z40 + r ∧ z40 + r < 16 ∧ 0 ≤ z50 + c ∧ z50 + c < 32 := q60
                             refine w_keep 5 ?_
                             rw [show (c : Int) + 1 = ((c + 1 : Nat) : Int) by omega]
                             refine ih r (c + 1) u (by omega) (by omega) (by omega) ?_ hu1 (fun gu y x g1 g2 => ?_) hu3
                             · intro y x g1 g2
                               have g3 := cA_ne g1
                               by_cases g4 : 10 * (y - rd I 178 b) + (x - rd I 179 b) = 10 * r + c
                               · have y1 : y = z40 + r := by omega
                                 have x1 : x = z50 + c := by omega
                                 refine ⟨by show 0 ≤ y ∧ y < 16 ∧ 0 ≤ x ∧ x < 32; omega, ?_⟩
                                 (try dsimp only)
                                 rw [y1, x1, ← e78]; omega
                               · exact hc y x g1 (by omega)
                             · have g3 := cA_ne g1
                               by_cases g4 : 10 * (y - rd I 178 b) + (x - rd I 179 b) = 10 * r + c
                               · have y1 : y = z40 + r := by omega
                                 have x1 : x = z50 + c := by omega
                                 rw [y1, x1]
                                 rintro (⟨v1, v2⟩ | ⟨v1, v2⟩ | ⟨v1, v2⟩ | ⟨v1, v2⟩)
                                 · first | omega | (have v3 : rd I 187 _ ≠ -1 := v2; rw [← e108] at v3; omega)
                                 · first | omega | (have v3 : rd I 187 _ ≠ -1 := v2; rw [← e128] at v3; omega)
                                 · first | omega | (have v3 : rd I 187 _ ≠ -1 := v2; rw [← e147] at v3; omega)
                                 · first | omega | (have v3 : rd I 187 _ ≠ -1 := v2; rw [← e168] at v3; omega)
                               · exact hu2 gu y x g1 (by omega))
                  · refine w_aload_n dX12_fits_138 rfl ?_
                    refine v_getR (j := 187) dX12_fits_139 fX12_56 ⟨by decide, rfl⟩ rfl rfl ?_
                    refine w_iload dX12_fits_142 rfl ?_
                    refine w_bipush (v := iI 32) dX12_fits_144 (by decide) ?_
                    refine v_isub dX12_fits_146 ?_
                    refine v_iald dX12_fits_147 ⟨by decide, rfl⟩ (by have i2 : 0 ≤ z40 + r ∧ z40 + r < 16 ∧ 0 ≤ z50 + c ∧ z50 + c < 32 := q60; omega) (by have i2 : 0 ≤ z40 + r ∧ z40 + r < 16 ∧ 0 ≤ z50 + c ∧ z50 + c < 32 := q60; omega) (by decide) (fun z147 e147 b147 => ?_)
                    refine w_iconst (v := iI (-1)) dX12_fits_148 rfl ?_
                    refine v_icmp_ne 173 dX12_fits_149 (by decide) (by omega) (by omega) (fun c149 => ?_) (fun c149 => ?_)
                    · refine w_iconst (v := iI 2) dX12_fits_173 rfl ?_
                      refine w_istore_n dX12_fits_174 rfl rfl ?_
                      refine v_iinc dX12_fits_175 rfl rfl rfl ?_
                      refine w_goto 12 dX12_fits_178 (by decide) ?_
                      first
                        | (fail_if_success (have := e24)
                           rw [show (r : Int) + 1 = ((r + 1 : Nat) : Int) by omega]
                           exact ih (r + 1) 0 u (by omega) (by omega) (by omega) (fun y x g1 g2 => hc y x g1 (by omega)) hu1 (fun gu y x g1 g2 => hu2 gu y x g1 (by omega)) hu3)
                        | (fail_if_success (have := e40)
                           have := e24
                           refine w_keep 5 ?_
                           rw [show (c : Int) + 1 = ((c + 1 : Nat) : Int) by omega]
                           have sk : ∀ y x : Int, cA (rce I b) (rd I 178 b) (rd I 179 b) y x ≠ 95 → 10 * (y - rd I 178 b) + (x - rd I 179 b) < 10 * (r : Int) + ((c + 1 : Nat) : Int) → 10 * (y - rd I 178 b) + (x - rd I 179 b) < 10 * (r : Int) + c := fun y x g1 g2 => by
                             have g3 := cA_ne g1
                             by_cases g4 : 10 * (y - rd I 178 b) + (x - rd I 179 b) = 10 * r + c
                             · exfalso
                               have g5 := g3.2.2.2.2
                               rw [show (10 * (y - rd I 178 b) + (x - rd I 179 b)).toNat = 10 * r + c by omega, ← f24] at g5
                               omega
                             · omega
                           exact ih r (c + 1) u (by omega) (by omega) (by omega) (fun y x g1 g2 => hc y x g1 (sk y x g1 g2)) hu1 (fun gu y x g1 g2 => hu2 gu y x g1 (sk y x g1 g2)) hu3)
                        | (have i2 : 0 ≤ z40 + r ∧ z40 + r < 16 ∧ 0 ≤ z50 + c ∧ z50 + c < 32 := q60
                           refine w_keep 5 ?_
                           rw [show (c : Int) + 1 = ((c + 1 : Nat) : Int) by omega]
                           refine ih r (c + 1) 2 (by omega) (by omega) (by omega) ?_ (by omega) (fun g => by omega) (fun _ => ⟨z40 + r, z50 + c, by rw [cae]; omega, ?_⟩)
                           · intro y x g1 g2
                             have g3 := cA_ne g1
                             by_cases g4 : 10 * (y - rd I 178 b) + (x - rd I 179 b) = 10 * r + c
                             · have y1 : y = z40 + r := by omega
                               have x1 : x = z50 + c := by omega
                               refine ⟨by show 0 ≤ y ∧ y < 16 ∧ 0 ≤ x ∧ x < 32; omega, ?_⟩
                               (try dsimp only)
                               rw [y1, x1, ← e78]; omega
                             · exact hc y x g1 (by omega)
                           · first
                               | exact Or.inr (Or.inr (Or.inr ⟨by omega, (by show rd I 187 _ ≠ -1; rw [← e168]; omega)⟩))
                               | exact Or.inr (Or.inr (Or.inl ⟨by omega, (by show rd I 187 _ ≠ -1; rw [← e147]; omega)⟩))
                               | exact Or.inr (Or.inl ⟨by omega, (by show rd I 187 _ ≠ -1; rw [← e128]; omega)⟩)
                               | exact Or.inl ⟨by omega, (by show rd I 187 _ ≠ -1; rw [← e108]; omega)⟩)
                        | (have i2 : 0 ≤ z40 + r ∧ z40 + r < 16 ∧ 0 ≤ z50 + c ∧ z50 + c < 32 := q60
                           refine w_keep 5 ?_
                           rw [show (c : Int) + 1 = ((c + 1 : Nat) : Int) by omega]
                           refine ih r (c + 1) u (by omega) (by omega) (by omega) ?_ hu1 (fun gu y x g1 g2 => ?_) hu3
                           · intro y x g1 g2
                             have g3 := cA_ne g1
                             by_cases g4 : 10 * (y - rd I 178 b) + (x - rd I 179 b) = 10 * r + c
                             · have y1 : y = z40 + r := by omega
                               have x1 : x = z50 + c := by omega
                               refine ⟨by show 0 ≤ y ∧ y < 16 ∧ 0 ≤ x ∧ x < 32; omega, ?_⟩
                               (try dsimp only)
                               rw [y1, x1, ← e78]; omega
                             · exact hc y x g1 (by omega)
                           · have g3 := cA_ne g1
                             by_cases g4 : 10 * (y - rd I 178 b) + (x - rd I 179 b) = 10 * r + c
                             · have y1 : y = z40 + r := by omega
                               have x1 : x = z50 + c := by omega
                               rw [y1, x1]
                               rintro (⟨v1, v2⟩ | ⟨v1, v2⟩ | ⟨v1, v2⟩ | ⟨v1, v2⟩)
                               · first | omega | (have v3 : rd I 187 _ ≠ -1 := v2; rw [← e108] at v3; omega)
                               · first | omega | (have v3 : rd I 187 _ ≠ -1 := v2; rw [← e128] at v3; omega)
                               · first | omega | (have v3 : rd I 187 _ ≠ -1 := v2; rw [← e147] at v3; omega)
                               · first | omega | (have v3 : rd I 187 _ ≠ -1 := v2; rw [← e168] at v3; omega)
                             · exact hu2 gu y x g1 (by omega))
                    · refine w_iload dX12_fits_152 rfl ?_
                      refine w_bipush (v := iI 15) dX12_fits_154 (by decide) ?_
                      refine v_icmp_ge 175 dX12_fits_156 (by decide) (by omega) (by omega) (fun c156 => ?_) (fun c156 => ?_)
                      · refine v_iinc dX12_fits_175 rfl rfl rfl ?_
                        refine w_goto 12 dX12_fits_178 (by decide) ?_
                        first
                          | (fail_if_success (have := e24)
                             rw [show (r : Int) + 1 = ((r + 1 : Nat) : Int) by omega]
                             exact ih (r + 1) 0 u (by omega) (by omega) (by omega) (fun y x g1 g2 => hc y x g1 (by omega)) hu1 (fun gu y x g1 g2 => hu2 gu y x g1 (by omega)) hu3)
                          | (fail_if_success (have := e40)
                             have := e24
                             refine w_keep 5 ?_
                             rw [show (c : Int) + 1 = ((c + 1 : Nat) : Int) by omega]
                             have sk : ∀ y x : Int, cA (rce I b) (rd I 178 b) (rd I 179 b) y x ≠ 95 → 10 * (y - rd I 178 b) + (x - rd I 179 b) < 10 * (r : Int) + ((c + 1 : Nat) : Int) → 10 * (y - rd I 178 b) + (x - rd I 179 b) < 10 * (r : Int) + c := fun y x g1 g2 => by
                               have g3 := cA_ne g1
                               by_cases g4 : 10 * (y - rd I 178 b) + (x - rd I 179 b) = 10 * r + c
                               · exfalso
                                 have g5 := g3.2.2.2.2
                                 rw [show (10 * (y - rd I 178 b) + (x - rd I 179 b)).toNat = 10 * r + c by omega, ← f24] at g5
                                 omega
                               · omega
                             exact ih r (c + 1) u (by omega) (by omega) (by omega) (fun y x g1 g2 => hc y x g1 (sk y x g1 g2)) hu1 (fun gu y x g1 g2 => hu2 gu y x g1 (sk y x g1 g2)) hu3)
                          | (have i2 : 0 ≤ z40 + r ∧ z40 + r < 16 ∧ 0 ≤ z50 + c ∧ z50 + c < 32 := q60
                             refine w_keep 5 ?_
                             rw [show (c : Int) + 1 = ((c + 1 : Nat) : Int) by omega]
                             refine ih r (c + 1) 2 (by omega) (by omega) (by omega) ?_ (by omega) (fun g => by omega) (fun _ => ⟨z40 + r, z50 + c, by rw [cae]; omega, ?_⟩)
                             · intro y x g1 g2
                               have g3 := cA_ne g1
                               by_cases g4 : 10 * (y - rd I 178 b) + (x - rd I 179 b) = 10 * r + c
                               · have y1 : y = z40 + r := by omega
                                 have x1 : x = z50 + c := by omega
                                 refine ⟨by show 0 ≤ y ∧ y < 16 ∧ 0 ≤ x ∧ x < 32; omega, ?_⟩
                                 (try dsimp only)
                                 rw [y1, x1, ← e78]; omega
                               · exact hc y x g1 (by omega)
                             · first
                                 | exact Or.inr (Or.inr (Or.inr ⟨by omega, (by show rd I 187 _ ≠ -1; rw [← e168]; omega)⟩))
                                 | exact Or.inr (Or.inr (Or.inl ⟨by omega, (by show rd I 187 _ ≠ -1; rw [← e147]; omega)⟩))
                                 | exact Or.inr (Or.inl ⟨by omega, (by show rd I 187 _ ≠ -1; rw [← e128]; omega)⟩)
                                 | exact Or.inl ⟨by omega, (by show rd I 187 _ ≠ -1; rw [← e108]; omega)⟩)
                          | (have i2 : 0 ≤ z40 + r ∧ z40 + r < 16 ∧ 0 ≤ z50 + c ∧ z50 + c < 32 := q60
                             refine w_keep 5 ?_
                             rw [show (c : Int) + 1 = ((c + 1 : Nat) : Int) by omega]
                             refine ih r (c + 1) u (by omega) (by omega) (by omega) ?_ hu1 (fun gu y x g1 g2 => ?_) hu3
                             · intro y x g1 g2
                               have g3 := cA_ne g1
                               by_cases g4 : 10 * (y - rd I 178 b) + (x - rd I 179 b) = 10 * r + c
                               · have y1 : y = z40 + r := by omega
                                 have x1 : x = z50 + c := by omega
                                 refine ⟨by show 0 ≤ y ∧ y < 16 ∧ 0 ≤ x ∧ x < 32; omega, ?_⟩
                                 (try dsimp only)
                                 rw [y1, x1, ← e78]; omega
                               · exact hc y x g1 (by omega)
                             · have g3 := cA_ne g1
                               by_cases g4 : 10 * (y - rd I 178 b) + (x - rd I 179 b) = 10 * r + c
                               · have y1 : y = z40 + r := by omega
                                 have x1 : x = z50 + c := by omega
                                 rw [y1, x1]
                                 rintro (⟨v1, v2⟩ | ⟨v1, v2⟩ | ⟨v1, v2⟩ | ⟨v1, v2⟩)
                                 · first | omega | (have v3 : rd I 187 _ ≠ -1 := v2; rw [← e108] at v3; omega)
                                 · first | omega | (have v3 : rd I 187 _ ≠ -1 := v2; rw [← e128] at v3; omega)
                                 · first | omega | (have v3 : rd I 187 _ ≠ -1 := v2; rw [← e147] at v3; omega)
                                 · first | omega | (have v3 : rd I 187 _ ≠ -1 := v2; rw [← e168] at v3; omega)
                               · exact hu2 gu y x g1 (by omega))
                      · refine w_aload_n dX12_fits_159 rfl ?_
                        refine v_getR (j := 187) dX12_fits_160 fX12_56 ⟨by decide, rfl⟩ rfl rfl ?_
                        refine w_iload dX12_fits_163 rfl ?_
                        refine w_bipush (v := iI 32) dX12_fits_165 (by decide) ?_
                        refine v_iadd dX12_fits_167 ?_
                        refine v_iald dX12_fits_168 ⟨by decide, rfl⟩ (by have i2 : 0 ≤ z40 + r ∧ z40 + r < 16 ∧ 0 ≤ z50 + c ∧ z50 + c < 32 := q60; omega) (by have i2 : 0 ≤ z40 + r ∧ z40 + r < 16 ∧ 0 ≤ z50 + c ∧ z50 + c < 32 := q60; omega) (by decide) (fun z168 e168 b168 => ?_)
                        refine w_iconst (v := iI (-1)) dX12_fits_169 rfl ?_
                        refine v_icmp_eq 175 dX12_fits_170 (by decide) (by omega) (by omega) (fun c170 => ?_) (fun c170 => ?_)
                        · refine v_iinc dX12_fits_175 rfl rfl rfl ?_
                          refine w_goto 12 dX12_fits_178 (by decide) ?_
                          first
                            | (fail_if_success (have := e24)
                               rw [show (r : Int) + 1 = ((r + 1 : Nat) : Int) by omega]
                               exact ih (r + 1) 0 u (by omega) (by omega) (by omega) (fun y x g1 g2 => hc y x g1 (by omega)) hu1 (fun gu y x g1 g2 => hu2 gu y x g1 (by omega)) hu3)
                            | (fail_if_success (have := e40)
                               have := e24
                               refine w_keep 5 ?_
                               rw [show (c : Int) + 1 = ((c + 1 : Nat) : Int) by omega]
                               have sk : ∀ y x : Int, cA (rce I b) (rd I 178 b) (rd I 179 b) y x ≠ 95 → 10 * (y - rd I 178 b) + (x - rd I 179 b) < 10 * (r : Int) + ((c + 1 : Nat) : Int) → 10 * (y - rd I 178 b) + (x - rd I 179 b) < 10 * (r : Int) + c := fun y x g1 g2 => by
                                 have g3 := cA_ne g1
                                 by_cases g4 : 10 * (y - rd I 178 b) + (x - rd I 179 b) = 10 * r + c
                                 · exfalso
                                   have g5 := g3.2.2.2.2
                                   rw [show (10 * (y - rd I 178 b) + (x - rd I 179 b)).toNat = 10 * r + c by omega, ← f24] at g5
                                   omega
                                 · omega
                               exact ih r (c + 1) u (by omega) (by omega) (by omega) (fun y x g1 g2 => hc y x g1 (sk y x g1 g2)) hu1 (fun gu y x g1 g2 => hu2 gu y x g1 (sk y x g1 g2)) hu3)
                            | (have i2 : 0 ≤ z40 + r ∧ z40 + r < 16 ∧ 0 ≤ z50 + c ∧ z50 + c < 32 := q60
                               refine w_keep 5 ?_
                               rw [show (c : Int) + 1 = ((c + 1 : Nat) : Int) by omega]
                               refine ih r (c + 1) 2 (by omega) (by omega) (by omega) ?_ (by omega) (fun g => by omega) (fun _ => ⟨z40 + r, z50 + c, by rw [cae]; omega, ?_⟩)
                               · intro y x g1 g2
                                 have g3 := cA_ne g1
                                 by_cases g4 : 10 * (y - rd I 178 b) + (x - rd I 179 b) = 10 * r + c
                                 · have y1 : y = z40 + r := by omega
                                   have x1 : x = z50 + c := by omega
                                   refine ⟨by show 0 ≤ y ∧ y < 16 ∧ 0 ≤ x ∧ x < 32; omega, ?_⟩
                                   (try dsimp only)
                                   rw [y1, x1, ← e78]; omega
                                 · exact hc y x g1 (by omega)
                               · first
                                   | exact Or.inr (Or.inr (Or.inr ⟨by omega, (by show rd I 187 _ ≠ -1; rw [← e168]; omega)⟩))
                                   | exact Or.inr (Or.inr (Or.inl ⟨by omega, (by show rd I 187 _ ≠ -1; rw [← e147]; omega)⟩))
                                   | exact Or.inr (Or.inl ⟨by omega, (by show rd I 187 _ ≠ -1; rw [← e128]; omega)⟩)
                                   | exact Or.inl ⟨by omega, (by show rd I 187 _ ≠ -1; rw [← e108]; omega)⟩)
                            | (have i2 : 0 ≤ z40 + r ∧ z40 + r < 16 ∧ 0 ≤ z50 + c ∧ z50 + c < 32 := q60
                               refine w_keep 5 ?_
                               rw [show (c : Int) + 1 = ((c + 1 : Nat) : Int) by omega]
                               refine ih r (c + 1) u (by omega) (by omega) (by omega) ?_ hu1 (fun gu y x g1 g2 => ?_) hu3
                               · intro y x g1 g2
                                 have g3 := cA_ne g1
                                 by_cases g4 : 10 * (y - rd I 178 b) + (x - rd I 179 b) = 10 * r + c
                                 · have y1 : y = z40 + r := by omega
                                   have x1 : x = z50 + c := by omega
                                   refine ⟨by show 0 ≤ y ∧ y < 16 ∧ 0 ≤ x ∧ x < 32; omega, ?_⟩
                                   (try dsimp only)
                                   rw [y1, x1, ← e78]; omega
                                 · exact hc y x g1 (by omega)
                               · have g3 := cA_ne g1
                                 by_cases g4 : 10 * (y - rd I 178 b) + (x - rd I 179 b) = 10 * r + c
                                 · have y1 : y = z40 + r := by omega
                                   have x1 : x = z50 + c := by omega
                                   rw [y1, x1]
                                   rintro (⟨v1, v2⟩ | ⟨v1, v2⟩ | ⟨v1, v2⟩ | ⟨v1, v2⟩)
                                   · first | omega | (have v3 : rd I 187 _ ≠ -1 := v2; rw [← e108] at v3; omega)
                                   · first | omega | (have v3 : rd I 187 _ ≠ -1 := v2; rw [← e128] at v3; omega)
                                   · first | omega | (have v3 : rd I 187 _ ≠ -1 := v2; rw [← e147] at v3; omega)
                                   · first | omega | (have v3 : rd I 187 _ ≠ -1 := v2; rw [← e168] at v3; omega)
                                 · exact hu2 gu y x g1 (by omega))
                        · refine w_iconst (v := iI 2) dX12_fits_173 rfl ?_
                          refine w_istore_n dX12_fits_174 rfl rfl ?_
                          refine v_iinc dX12_fits_175 rfl rfl rfl ?_
                          refine w_goto 12 dX12_fits_178 (by decide) ?_
                          first
                            | (fail_if_success (have := e24)
                               rw [show (r : Int) + 1 = ((r + 1 : Nat) : Int) by omega]
                               exact ih (r + 1) 0 u (by omega) (by omega) (by omega) (fun y x g1 g2 => hc y x g1 (by omega)) hu1 (fun gu y x g1 g2 => hu2 gu y x g1 (by omega)) hu3)
                            | (fail_if_success (have := e40)
                               have := e24
                               refine w_keep 5 ?_
                               rw [show (c : Int) + 1 = ((c + 1 : Nat) : Int) by omega]
                               have sk : ∀ y x : Int, cA (rce I b) (rd I 178 b) (rd I 179 b) y x ≠ 95 → 10 * (y - rd I 178 b) + (x - rd I 179 b) < 10 * (r : Int) + ((c + 1 : Nat) : Int) → 10 * (y - rd I 178 b) + (x - rd I 179 b) < 10 * (r : Int) + c := fun y x g1 g2 => by
                                 have g3 := cA_ne g1
                                 by_cases g4 : 10 * (y - rd I 178 b) + (x - rd I 179 b) = 10 * r + c
                                 · exfalso
                                   have g5 := g3.2.2.2.2
                                   rw [show (10 * (y - rd I 178 b) + (x - rd I 179 b)).toNat = 10 * r + c by omega, ← f24] at g5
                                   omega
                                 · omega
                               exact ih r (c + 1) u (by omega) (by omega) (by omega) (fun y x g1 g2 => hc y x g1 (sk y x g1 g2)) hu1 (fun gu y x g1 g2 => hu2 gu y x g1 (sk y x g1 g2)) hu3)
                            | (have i2 : 0 ≤ z40 + r ∧ z40 + r < 16 ∧ 0 ≤ z50 + c ∧ z50 + c < 32 := q60
                               refine w_keep 5 ?_
                               rw [show (c : Int) + 1 = ((c + 1 : Nat) : Int) by omega]
                               refine ih r (c + 1) 2 (by omega) (by omega) (by omega) ?_ (by omega) (fun g => by omega) (fun _ => ⟨z40 + r, z50 + c, by rw [cae]; omega, ?_⟩)
                               · intro y x g1 g2
                                 have g3 := cA_ne g1
                                 by_cases g4 : 10 * (y - rd I 178 b) + (x - rd I 179 b) = 10 * r + c
                                 · have y1 : y = z40 + r := by omega
                                   have x1 : x = z50 + c := by omega
                                   refine ⟨by show 0 ≤ y ∧ y < 16 ∧ 0 ≤ x ∧ x < 32; omega, ?_⟩
                                   (try dsimp only)
                                   rw [y1, x1, ← e78]; omega
                                 · exact hc y x g1 (by omega)
                               · first
                                   | exact Or.inr (Or.inr (Or.inr ⟨by omega, (by show rd I 187 _ ≠ -1; rw [← e168]; omega)⟩))
                                   | exact Or.inr (Or.inr (Or.inl ⟨by omega, (by show rd I 187 _ ≠ -1; rw [← e147]; omega)⟩))
                                   | exact Or.inr (Or.inl ⟨by omega, (by show rd I 187 _ ≠ -1; rw [← e128]; omega)⟩)
                                   | exact Or.inl ⟨by omega, (by show rd I 187 _ ≠ -1; rw [← e108]; omega)⟩)
                            | (have i2 : 0 ≤ z40 + r ∧ z40 + r < 16 ∧ 0 ≤ z50 + c ∧ z50 + c < 32 := q60
                               refine w_keep 5 ?_
                               rw [show (c : Int) + 1 = ((c + 1 : Nat) : Int) by omega]
                               refine ih r (c + 1) u (by omega) (by omega) (by omega) ?_ hu1 (fun gu y x g1 g2 => ?_) hu3
                               · intro y x g1 g2
                                 have g3 := cA_ne g1
                                 by_cases g4 : 10 * (y - rd I 178 b) + (x - rd I 179 b) = 10 * r + c
                                 · have y1 : y = z40 + r := by omega
                                   have x1 : x = z50 + c := by omega
                                   refine ⟨by show 0 ≤ y ∧ y < 16 ∧ 0 ≤ x ∧ x < 32; omega, ?_⟩
                                   (try dsimp only)
                                   rw [y1, x1, ← e78]; omega
                                 · exact hc y x g1 (by omega)
                               · have g3 := cA_ne g1
                                 by_cases g4 : 10 * (y - rd I 178 b) + (x - rd I 179 b) = 10 * r + c
                                 · have y1 : y = z40 + r := by omega
                                   have x1 : x = z50 + c := by omega
                                   rw [y1, x1]
                                   rintro (⟨v1, v2⟩ | ⟨v1, v2⟩ | ⟨v1, v2⟩ | ⟨v1, v2⟩)
                                   · first | omega | (have v3 : rd I 187 _ ≠ -1 := v2; rw [← e108] at v3; omega)
                                   · first | omega | (have v3 : rd I 187 _ ≠ -1 := v2; rw [← e128] at v3; omega)
                                   · first | omega | (have v3 : rd I 187 _ ≠ -1 := v2; rw [← e147] at v3; omega)
                                   · first | omega | (have v3 : rd I 187 _ ≠ -1 := v2; rw [← e168] at v3; omega)
                                 · exact hu2 gu y x g1 (by omega))
            · refine w_aload_n dX12_fits_100 rfl ?_
              refine v_getR (j := 187) dX12_fits_101 fX12_56 ⟨by decide, rfl⟩ rfl rfl ?_
              refine w_iload dX12_fits_104 rfl ?_
              refine w_iconst (v := iI 1) dX12_fits_106 rfl ?_
              refine v_isub dX12_fits_107 ?_
              refine v_iald dX12_fits_108 ⟨by decide, rfl⟩ (by have i2 : 0 ≤ z40 + r ∧ z40 + r < 16 ∧ 0 ≤ z50 + c ∧ z50 + c < 32 := q60; omega) (by have i2 : 0 ≤ z40 + r ∧ z40 + r < 16 ∧ 0 ≤ z50 + c ∧ z50 + c < 32 := q60; omega) (by decide) (fun z108 e108 b108 => ?_)
              refine w_iconst (v := iI (-1)) dX12_fits_109 rfl ?_
              refine v_icmp_ne 173 dX12_fits_110 (by decide) (by omega) (by omega) (fun c110 => ?_) (fun c110 => ?_)
              · refine w_iconst (v := iI 2) dX12_fits_173 rfl ?_
                refine w_istore_n dX12_fits_174 rfl rfl ?_
                refine v_iinc dX12_fits_175 rfl rfl rfl ?_
                refine w_goto 12 dX12_fits_178 (by decide) ?_
                first
                  | (fail_if_success (have := e24)
                     rw [show (r : Int) + 1 = ((r + 1 : Nat) : Int) by omega]
                     exact ih (r + 1) 0 u (by omega) (by omega) (by omega) (fun y x g1 g2 => hc y x g1 (by omega)) hu1 (fun gu y x g1 g2 => hu2 gu y x g1 (by omega)) hu3)
                  | (fail_if_success (have := e40)
                     have := e24
                     refine w_keep 5 ?_
                     rw [show (c : Int) + 1 = ((c + 1 : Nat) : Int) by omega]
                     have sk : ∀ y x : Int, cA (rce I b) (rd I 178 b) (rd I 179 b) y x ≠ 95 → 10 * (y - rd I 178 b) + (x - rd I 179 b) < 10 * (r : Int) + ((c + 1 : Nat) : Int) → 10 * (y - rd I 178 b) + (x - rd I 179 b) < 10 * (r : Int) + c := fun y x g1 g2 => by
                       have g3 := cA_ne g1
                       by_cases g4 : 10 * (y - rd I 178 b) + (x - rd I 179 b) = 10 * r + c
                       · exfalso
                         have g5 := g3.2.2.2.2
                         rw [show (10 * (y - rd I 178 b) + (x - rd I 179 b)).toNat = 10 * r + c by omega, ← f24] at g5
                         omega
                       · omega
                     exact ih r (c + 1) u (by omega) (by omega) (by omega) (fun y x g1 g2 => hc y x g1 (sk y x g1 g2)) hu1 (fun gu y x g1 g2 => hu2 gu y x g1 (sk y x g1 g2)) hu3)
                  | (have i2 : 0 ≤ z40 + r ∧ z40 + r < 16 ∧ 0 ≤ z50 + c ∧ z50 + c < 32 := q60
                     refine w_keep 5 ?_
                     rw [show (c : Int) + 1 = ((c + 1 : Nat) : Int) by omega]
                     refine ih r (c + 1) 2 (by omega) (by omega) (by omega) ?_ (by omega) (fun g => by omega) (fun _ => ⟨z40 + r, z50 + c, by rw [cae]; omega, ?_⟩)
                     · intro y x g1 g2
                       have g3 := cA_ne g1
                       by_cases g4 : 10 * (y - rd I 178 b) + (x - rd I 179 b) = 10 * r + c
                       · have y1 : y = z40 + r := by omega
                         have x1 : x = z50 + c := by omega
                         refine ⟨by show 0 ≤ y ∧ y < 16 ∧ 0 ≤ x ∧ x < 32; omega, ?_⟩
                         (try dsimp only)
                         rw [y1, x1, ← e78]; omega
                       · exact hc y x g1 (by omega)
                     · first
                         | exact Or.inr (Or.inr (Or.inr ⟨by omega, (by show rd I 187 _ ≠ -1; rw [← e168]; omega)⟩))
                         | exact Or.inr (Or.inr (Or.inl ⟨by omega, (by show rd I 187 _ ≠ -1; rw [← e147]; omega)⟩))
                         | exact Or.inr (Or.inl ⟨by omega, (by show rd I 187 _ ≠ -1; rw [← e128]; omega)⟩)
                         | exact Or.inl ⟨by omega, (by show rd I 187 _ ≠ -1; rw [← e108]; omega)⟩)
                  | (have i2 : 0 ≤ z40 + r ∧ z40 + r < 16 ∧ 0 ≤ z50 + c ∧ z50 + c < 32 := q60
                     refine w_keep 5 ?_
                     rw [show (c : Int) + 1 = ((c + 1 : Nat) : Int) by omega]
                     refine ih r (c + 1) u (by omega) (by omega) (by omega) ?_ hu1 (fun gu y x g1 g2 => ?_) hu3
                     · intro y x g1 g2
                       have g3 := cA_ne g1
                       by_cases g4 : 10 * (y - rd I 178 b) + (x - rd I 179 b) = 10 * r + c
                       · have y1 : y = z40 + r := by omega
                         have x1 : x = z50 + c := by omega
                         refine ⟨by show 0 ≤ y ∧ y < 16 ∧ 0 ≤ x ∧ x < 32; omega, ?_⟩
                         (try dsimp only)
                         rw [y1, x1, ← e78]; omega
                       · exact hc y x g1 (by omega)
                     · have g3 := cA_ne g1
                       by_cases g4 : 10 * (y - rd I 178 b) + (x - rd I 179 b) = 10 * r + c
                       · have y1 : y = z40 + r := by omega
                         have x1 : x = z50 + c := by omega
                         rw [y1, x1]
                         rintro (⟨v1, v2⟩ | ⟨v1, v2⟩ | ⟨v1, v2⟩ | ⟨v1, v2⟩)
                         · first | omega | (have v3 : rd I 187 _ ≠ -1 := v2; rw [← e108] at v3; omega)
                         · first | omega | (have v3 : rd I 187 _ ≠ -1 := v2; rw [← e128] at v3; omega)
                         · first | omega | (have v3 : rd I 187 _ ≠ -1 := v2; rw [← e147] at v3; omega)
                         · first | omega | (have v3 : rd I 187 _ ≠ -1 := v2; rw [← e168] at v3; omega)
                       · exact hu2 gu y x g1 (by omega))
              · refine w_iload dX12_fits_113 rfl ?_
                refine w_bipush (v := iI 31) dX12_fits_115 (by decide) ?_
                refine v_icmp_ge 133 dX12_fits_117 (by decide) (by omega) (by omega) (fun c117 => ?_) (fun c117 => ?_)
                · refine w_iload dX12_fits_133 rfl ?_
                  refine v_if_le 152 dX12_fits_135 (by decide) (by omega) (fun c135 => ?_) (fun c135 => ?_)
                  · refine w_iload dX12_fits_152 rfl ?_
                    refine w_bipush (v := iI 15) dX12_fits_154 (by decide) ?_
                    refine v_icmp_ge 175 dX12_fits_156 (by decide) (by omega) (by omega) (fun c156 => ?_) (fun c156 => ?_)
                    · refine v_iinc dX12_fits_175 rfl rfl rfl ?_
                      refine w_goto 12 dX12_fits_178 (by decide) ?_
                      first
                        | (fail_if_success (have := e24)
                           rw [show (r : Int) + 1 = ((r + 1 : Nat) : Int) by omega]
                           exact ih (r + 1) 0 u (by omega) (by omega) (by omega) (fun y x g1 g2 => hc y x g1 (by omega)) hu1 (fun gu y x g1 g2 => hu2 gu y x g1 (by omega)) hu3)
                        | (fail_if_success (have := e40)
                           have := e24
                           refine w_keep 5 ?_
                           rw [show (c : Int) + 1 = ((c + 1 : Nat) : Int) by omega]
                           have sk : ∀ y x : Int, cA (rce I b) (rd I 178 b) (rd I 179 b) y x ≠ 95 → 10 * (y - rd I 178 b) + (x - rd I 179 b) < 10 * (r : Int) + ((c + 1 : Nat) : Int) → 10 * (y - rd I 178 b) + (x - rd I 179 b) < 10 * (r : Int) + c := fun y x g1 g2 => by
                             have g3 := cA_ne g1
                             by_cases g4 : 10 * (y - rd I 178 b) + (x - rd I 179 b) = 10 * r + c
                             · exfalso
                               have g5 := g3.2.2.2.2
                               rw [show (10 * (y - rd I 178 b) + (x - rd I 179 b)).toNat = 10 * r + c by omega, ← f24] at g5
                               omega
                             · omega
                           exact ih r (c + 1) u (by omega) (by omega) (by omega) (fun y x g1 g2 => hc y x g1 (sk y x g1 g2)) hu1 (fun gu y x g1 g2 => hu2 gu y x g1 (sk y x g1 g2)) hu3)
                        | (have i2 : 0 ≤ z40 + r ∧ z40 + r < 16 ∧ 0 ≤ z50 + c ∧ z50 + c < 32 := q60
                           refine w_keep 5 ?_
                           rw [show (c : Int) + 1 = ((c + 1 : Nat) : Int) by omega]
                           refine ih r (c + 1) 2 (by omega) (by omega) (by omega) ?_ (by omega) (fun g => by omega) (fun _ => ⟨z40 + r, z50 + c, by rw [cae]; omega, ?_⟩)
                           · intro y x g1 g2
                             have g3 := cA_ne g1
                             by_cases g4 : 10 * (y - rd I 178 b) + (x - rd I 179 b) = 10 * r + c
                             · have y1 : y = z40 + r := by omega
                               have x1 : x = z50 + c := by omega
                               refine ⟨by show 0 ≤ y ∧ y < 16 ∧ 0 ≤ x ∧ x < 32; omega, ?_⟩
                               (try dsimp only)
                               rw [y1, x1, ← e78]; omega
                             · exact hc y x g1 (by omega)
                           · first
                               | exact Or.inr (Or.inr (Or.inr ⟨by omega, (by show rd I 187 _ ≠ -1; rw [← e168]; omega)⟩))
                               | exact Or.inr (Or.inr (Or.inl ⟨by omega, (by show rd I 187 _ ≠ -1; rw [← e147]; omega)⟩))
                               | exact Or.inr (Or.inl ⟨by omega, (by show rd I 187 _ ≠ -1; rw [← e128]; omega)⟩)
                               | exact Or.inl ⟨by omega, (by show rd I 187 _ ≠ -1; rw [← e108]; omega)⟩)
                        | (have i2 : 0 ≤ z40 + r ∧ z40 + r < 16 ∧ 0 ≤ z50 + c ∧ z50 + c < 32 := q60
                           refine w_keep 5 ?_
                           rw [show (c : Int) + 1 = ((c + 1 : Nat) : Int) by omega]
                           refine ih r (c + 1) u (by omega) (by omega) (by omega) ?_ hu1 (fun gu y x g1 g2 => ?_) hu3
                           · intro y x g1 g2
                             have g3 := cA_ne g1
                             by_cases g4 : 10 * (y - rd I 178 b) + (x - rd I 179 b) = 10 * r + c
                             · have y1 : y = z40 + r := by omega
                               have x1 : x = z50 + c := by omega
                               refine ⟨by show 0 ≤ y ∧ y < 16 ∧ 0 ≤ x ∧ x < 32; omega, ?_⟩
                               (try dsimp only)
                               rw [y1, x1, ← e78]; omega
                             · exact hc y x g1 (by omega)
                           · have g3 := cA_ne g1
                             by_cases g4 : 10 * (y - rd I 178 b) + (x - rd I 179 b) = 10 * r + c
                             · have y1 : y = z40 + r := by omega
                               have x1 : x = z50 + c := by omega
                               rw [y1, x1]
                               rintro (⟨v1, v2⟩ | ⟨v1, v2⟩ | ⟨v1, v2⟩ | ⟨v1, v2⟩)
                               · first | omega | (have v3 : rd I 187 _ ≠ -1 := v2; rw [← e108] at v3; omega)
                               · first | omega | (have v3 : rd I 187 _ ≠ -1 := v2; rw [← e128] at v3; omega)
                               · first | omega | (have v3 : rd I 187 _ ≠ -1 := v2; rw [← e147] at v3; omega)
                               · first | omega | (have v3 : rd I 187 _ ≠ -1 := v2; rw [← e168] at v3; omega)
                             · exact hu2 gu y x g1 (by omega))
                    · refine w_aload_n dX12_fits_159 rfl ?_
                      refine v_getR (j := 187) dX12_fits_160 fX12_56 ⟨by decide, rfl⟩ rfl rfl ?_
                      refine w_iload dX12_fits_163 rfl ?_
                      refine w_bipush (v := iI 32) dX12_fits_165 (by decide) ?_
                      refine v_iadd dX12_fits_167 ?_
                      refine v_iald dX12_fits_168 ⟨by decide, rfl⟩ (by have i2 : 0 ≤ z40 + r ∧ z40 + r < 16 ∧ 0 ≤ z50 + c ∧ z50 + c < 32 := q60; omega) (by have i2 : 0 ≤ z40 + r ∧ z40 + r < 16 ∧ 0 ≤ z50 + c ∧ z50 + c < 32 := q60; omega) (by decide) (fun z168 e168 b168 => ?_)
                      refine w_iconst (v := iI (-1)) dX12_fits_169 rfl ?_
                      refine v_icmp_eq 175 dX12_fits_170 (by decide) (by omega) (by omega) (fun c170 => ?_) (fun c170 => ?_)
                      · refine v_iinc dX12_fits_175 rfl rfl rfl ?_
                        refine w_goto 12 dX12_fits_178 (by decide) ?_
                        first
                          | (fail_if_success (have := e24)
                             rw [show (r : Int) + 1 = ((r + 1 : Nat) : Int) by omega]
                             exact ih (r + 1) 0 u (by omega) (by omega) (by omega) (fun y x g1 g2 => hc y x g1 (by omega)) hu1 (fun gu y x g1 g2 => hu2 gu y x g1 (by omega)) hu3)
                          | (fail_if_success (have := e40)
                             have := e24
                             refine w_keep 5 ?_
                             rw [show (c : Int) + 1 = ((c + 1 : Nat) : Int) by omega]
                             have sk : ∀ y x : Int, cA (rce I b) (rd I 178 b) (rd I 179 b) y x ≠ 95 → 10 * (y - rd I 178 b) + (x - rd I 179 b) < 10 * (r : Int) + ((c + 1 : Nat) : Int) → 10 * (y - rd I 178 b) + (x - rd I 179 b) < 10 * (r : Int) + c := fun y x g1 g2 => by
                               have g3 := cA_ne g1
                               by_cases g4 : 10 * (y - rd I 178 b) + (x - rd I 179 b) = 10 * r + c
                               · exfalso
                                 have g5 := g3.2.2.2.2
                                 rw [show (10 * (y - rd I 178 b) + (x - rd I 179 b)).toNat = 10 * r + c by omega, ← f24] at g5
                                 omega
                               · omega
                             exact ih r (c + 1) u (by omega) (by omega) (by omega) (fun y x g1 g2 => hc y x g1 (sk y x g1 g2)) hu1 (fun gu y x g1 g2 => hu2 gu y x g1 (sk y x g1 g2)) hu3)
                          | (have i2 : 0 ≤ z40 + r ∧ z40 + r < 16 ∧ 0 ≤ z50 + c ∧ z50 + c < 32 := q60
                             refine w_keep 5 ?_
                             rw [show (c : Int) + 1 = ((c + 1 : Nat) : Int) by omega]
                             refine ih r (c + 1) 2 (by omega) (by omega) (by omega) ?_ (by omega) (fun g => by omega) (fun _ => ⟨z40 + r, z50 + c, by rw [cae]; omega, ?_⟩)
                             · intro y x g1 g2
                               have g3 := cA_ne g1
                               by_cases g4 : 10 * (y - rd I 178 b) + (x - rd I 179 b) = 10 * r + c
                               · have y1 : y = z40 + r := by omega
                                 have x1 : x = z50 + c := by omega
                                 refine ⟨by show 0 ≤ y ∧ y < 16 ∧ 0 ≤ x ∧ x < 32; omega, ?_⟩
                                 (try dsimp only)
                                 rw [y1, x1, ← e78]; omega
                               · exact hc y x g1 (by omega)
                             · first
                                 | exact Or.inr (Or.inr (Or.inr ⟨by omega, (by show rd I 187 _ ≠ -1; rw [← e168]; omega)⟩))
                                 | exact Or.inr (Or.inr (Or.inl ⟨by omega, (by show rd I 187 _ ≠ -1; rw [← e147]; omega)⟩))
                                 | exact Or.inr (Or.inl ⟨by omega, (by show rd I 187 _ ≠ -1; rw [← e128]; omega)⟩)
                                 | exact Or.inl ⟨by omega, (by show rd I 187 _ ≠ -1; rw [← e108]; omega)⟩)
                          | (have i2 : 0 ≤ z40 + r ∧ z40 + r < 16 ∧ 0 ≤ z50 + c ∧ z50 + c < 32 := q60
                             refine w_keep 5 ?_
                             rw [show (c : Int) + 1 = ((c + 1 : Nat) : Int) by omega]
                             refine ih r (c + 1) u (by omega) (by omega) (by omega) ?_ hu1 (fun gu y x g1 g2 => ?_) hu3
                             · intro y x g1 g2
                               have g3 := cA_ne g1
                               by_cases g4 : 10 * (y - rd I 178 b) + (x - rd I 179 b) = 10 * r + c
                               · have y1 : y = z40 + r := by omega
                                 have x1 : x = z50 + c := by omega
                                 refine ⟨by show 0 ≤ y ∧ y < 16 ∧ 0 ≤ x ∧ x < 32; omega, ?_⟩
                                 (try dsimp only)
                                 rw [y1, x1, ← e78]; omega
                               · exact hc y x g1 (by omega)
                             · have g3 := cA_ne g1
                               by_cases g4 : 10 * (y - rd I 178 b) + (x - rd I 179 b) = 10 * r + c
                               · have y1 : y = z40 + r := by omega
                                 have x1 : x = z50 + c := by omega
                                 rw [y1, x1]
                                 rintro (⟨v1, v2⟩ | ⟨v1, v2⟩ | ⟨v1, v2⟩ | ⟨v1, v2⟩)
                                 · first | omega | (have v3 : rd I 187 _ ≠ -1 := v2; rw [← e108] at v3; omega)
                                 · first | omega | (have v3 : rd I 187 _ ≠ -1 := v2; rw [← e128] at v3; omega)
                                 · first | omega | (have v3 : rd I 187 _ ≠ -1 := v2; rw [← e147] at v3; omega)
                                 · first | omega | (have v3 : rd I 187 _ ≠ -1 := v2; rw [← e168] at v3; omega)
                               · exact hu2 gu y x g1 (by omega))
                      · refine w_iconst (v := iI 2) dX12_fits_173 rfl ?_
                        refine w_istore_n dX12_fits_174 rfl rfl ?_
                        refine v_iinc dX12_fits_175 rfl rfl rfl ?_
                        refine w_goto 12 dX12_fits_178 (by decide) ?_
                        first
                          | (fail_if_success (have := e24)
                             rw [show (r : Int) + 1 = ((r + 1 : Nat) : Int) by omega]
                             exact ih (r + 1) 0 u (by omega) (by omega) (by omega) (fun y x g1 g2 => hc y x g1 (by omega)) hu1 (fun gu y x g1 g2 => hu2 gu y x g1 (by omega)) hu3)
                          | (fail_if_success (have := e40)
                             have := e24
                             refine w_keep 5 ?_
                             rw [show (c : Int) + 1 = ((c + 1 : Nat) : Int) by omega]
                             have sk : ∀ y x : Int, cA (rce I b) (rd I 178 b) (rd I 179 b) y x ≠ 95 → 10 * (y - rd I 178 b) + (x - rd I 179 b) < 10 * (r : Int) + ((c + 1 : Nat) : Int) → 10 * (y - rd I 178 b) + (x - rd I 179 b) < 10 * (r : Int) + c := fun y x g1 g2 => by
                               have g3 := cA_ne g1
                               by_cases g4 : 10 * (y - rd I 178 b) + (x - rd I 179 b) = 10 * r + c
                               · exfalso
                                 have g5 := g3.2.2.2.2
                                 rw [show (10 * (y - rd I 178 b) + (x - rd I 179 b)).toNat = 10 * r + c by omega, ← f24] at g5
                                 omega
                               · omega
                             exact ih r (c + 1) u (by omega) (by omega) (by omega) (fun y x g1 g2 => hc y x g1 (sk y x g1 g2)) hu1 (fun gu y x g1 g2 => hu2 gu y x g1 (sk y x g1 g2)) hu3)
                          | (have i2 : 0 ≤ z40 + r ∧ z40 + r < 16 ∧ 0 ≤ z50 + c ∧ z50 + c < 32 := q60
                             refine w_keep 5 ?_
                             rw [show (c : Int) + 1 = ((c + 1 : Nat) : Int) by omega]
                             refine ih r (c + 1) 2 (by omega) (by omega) (by omega) ?_ (by omega) (fun g => by omega) (fun _ => ⟨z40 + r, z50 + c, by rw [cae]; omega, ?_⟩)
                             · intro y x g1 g2
                               have g3 := cA_ne g1
                               by_cases g4 : 10 * (y - rd I 178 b) + (x - rd I 179 b) = 10 * r + c
                               · have y1 : y = z40 + r := by omega
                                 have x1 : x = z50 + c := by omega
                                 refine ⟨by show 0 ≤ y ∧ y < 16 ∧ 0 ≤ x ∧ x < 32; omega, ?_⟩
                                 (try dsimp only)
                                 rw [y1, x1, ← e78]; omega
                               · exact hc y x g1 (by omega)
                             · first
                                 | exact Or.inr (Or.inr (Or.inr ⟨by omega, (by show rd I 187 _ ≠ -1; rw [← e168]; omega)⟩))
                                 | exact Or.inr (Or.inr (Or.inl ⟨by omega, (by show rd I 187 _ ≠ -1; rw [← e147]; omega)⟩))
                                 | exact Or.inr (Or.inl ⟨by omega, (by show rd I 187 _ ≠ -1; rw [← e128]; omega)⟩)
                                 | exact Or.inl ⟨by omega, (by show rd I 187 _ ≠ -1; rw [← e108]; omega)⟩)
                          | (have i2 : 0 ≤ z40 + r ∧ z40 + r < 16 ∧ 0 ≤ z50 + c ∧ z50 + c < 32 := q60
                             refine w_keep 5 ?_
                             rw [show (c : Int) + 1 = ((c + 1 : Nat) : Int) by omega]
                             refine ih r (c + 1) u (by omega) (by omega) (by omega) ?_ hu1 (fun gu y x g1 g2 => ?_) hu3
                             · intro y x g1 g2
                               have g3 := cA_ne g1
                               by_cases g4 : 10 * (y - rd I 178 b) + (x - rd I 179 b) = 10 * r + c
                               · have y1 : y = z40 + r := by omega
                                 have x1 : x = z50 + c := by omega
                                 refine ⟨by show 0 ≤ y ∧ y < 16 ∧ 0 ≤ x ∧ x < 32; omega, ?_⟩
                                 (try dsimp only)
                                 rw [y1, x1, ← e78]; omega
                               · exact hc y x g1 (by omega)
                             · have g3 := cA_ne g1
                               by_cases g4 : 10 * (y - rd I 178 b) + (x - rd I 179 b) = 10 * r + c
                               · have y1 : y = z40 + r := by omega
                                 have x1 : x = z50 + c := by omega
                                 rw [y1, x1]
                                 rintro (⟨v1, v2⟩ | ⟨v1, v2⟩ | ⟨v1, v2⟩ | ⟨v1, v2⟩)
                                 · first | omega | (have v3 : rd I 187 _ ≠ -1 := v2; rw [← e108] at v3; omega)
                                 · first | omega | (have v3 : rd I 187 _ ≠ -1 := v2; rw [← e128] at v3; omega)
                                 · first | omega | (have v3 : rd I 187 _ ≠ -1 := v2; rw [← e147] at v3; omega)
                                 · first | omega | (have v3 : rd I 187 _ ≠ -1 := v2; rw [← e168] at v3; omega)
                               · exact hu2 gu y x g1 (by omega))
                  · refine w_aload_n dX12_fits_138 rfl ?_
                    refine v_getR (j := 187) dX12_fits_139 fX12_56 ⟨by decide, rfl⟩ rfl rfl ?_
                    refine w_iload dX12_fits_142 rfl ?_
                    refine w_bipush (v := iI 32) dX12_fits_144 (by decide) ?_
                    refine v_isub dX12_fits_146 ?_
                    refine v_iald dX12_fits_147 ⟨by decide, rfl⟩ (by have i2 : 0 ≤ z40 + r ∧ z40 + r < 16 ∧ 0 ≤ z50 + c ∧ z50 + c < 32 := q60; omega) (by have i2 : 0 ≤ z40 + r ∧ z40 + r < 16 ∧ 0 ≤ z50 + c ∧ z50 + c < 32 := q60; omega) (by decide) (fun z147 e147 b147 => ?_)
                    refine w_iconst (v := iI (-1)) dX12_fits_148 rfl ?_
                    refine v_icmp_ne 173 dX12_fits_149 (by decide) (by omega) (by omega) (fun c149 => ?_) (fun c149 => ?_)
                    · refine w_iconst (v := iI 2) dX12_fits_173 rfl ?_
                      refine w_istore_n dX12_fits_174 rfl rfl ?_
                      refine v_iinc dX12_fits_175 rfl rfl rfl ?_
                      refine w_goto 12 dX12_fits_178 (by decide) ?_
                      first
                        | (fail_if_success (have := e24)
                           rw [show (r : Int) + 1 = ((r + 1 : Nat) : Int) by omega]
                           exact ih (r + 1) 0 u (by omega) (by omega) (by omega) (fun y x g1 g2 => hc y x g1 (by omega)) hu1 (fun gu y x g1 g2 => hu2 gu y x g1 (by omega)) hu3)
                        | (fail_if_success (have := e40)
                           have := e24
                           refine w_keep 5 ?_
                           rw [show (c : Int) + 1 = ((c + 1 : Nat) : Int) by omega]
                           have sk : ∀ y x : Int, cA (rce I b) (rd I 178 b) (rd I 179 b) y x ≠ 95 → 10 * (y - rd I 178 b) + (x - rd I 179 b) < 10 * (r : Int) + ((c + 1 : Nat) : Int) → 10 * (y - rd I 178 b) + (x - rd I 179 b) < 10 * (r : Int) + c := fun y x g1 g2 => by
                             have g3 := cA_ne g1
                             by_cases g4 : 10 * (y - rd I 178 b) + (x - rd I 179 b) = 10 * r + c
                             · exfalso
                               have g5 := g3.2.2.2.2
                               rw [show (10 * (y - rd I 178 b) + (x - rd I 179 b)).toNat = 10 * r + c by omega, ← f24] at g5
                               omega
                             · omega
                           exact ih r (c + 1) u (by omega) (by omega) (by omega) (fun y x g1 g2 => hc y x g1 (sk y x g1 g2)) hu1 (fun gu y x g1 g2 => hu2 gu y x g1 (sk y x g1 g2)) hu3)
                        | (have i2 : 0 ≤ z40 + r ∧ z40 + r < 16 ∧ 0 ≤ z50 + c ∧ z50 + c < 32 := q60
                           refine w_keep 5 ?_
                           rw [show (c : Int) + 1 = ((c + 1 : Nat) : Int) by omega]
                           refine ih r (c + 1) 2 (by omega) (by omega) (by omega) ?_ (by omega) (fun g => by omega) (fun _ => ⟨z40 + r, z50 + c, by rw [cae]; omega, ?_⟩)
                           · intro y x g1 g2
                             have g3 := cA_ne g1
                             by_cases g4 : 10 * (y - rd I 178 b) + (x - rd I 179 b) = 10 * r + c
                             · have y1 : y = z40 + r := by omega
                               have x1 : x = z50 + c := by omega
                               refine ⟨by show 0 ≤ y ∧ y < 16 ∧ 0 ≤ x ∧ x < 32; omega, ?_⟩
                               (try dsimp only)
                               rw [y1, x1, ← e78]; omega
                             · exact hc y x g1 (by omega)
                           · first
                               | exact Or.inr (Or.inr (Or.inr ⟨by omega, (by show rd I 187 _ ≠ -1; rw [← e168]; omega)⟩))
                               | exact Or.inr (Or.inr (Or.inl ⟨by omega, (by show rd I 187 _ ≠ -1; rw [← e147]; omega)⟩))
                               | exact Or.inr (Or.inl ⟨by omega, (by show rd I 187 _ ≠ -1; rw [← e128]; omega)⟩)
                               | exact Or.inl ⟨by omega, (by show rd I 187 _ ≠ -1; rw [← e108]; omega)⟩)
                        | (have i2 : 0 ≤ z40 + r ∧ z40 + r < 16 ∧ 0 ≤ z50 + c ∧ z50 + c < 32 := q60
                           refine w_keep 5 ?_
                           rw [show (c : Int) + 1 = ((c + 1 : Nat) : Int) by omega]
                           refine ih r (c + 1) u (by omega) (by omega) (by omega) ?_ hu1 (fun gu y x g1 g2 => ?_) hu3
                           · intro y x g1 g2
                             have g3 := cA_ne g1
                             by_cases g4 : 10 * (y - rd I 178 b) + (x - rd I 179 b) = 10 * r + c
                             · have y1 : y = z40 + r := by omega
                               have x1 : x = z50 + c := by omega
                               refine ⟨by show 0 ≤ y ∧ y < 16 ∧ 0 ≤ x ∧ x < 32; omega, ?_⟩
                               (try dsimp only)
                               rw [y1, x1, ← e78]; omega
                             · exact hc y x g1 (by omega)
                           · have g3 := cA_ne g1
                             by_cases g4 : 10 * (y - rd I 178 b) + (x - rd I 179 b) = 10 * r + c
                             · have y1 : y = z40 + r := by omega
                               have x1 : x = z50 + c := by omega
                               rw [y1, x1]
                               rintro (⟨v1, v2⟩ | ⟨v1, v2⟩ | ⟨v1, v2⟩ | ⟨v1, v2⟩)
                               · first | omega | (have v3 : rd I 187 _ ≠ -1 := v2; rw [← e108] at v3; omega)
                               · first | omega | (have v3 : rd I 187 _ ≠ -1 := v2; rw [← e128] at v3; omega)
                               · first | omega | (have v3 : rd I 187 _ ≠ -1 := v2; rw [← e147] at v3; omega)
                               · first | omega | (have v3 : rd I 187 _ ≠ -1 := v2; rw [← e168] at v3; omega)
                             · exact hu2 gu y x g1 (by omega))
                    · refine w_iload dX12_fits_152 rfl ?_
                      refine w_bipush (v := iI 15) dX12_fits_154 (by decide) ?_
                      refine v_icmp_ge 175 dX12_fits_156 (by decide) (by omega) (by omega) (fun c156 => ?_) (fun c156 => ?_)
                      · refine v_iinc dX12_fits_175 rfl rfl rfl ?_
                        refine w_goto 12 dX12_fits_178 (by decide) ?_
                        first
                          | (fail_if_success (have := e24)
                             rw [show (r : Int) + 1 = ((r + 1 : Nat) : Int) by omega]
                             exact ih (r + 1) 0 u (by omega) (by omega) (by omega) (fun y x g1 g2 => hc y x g1 (by omega)) hu1 (fun gu y x g1 g2 => hu2 gu y x g1 (by omega)) hu3)
                          | (fail_if_success (have := e40)
                             have := e24
                             refine w_keep 5 ?_
                             rw [show (c : Int) + 1 = ((c + 1 : Nat) : Int) by omega]
                             have sk : ∀ y x : Int, cA (rce I b) (rd I 178 b) (rd I 179 b) y x ≠ 95 → 10 * (y - rd I 178 b) + (x - rd I 179 b) < 10 * (r : Int) + ((c + 1 : Nat) : Int) → 10 * (y - rd I 178 b) + (x - rd I 179 b) < 10 * (r : Int) + c := fun y x g1 g2 => by
                               have g3 := cA_ne g1
                               by_cases g4 : 10 * (y - rd I 178 b) + (x - rd I 179 b) = 10 * r + c
                               · exfalso
                                 have g5 := g3.2.2.2.2
                                 rw [show (10 * (y - rd I 178 b) + (x - rd I 179 b)).toNat = 10 * r + c by omega, ← f24] at g5
                                 omega
                               · omega
                             exact ih r (c + 1) u (by omega) (by omega) (by omega) (fun y x g1 g2 => hc y x g1 (sk y x g1 g2)) hu1 (fun gu y x g1 g2 => hu2 gu y x g1 (sk y x g1 g2)) hu3)
                          | (have i2 : 0 ≤ z40 + r ∧ z40 + r < 16 ∧ 0 ≤ z50 + c ∧ z50 + c < 32 := q60
                             refine w_keep 5 ?_
                             rw [show (c : Int) + 1 = ((c + 1 : Nat) : Int) by omega]
                             refine ih r (c + 1) 2 (by omega) (by omega) (by omega) ?_ (by omega) (fun g => by omega) (fun _ => ⟨z40 + r, z50 + c, by rw [cae]; omega, ?_⟩)
                             · intro y x g1 g2
                               have g3 := cA_ne g1
                               by_cases g4 : 10 * (y - rd I 178 b) + (x - rd I 179 b) = 10 * r + c
                               · have y1 : y = z40 + r := by omega
                                 have x1 : x = z50 + c := by omega
                                 refine ⟨by show 0 ≤ y ∧ y < 16 ∧ 0 ≤ x ∧ x < 32; omega, ?_⟩
                                 (try dsimp only)
                                 rw [y1, x1, ← e78]; omega
                               · exact hc y x g1 (by omega)
                             · first
                                 | exact Or.inr (Or.inr (Or.inr ⟨by omega, (by show rd I 187 _ ≠ -1; rw [← e168]; omega)⟩))
                                 | exact Or.inr (Or.inr (Or.inl ⟨by omega, (by show rd I 187 _ ≠ -1; rw [← e147]; omega)⟩))
                                 | exact Or.inr (Or.inl ⟨by omega, (by show rd I 187 _ ≠ -1; rw [← e128]; omega)⟩)
                                 | exact Or.inl ⟨by omega, (by show rd I 187 _ ≠ -1; rw [← e108]; omega)⟩)
                          | (have i2 : 0 ≤ z40 + r ∧ z40 + r < 16 ∧ 0 ≤ z50 + c ∧ z50 + c < 32 := q60
                             refine w_keep 5 ?_
                             rw [show (c : Int) + 1 = ((c + 1 : Nat) : Int) by omega]
                             refine ih r (c + 1) u (by omega) (by omega) (by omega) ?_ hu1 (fun gu y x g1 g2 => ?_) hu3
                             · intro y x g1 g2
                               have g3 := cA_ne g1
                               by_cases g4 : 10 * (y - rd I 178 b) + (x - rd I 179 b) = 10 * r + c
                               · have y1 : y = z40 + r := by omega
                                 have x1 : x = z50 + c := by omega
                                 refine ⟨by show 0 ≤ y ∧ y < 16 ∧ 0 ≤ x ∧ x < 32; omega, ?_⟩
                                 (try dsimp only)
                                 rw [y1, x1, ← e78]; omega
                               · exact hc y x g1 (by omega)
                             · have g3 := cA_ne g1
                               by_cases g4 : 10 * (y - rd I 178 b) + (x - rd I 179 b) = 10 * r + c
                               · have y1 : y = z40 + r := by omega
                                 have x1 : x = z50 + c := by omega
                                 rw [y1, x1]
                                 rintro (⟨v1, v2⟩ | ⟨v1, v2⟩ | ⟨v1, v2⟩ | ⟨v1, v2⟩)
                                 · first | omega | (have v3 : rd I 187 _ ≠ -1 := v2; rw [← e108] at v3; omega)
                                 · first | omega | (have v3 : rd I 187 _ ≠ -1 := v2; rw [← e128] at v3; omega)
                                 · first | omega | (have v3 : rd I 187 _ ≠ -1 := v2; rw [← e147] at v3; omega)
                                 · first | omega | (have v3 : rd I 187 _ ≠ -1 := v2; rw [← e168] at v3; omega)
                               · exact hu2 gu y x g1 (by omega))
                      · refine w_aload_n dX12_fits_159 rfl ?_
                        refine v_getR (j := 187) dX12_fits_160 fX12_56 ⟨by decide, rfl⟩ rfl rfl ?_
                        refine w_iload dX12_fits_163 rfl ?_
                        refine w_bipush (v := iI 32) dX12_fits_165 (by decide) ?_
                        refine v_iadd dX12_fits_167 ?_
                        refine v_iald dX12_fits_168 ⟨by decide, rfl⟩ (by have i2 : 0 ≤ z40 + r ∧ z40 + r < 16 ∧ 0 ≤ z50 + c ∧ z50 + c < 32 := q60; omega) (by have i2 : 0 ≤ z40 + r ∧ z40 + r < 16 ∧ 0 ≤ z50 + c ∧ z50 + c < 32 := q60; omega) (by decide) (fun z168 e168 b168 => ?_)
                        refine w_iconst (v := iI (-1)) dX12_fits_169 rfl ?_
                        refine v_icmp_eq 175 dX12_fits_170 (by decide) (by omega) (by omega) (fun c170 => ?_) (fun c170 => ?_)
                        · refine v_iinc dX12_fits_175 rfl rfl rfl ?_
                          refine w_goto 12 dX12_fits_178 (by decide) ?_
                          first
                            | (fail_if_success (have := e24)
                               rw [show (r : Int) + 1 = ((r + 1 : Nat) : Int) by omega]
                               exact ih (r + 1) 0 u (by omega) (by omega) (by omega) (fun y x g1 g2 => hc y x g1 (by omega)) hu1 (fun gu y x g1 g2 => hu2 gu y x g1 (by omega)) hu3)
                            | (fail_if_success (have := e40)
                               have := e24
                               refine w_keep 5 ?_
                               rw [show (c : Int) + 1 = ((c + 1 : Nat) : Int) by omega]
                               have sk : ∀ y x : Int, cA (rce I b) (rd I 178 b) (rd I 179 b) y x ≠ 95 → 10 * (y - rd I 178 b) + (x - rd I 179 b) < 10 * (r : Int) + ((c + 1 : Nat) : Int) → 10 * (y - rd I 178 b) + (x - rd I 179 b) < 10 * (r : Int) + c := fun y x g1 g2 => by
                                 have g3 := cA_ne g1
                                 by_cases g4 : 10 * (y - rd I 178 b) + (x - rd I 179 b) = 10 * r + c
                                 · exfalso
                                   have g5 := g3.2.2.2.2
                                   rw [show (10 * (y - rd I 178 b) + (x - rd I 179 b)).toNat = 10 * r + c by omega, ← f24] at g5
                                   omega
                                 · omega
                               exact ih r (c + 1) u (by omega) (by omega) (by omega) (fun y x g1 g2 => hc y x g1 (sk y x g1 g2)) hu1 (fun gu y x g1 g2 => hu2 gu y x g1 (sk y x g1 g2)) hu3)
                            | (have i2 : 0 ≤ z40 + r ∧ z40 + r < 16 ∧ 0 ≤ z50 + c ∧ z50 + c < 32 := q60
                               refine w_keep 5 ?_
                               rw [show (c : Int) + 1 = ((c + 1 : Nat) : Int) by omega]
                               refine ih r (c + 1) 2 (by omega) (by omega) (by omega) ?_ (by omega) (fun g => by omega) (fun _ => ⟨z40 + r, z50 + c, by rw [cae]; omega, ?_⟩)
                               · intro y x g1 g2
                                 have g3 := cA_ne g1
                                 by_cases g4 : 10 * (y - rd I 178 b) + (x - rd I 179 b) = 10 * r + c
                                 · have y1 : y = z40 + r := by omega
                                   have x1 : x = z50 + c := by omega
                                   refine ⟨by show 0 ≤ y ∧ y < 16 ∧ 0 ≤ x ∧ x < 32; omega, ?_⟩
                                   (try dsimp only)
                                   rw [y1, x1, ← e78]; omega
                                 · exact hc y x g1 (by omega)
                               · first
                                   | exact Or.inr (Or.inr (Or.inr ⟨by omega, (by show rd I 187 _ ≠ -1; rw [← e168]; omega)⟩))
                                   | exact Or.inr (Or.inr (Or.inl ⟨by omega, (by show rd I 187 _ ≠ -1; rw [← e147]; omega)⟩))
                                   | exact Or.inr (Or.inl ⟨by omega, (by show rd I 187 _ ≠ -1; rw [← e128]; omega)⟩)
                                   | exact Or.inl ⟨by omega, (by show rd I 187 _ ≠ -1; rw [← e108]; omega)⟩)
                            | (have i2 : 0 ≤ z40 + r ∧ z40 + r < 16 ∧ 0 ≤ z50 + c ∧ z50 + c < 32 := q60
                               refine w_keep 5 ?_
                               rw [show (c : Int) + 1 = ((c + 1 : Nat) : Int) by omega]
                               refine ih r (c + 1) u (by omega) (by omega) (by omega) ?_ hu1 (fun gu y x g1 g2 => ?_) hu3
                               · intro y x g1 g2
                                 have g3 := cA_ne g1
                                 by_cases g4 : 10 * (y - rd I 178 b) + (x - rd I 179 b) = 10 * r + c
                                 · have y1 : y = z40 + r := by omega
                                   have x1 : x = z50 + c := by omega
                                   refine ⟨by show 0 ≤ y ∧ y < 16 ∧ 0 ≤ x ∧ x < 32; omega, ?_⟩
                                   (try dsimp only)
                                   rw [y1, x1, ← e78]; omega
                                 · exact hc y x g1 (by omega)
                               · have g3 := cA_ne g1
                                 by_cases g4 : 10 * (y - rd I 178 b) + (x - rd I 179 b) = 10 * r + c
                                 · have y1 : y = z40 + r := by omega
                                   have x1 : x = z50 + c := by omega
                                   rw [y1, x1]
                                   rintro (⟨v1, v2⟩ | ⟨v1, v2⟩ | ⟨v1, v2⟩ | ⟨v1, v2⟩)
                                   · first | omega | (have v3 : rd I 187 _ ≠ -1 := v2; rw [← e108] at v3; omega)
                                   · first | omega | (have v3 : rd I 187 _ ≠ -1 := v2; rw [← e128] at v3; omega)
                                   · first | omega | (have v3 : rd I 187 _ ≠ -1 := v2; rw [← e147] at v3; omega)
                                   · first | omega | (have v3 : rd I 187 _ ≠ -1 := v2; rw [← e168] at v3; omega)
                                 · exact hu2 gu y x g1 (by omega))
                        · refine w_iconst (v := iI 2) dX12_fits_173 rfl ?_
                          refine w_istore_n dX12_fits_174 rfl rfl ?_
                          refine v_iinc dX12_fits_175 rfl rfl rfl ?_
                          refine w_goto 12 dX12_fits_178 (by decide) ?_
                          first
                            | (fail_if_success (have := e24)
                               rw [show (r : Int) + 1 = ((r + 1 : Nat) : Int) by omega]
                               exact ih (r + 1) 0 u (by omega) (by omega) (by omega) (fun y x g1 g2 => hc y x g1 (by omega)) hu1 (fun gu y x g1 g2 => hu2 gu y x g1 (by omega)) hu3)
                            | (fail_if_success (have := e40)
                               have := e24
                               refine w_keep 5 ?_
                               rw [show (c : Int) + 1 = ((c + 1 : Nat) : Int) by omega]
                               have sk : ∀ y x : Int, cA (rce I b) (rd I 178 b) (rd I 179 b) y x ≠ 95 → 10 * (y - rd I 178 b) + (x - rd I 179 b) < 10 * (r : Int) + ((c + 1 : Nat) : Int) → 10 * (y - rd I 178 b) + (x - rd I 179 b) < 10 * (r : Int) + c := fun y x g1 g2 => by
                                 have g3 := cA_ne g1
                                 by_cases g4 : 10 * (y - rd I 178 b) + (x - rd I 179 b) = 10 * r + c
                                 · exfalso
                                   have g5 := g3.2.2.2.2
                                   rw [show (10 * (y - rd I 178 b) + (x - rd I 179 b)).toNat = 10 * r + c by omega, ← f24] at g5
                                   omega
                                 · omega
                               exact ih r (c + 1) u (by omega) (by omega) (by omega) (fun y x g1 g2 => hc y x g1 (sk y x g1 g2)) hu1 (fun gu y x g1 g2 => hu2 gu y x g1 (sk y x g1 g2)) hu3)
                            | (have i2 : 0 ≤ z40 + r ∧ z40 + r < 16 ∧ 0 ≤ z50 + c ∧ z50 + c < 32 := q60
                               refine w_keep 5 ?_
                               rw [show (c : Int) + 1 = ((c + 1 : Nat) : Int) by omega]
                               refine ih r (c + 1) 2 (by omega) (by omega) (by omega) ?_ (by omega) (fun g => by omega) (fun _ => ⟨z40 + r, z50 + c, by rw [cae]; omega, ?_⟩)
                               · intro y x g1 g2
                                 have g3 := cA_ne g1
                                 by_cases g4 : 10 * (y - rd I 178 b) + (x - rd I 179 b) = 10 * r + c
                                 · have y1 : y = z40 + r := by omega
                                   have x1 : x = z50 + c := by omega
                                   refine ⟨by show 0 ≤ y ∧ y < 16 ∧ 0 ≤ x ∧ x < 32; omega, ?_⟩
                                   (try dsimp only)
                                   rw [y1, x1, ← e78]; omega
                                 · exact hc y x g1 (by omega)
                               · first
                                   | exact Or.inr (Or.inr (Or.inr ⟨by omega, (by show rd I 187 _ ≠ -1; rw [← e168]; omega)⟩))
                                   | exact Or.inr (Or.inr (Or.inl ⟨by omega, (by show rd I 187 _ ≠ -1; rw [← e147]; omega)⟩))
                                   | exact Or.inr (Or.inl ⟨by omega, (by show rd I 187 _ ≠ -1; rw [← e128]; omega)⟩)
                                   | exact Or.inl ⟨by omega, (by show rd I 187 _ ≠ -1; rw [← e108]; omega)⟩)
                            | (have i2 : 0 ≤ z40 + r ∧ z40 + r < 16 ∧ 0 ≤ z50 + c ∧ z50 + c < 32 := q60
                               refine w_keep 5 ?_
                               rw [show (c : Int) + 1 = ((c + 1 : Nat) : Int) by omega]
                               refine ih r (c + 1) u (by omega) (by omega) (by omega) ?_ hu1 (fun gu y x g1 g2 => ?_) hu3
                               · intro y x g1 g2
                                 have g3 := cA_ne g1
                                 by_cases g4 : 10 * (y - rd I 178 b) + (x - rd I 179 b) = 10 * r + c
                                 · have y1 : y = z40 + r := by omega
                                   have x1 : x = z50 + c := by omega
                                   refine ⟨by show 0 ≤ y ∧ y < 16 ∧ 0 ≤ x ∧ x < 32; omega, ?_⟩
                                   (try dsimp only)
                                   rw [y1, x1, ← e78]; omega
                                 · exact hc y x g1 (by omega)
                               · have g3 := cA_ne g1
                                 by_cases g4 : 10 * (y - rd I 178 b) + (x - rd I 179 b) = 10 * r + c
                                 · have y1 : y = z40 + r := by omega
                                   have x1 : x = z50 + c := by omega
                                   rw [y1, x1]
                                   rintro (⟨v1, v2⟩ | ⟨v1, v2⟩ | ⟨v1, v2⟩ | ⟨v1, v2⟩)
                                   · first | omega | (have v3 : rd I 187 _ ≠ -1 := v2; rw [← e108] at v3; omega)
                                   · first | omega | (have v3 : rd I 187 _ ≠ -1 := v2; rw [← e128] at v3; omega)
                                   · first | omega | (have v3 : rd I 187 _ ≠ -1 := v2; rw [← e147] at v3; omega)
                                   · first | omega | (have v3 : rd I 187 _ ≠ -1 := v2; rw [← e168] at v3; omega)
                                 · exact hu2 gu y x g1 (by omega))
                · refine w_aload_n dX12_fits_120 rfl ?_
                  refine v_getR (j := 187) dX12_fits_121 fX12_56 ⟨by decide, rfl⟩ rfl rfl ?_
                  refine w_iload dX12_fits_124 rfl ?_
                  refine w_iconst (v := iI 1) dX12_fits_126 rfl ?_
                  refine v_iadd dX12_fits_127 ?_
                  refine v_iald dX12_fits_128 ⟨by decide, rfl⟩ (by have i2 : 0 ≤ z40 + r ∧ z40 + r < 16 ∧ 0 ≤ z50 + c ∧ z50 + c < 32 := q60; omega) (by have i2 : 0 ≤ z40 + r ∧ z40 + r < 16 ∧ 0 ≤ z50 + c ∧ z50 + c < 32 := q60; omega) (by decide) (fun z128 e128 b128 => ?_)
                  refine w_iconst (v := iI (-1)) dX12_fits_129 rfl ?_
                  refine v_icmp_ne 173 dX12_fits_130 (by decide) (by omega) (by omega) (fun c130 => ?_) (fun c130 => ?_)
                  · refine w_iconst (v := iI 2) dX12_fits_173 rfl ?_
                    refine w_istore_n dX12_fits_174 rfl rfl ?_
                    refine v_iinc dX12_fits_175 rfl rfl rfl ?_
                    refine w_goto 12 dX12_fits_178 (by decide) ?_
                    first
                      | (fail_if_success (have := e24)
                         rw [show (r : Int) + 1 = ((r + 1 : Nat) : Int) by omega]
                         exact ih (r + 1) 0 u (by omega) (by omega) (by omega) (fun y x g1 g2 => hc y x g1 (by omega)) hu1 (fun gu y x g1 g2 => hu2 gu y x g1 (by omega)) hu3)
                      | (fail_if_success (have := e40)
                         have := e24
                         refine w_keep 5 ?_
                         rw [show (c : Int) + 1 = ((c + 1 : Nat) : Int) by omega]
                         have sk : ∀ y x : Int, cA (rce I b) (rd I 178 b) (rd I 179 b) y x ≠ 95 → 10 * (y - rd I 178 b) + (x - rd I 179 b) < 10 * (r : Int) + ((c + 1 : Nat) : Int) → 10 * (y - rd I 178 b) + (x - rd I 179 b) < 10 * (r : Int) + c := fun y x g1 g2 => by
                           have g3 := cA_ne g1
                           by_cases g4 : 10 * (y - rd I 178 b) + (x - rd I 179 b) = 10 * r + c
                           · exfalso
                             have g5 := g3.2.2.2.2
                             rw [show (10 * (y - rd I 178 b) + (x - rd I 179 b)).toNat = 10 * r + c by omega, ← f24] at g5
                             omega
                           · omega
                         exact ih r (c + 1) u (by omega) (by omega) (by omega) (fun y x g1 g2 => hc y x g1 (sk y x g1 g2)) hu1 (fun gu y x g1 g2 => hu2 gu y x g1 (sk y x g1 g2)) hu3)
                      | (have i2 : 0 ≤ z40 + r ∧ z40 + r < 16 ∧ 0 ≤ z50 + c ∧ z50 + c < 32 := q60
                         refine w_keep 5 ?_
                         rw [show (c : Int) + 1 = ((c + 1 : Nat) : Int) by omega]
                         refine ih r (c + 1) 2 (by omega) (by omega) (by omega) ?_ (by omega) (fun g => by omega) (fun _ => ⟨z40 + r, z50 + c, by rw [cae]; omega, ?_⟩)
                         · intro y x g1 g2
                           have g3 := cA_ne g1
                           by_cases g4 : 10 * (y - rd I 178 b) + (x - rd I 179 b) = 10 * r + c
                           · have y1 : y = z40 + r := by omega
                             have x1 : x = z50 + c := by omega
                             refine ⟨by show 0 ≤ y ∧ y < 16 ∧ 0 ≤ x ∧ x < 32; omega, ?_⟩
                             (try dsimp only)
                             rw [y1, x1, ← e78]; omega
                           · exact hc y x g1 (by omega)
                         · first
                             | exact Or.inr (Or.inr (Or.inr ⟨by omega, (by show rd I 187 _ ≠ -1; rw [← e168]; omega)⟩))
                             | exact Or.inr (Or.inr (Or.inl ⟨by omega, (by show rd I 187 _ ≠ -1; rw [← e147]; omega)⟩))
                             | exact Or.inr (Or.inl ⟨by omega, (by show rd I 187 _ ≠ -1; rw [← e128]; omega)⟩)
                             | exact Or.inl ⟨by omega, (by show rd I 187 _ ≠ -1; rw [← e108]; omega)⟩)
                      | (have i2 : 0 ≤ z40 + r ∧ z40 + r < 16 ∧ 0 ≤ z50 + c ∧ z50 + c < 32 := q60
                         refine w_keep 5 ?_
                         rw [show (c : Int) + 1 = ((c + 1 : Nat) : Int) by omega]
                         refine ih r (c + 1) u (by omega) (by omega) (by omega) ?_ hu1 (fun gu y x g1 g2 => ?_) hu3
                         · intro y x g1 g2
                           have g3 := cA_ne g1
                           by_cases g4 : 10 * (y - rd I 178 b) + (x - rd I 179 b) = 10 * r + c
                           · have y1 : y = z40 + r := by omega
                             have x1 : x = z50 + c := by omega
                             refine ⟨by show 0 ≤ y ∧ y < 16 ∧ 0 ≤ x ∧ x < 32; omega, ?_⟩
                             (try dsimp only)
                             rw [y1, x1, ← e78]; omega
                           · exact hc y x g1 (by omega)
                         · have g3 := cA_ne g1
                           by_cases g4 : 10 * (y - rd I 178 b) + (x - rd I 179 b) = 10 * r + c
                           · have y1 : y = z40 + r := by omega
                             have x1 : x = z50 + c := by omega
                             rw [y1, x1]
                             rintro (⟨v1, v2⟩ | ⟨v1, v2⟩ | ⟨v1, v2⟩ | ⟨v1, v2⟩)
                             · first | omega | (have v3 : rd I 187 _ ≠ -1 := v2; rw [← e108] at v3; omega)
                             · first | omega | (have v3 : rd I 187 _ ≠ -1 := v2; rw [← e128] at v3; omega)
                             · first | omega | (have v3 : rd I 187 _ ≠ -1 := v2; rw [← e147] at v3; omega)
                             · first | omega | (have v3 : rd I 187 _ ≠ -1 := v2; rw [← e168] at v3; omega)
                           · exact hu2 gu y x g1 (by omega))
                  · refine w_iload dX12_fits_133 rfl ?_
                    refine v_if_le 152 dX12_fits_135 (by decide) (by omega) (fun c135 => ?_) (fun c135 => ?_)
                    · refine w_iload dX12_fits_152 rfl ?_
                      refine w_bipush (v := iI 15) dX12_fits_154 (by decide) ?_
                      refine v_icmp_ge 175 dX12_fits_156 (by decide) (by omega) (by omega) (fun c156 => ?_) (fun c156 => ?_)
                      · refine v_iinc dX12_fits_175 rfl rfl rfl ?_
                        refine w_goto 12 dX12_fits_178 (by decide) ?_
                        first
                          | (fail_if_success (have := e24)
                             rw [show (r : Int) + 1 = ((r + 1 : Nat) : Int) by omega]
                             exact ih (r + 1) 0 u (by omega) (by omega) (by omega) (fun y x g1 g2 => hc y x g1 (by omega)) hu1 (fun gu y x g1 g2 => hu2 gu y x g1 (by omega)) hu3)
                          | (fail_if_success (have := e40)
                             have := e24
                             refine w_keep 5 ?_
                             rw [show (c : Int) + 1 = ((c + 1 : Nat) : Int) by omega]
                             have sk : ∀ y x : Int, cA (rce I b) (rd I 178 b) (rd I 179 b) y x ≠ 95 → 10 * (y - rd I 178 b) + (x - rd I 179 b) < 10 * (r : Int) + ((c + 1 : Nat) : Int) → 10 * (y - rd I 178 b) + (x - rd I 179 b) < 10 * (r : Int) + c := fun y x g1 g2 => by
                               have g3 := cA_ne g1
                               by_cases g4 : 10 * (y - rd I 178 b) + (x - rd I 179 b) = 10 * r + c
                               · exfalso
                                 have g5 := g3.2.2.2.2
                                 rw [show (10 * (y - rd I 178 b) + (x - rd I 179 b)).toNat = 10 * r + c by omega, ← f24] at g5
                                 omega
                               · omega
                             exact ih r (c + 1) u (by omega) (by omega) (by omega) (fun y x g1 g2 => hc y x g1 (sk y x g1 g2)) hu1 (fun gu y x g1 g2 => hu2 gu y x g1 (sk y x g1 g2)) hu3)
                          | (have i2 : 0 ≤ z40 + r ∧ z40 + r < 16 ∧ 0 ≤ z50 + c ∧ z50 + c < 32 := q60
                             refine w_keep 5 ?_
                             rw [show (c : Int) + 1 = ((c + 1 : Nat) : Int) by omega]
                             refine ih r (c + 1) 2 (by omega) (by omega) (by omega) ?_ (by omega) (fun g => by omega) (fun _ => ⟨z40 + r, z50 + c, by rw [cae]; omega, ?_⟩)
                             · intro y x g1 g2
                               have g3 := cA_ne g1
                               by_cases g4 : 10 * (y - rd I 178 b) + (x - rd I 179 b) = 10 * r + c
                               · have y1 : y = z40 + r := by omega
                                 have x1 : x = z50 + c := by omega
                                 refine ⟨by show 0 ≤ y ∧ y < 16 ∧ 0 ≤ x ∧ x < 32; omega, ?_⟩
                                 (try dsimp only)
                                 rw [y1, x1, ← e78]; omega
                               · exact hc y x g1 (by omega)
                             · first
                                 | exact Or.inr (Or.inr (Or.inr ⟨by omega, (by show rd I 187 _ ≠ -1; rw [← e168]; omega)⟩))
                                 | exact Or.inr (Or.inr (Or.inl ⟨by omega, (by show rd I 187 _ ≠ -1; rw [← e147]; omega)⟩))
                                 | exact Or.inr (Or.inl ⟨by omega, (by show rd I 187 _ ≠ -1; rw [← e128]; omega)⟩)
                                 | exact Or.inl ⟨by omega, (by show rd I 187 _ ≠ -1; rw [← e108]; omega)⟩)
                          | (have i2 : 0 ≤ z40 + r ∧ z40 + r < 16 ∧ 0 ≤ z50 + c ∧ z50 + c < 32 := q60
                             refine w_keep 5 ?_
                             rw [show (c : Int) + 1 = ((c + 1 : Nat) : Int) by omega]
                             refine ih r (c + 1) u (by omega) (by omega) (by omega) ?_ hu1 (fun gu y x g1 g2 => ?_) hu3
                             · intro y x g1 g2
                               have g3 := cA_ne g1
                               by_cases g4 : 10 * (y - rd I 178 b) + (x - rd I 179 b) = 10 * r + c
                               · have y1 : y = z40 + r := by omega
                                 have x1 : x = z50 + c := by omega
                                 refine ⟨by show 0 ≤ y ∧ y < 16 ∧ 0 ≤ x ∧ x < 32; omega, ?_⟩
                                 (try dsimp only)
                                 rw [y1, x1, ← e78]; omega
                               · exact hc y x g1 (by omega)
                             · have g3 := cA_ne g1
                               by_cases g4 : 10 * (y - rd I 178 b) + (x - rd I 179 b) = 10 * r + c
                               · have y1 : y = z40 + r := by omega
                                 have x1 : x = z50 + c := by omega
                                 rw [y1, x1]
                                 rintro (⟨v1, v2⟩ | ⟨v1, v2⟩ | ⟨v1, v2⟩ | ⟨v1, v2⟩)
                                 · first | omega | (have v3 : rd I 187 _ ≠ -1 := v2; rw [← e108] at v3; omega)
                                 · first | omega | (have v3 : rd I 187 _ ≠ -1 := v2; rw [← e128] at v3; omega)
                                 · first | omega | (have v3 : rd I 187 _ ≠ -1 := v2; rw [← e147] at v3; omega)
                                 · first | omega | (have v3 : rd I 187 _ ≠ -1 := v2; rw [← e168] at v3; omega)
                               · exact hu2 gu y x g1 (by omega))
                      · refine w_aload_n dX12_fits_159 rfl ?_
                        refine v_getR (j := 187) dX12_fits_160 fX12_56 ⟨by decide, rfl⟩ rfl rfl ?_
                        refine w_iload dX12_fits_163 rfl ?_
                        refine w_bipush (v := iI 32) dX12_fits_165 (by decide) ?_
                        refine v_iadd dX12_fits_167 ?_
                        refine v_iald dX12_fits_168 ⟨by decide, rfl⟩ (by have i2 : 0 ≤ z40 + r ∧ z40 + r < 16 ∧ 0 ≤ z50 + c ∧ z50 + c < 32 := q60; omega) (by have i2 : 0 ≤ z40 + r ∧ z40 + r < 16 ∧ 0 ≤ z50 + c ∧ z50 + c < 32 := q60; omega) (by decide) (fun z168 e168 b168 => ?_)
                        refine w_iconst (v := iI (-1)) dX12_fits_169 rfl ?_
                        refine v_icmp_eq 175 dX12_fits_170 (by decide) (by omega) (by omega) (fun c170 => ?_) (fun c170 => ?_)
                        · refine v_iinc dX12_fits_175 rfl rfl rfl ?_
                          refine w_goto 12 dX12_fits_178 (by decide) ?_
                          first
                            | (fail_if_success (have := e24)
                               rw [show (r : Int) + 1 = ((r + 1 : Nat) : Int) by omega]
                               exact ih (r + 1) 0 u (by omega) (by omega) (by omega) (fun y x g1 g2 => hc y x g1 (by omega)) hu1 (fun gu y x g1 g2 => hu2 gu y x g1 (by omega)) hu3)
                            | (fail_if_success (have := e40)
                               have := e24
                               refine w_keep 5 ?_
                               rw [show (c : Int) + 1 = ((c + 1 : Nat) : Int) by omega]
                               have sk : ∀ y x : Int, cA (rce I b) (rd I 178 b) (rd I 179 b) y x ≠ 95 → 10 * (y - rd I 178 b) + (x - rd I 179 b) < 10 * (r : Int) + ((c + 1 : Nat) : Int) → 10 * (y - rd I 178 b) + (x - rd I 179 b) < 10 * (r : Int) + c := fun y x g1 g2 => by
                                 have g3 := cA_ne g1
                                 by_cases g4 : 10 * (y - rd I 178 b) + (x - rd I 179 b) = 10 * r + c
                                 · exfalso
                                   have g5 := g3.2.2.2.2
                                   rw [show (10 * (y - rd I 178 b) + (x - rd I 179 b)).toNat = 10 * r + c by omega, ← f24] at g5
                                   omega
                                 · omega
                               exact ih r (c + 1) u (by omega) (by omega) (by omega) (fun y x g1 g2 => hc y x g1 (sk y x g1 g2)) hu1 (fun gu y x g1 g2 => hu2 gu y x g1 (sk y x g1 g2)) hu3)
                            | (have i2 : 0 ≤ z40 + r ∧ z40 + r < 16 ∧ 0 ≤ z50 + c ∧ z50 + c < 32 := q60
                               refine w_keep 5 ?_
                               rw [show (c : Int) + 1 = ((c + 1 : Nat) : Int) by omega]
                               refine ih r (c + 1) 2 (by omega) (by omega) (by omega) ?_ (by omega) (fun g => by omega) (fun _ => ⟨z40 + r, z50 + c, by rw [cae]; omega, ?_⟩)
                               · intro y x g1 g2
                                 have g3 := cA_ne g1
                                 by_cases g4 : 10 * (y - rd I 178 b) + (x - rd I 179 b) = 10 * r + c
                                 · have y1 : y = z40 + r := by omega
                                   have x1 : x = z50 + c := by omega
                                   refine ⟨by show 0 ≤ y ∧ y < 16 ∧ 0 ≤ x ∧ x < 32; omega, ?_⟩
                                   (try dsimp only)
                                   rw [y1, x1, ← e78]; omega
                                 · exact hc y x g1 (by omega)
                               · first
                                   | exact Or.inr (Or.inr (Or.inr ⟨by omega, (by show rd I 187 _ ≠ -1; rw [← e168]; omega)⟩))
                                   | exact Or.inr (Or.inr (Or.inl ⟨by omega, (by show rd I 187 _ ≠ -1; rw [← e147]; omega)⟩))
                                   | exact Or.inr (Or.inl ⟨by omega, (by show rd I 187 _ ≠ -1; rw [← e128]; omega)⟩)
                                   | exact Or.inl ⟨by omega, (by show rd I 187 _ ≠ -1; rw [← e108]; omega)⟩)
                            | (have i2 : 0 ≤ z40 + r ∧ z40 + r < 16 ∧ 0 ≤ z50 + c ∧ z50 + c < 32 := q60
                               refine w_keep 5 ?_
                               rw [show (c : Int) + 1 = ((c + 1 : Nat) : Int) by omega]
                               refine ih r (c + 1) u (by omega) (by omega) (by omega) ?_ hu1 (fun gu y x g1 g2 => ?_) hu3
                               · intro y x g1 g2
                                 have g3 := cA_ne g1
                                 by_cases g4 : 10 * (y - rd I 178 b) + (x - rd I 179 b) = 10 * r + c
                                 · have y1 : y = z40 + r := by omega
                                   have x1 : x = z50 + c := by omega
                                   refine ⟨by show 0 ≤ y ∧ y < 16 ∧ 0 ≤ x ∧ x < 32; omega, ?_⟩
                                   (try dsimp only)
                                   rw [y1, x1, ← e78]; omega
                                 · exact hc y x g1 (by omega)
                               · have g3 := cA_ne g1
                                 by_cases g4 : 10 * (y - rd I 178 b) + (x - rd I 179 b) = 10 * r + c
                                 · have y1 : y = z40 + r := by omega
                                   have x1 : x = z50 + c := by omega
                                   rw [y1, x1]
                                   rintro (⟨v1, v2⟩ | ⟨v1, v2⟩ | ⟨v1, v2⟩ | ⟨v1, v2⟩)
                                   · first | omega | (have v3 : rd I 187 _ ≠ -1 := v2; rw [← e108] at v3; omega)
                                   · first | omega | (have v3 : rd I 187 _ ≠ -1 := v2; rw [← e128] at v3; omega)
                                   · first | omega | (have v3 : rd I 187 _ ≠ -1 := v2; rw [← e147] at v3; omega)
                                   · first | omega | (have v3 : rd I 187 _ ≠ -1 := v2; rw [← e168] at v3; omega)
                                 · exact hu2 gu y x g1 (by omega))
                        · refine w_iconst (v := iI 2) dX12_fits_173 rfl ?_
                          refine w_istore_n dX12_fits_174 rfl rfl ?_
                          refine v_iinc dX12_fits_175 rfl rfl rfl ?_
                          refine w_goto 12 dX12_fits_178 (by decide) ?_
                          first
                            | (fail_if_success (have := e24)
                               rw [show (r : Int) + 1 = ((r + 1 : Nat) : Int) by omega]
                               exact ih (r + 1) 0 u (by omega) (by omega) (by omega) (fun y x g1 g2 => hc y x g1 (by omega)) hu1 (fun gu y x g1 g2 => hu2 gu y x g1 (by omega)) hu3)
                            | (fail_if_success (have := e40)
                               have := e24
                               refine w_keep 5 ?_
                               rw [show (c : Int) + 1 = ((c + 1 : Nat) : Int) by omega]
                               have sk : ∀ y x : Int, cA (rce I b) (rd I 178 b) (rd I 179 b) y x ≠ 95 → 10 * (y - rd I 178 b) + (x - rd I 179 b) < 10 * (r : Int) + ((c + 1 : Nat) : Int) → 10 * (y - rd I 178 b) + (x - rd I 179 b) < 10 * (r : Int) + c := fun y x g1 g2 => by
                                 have g3 := cA_ne g1
                                 by_cases g4 : 10 * (y - rd I 178 b) + (x - rd I 179 b) = 10 * r + c
                                 · exfalso
                                   have g5 := g3.2.2.2.2
                                   rw [show (10 * (y - rd I 178 b) + (x - rd I 179 b)).toNat = 10 * r + c by omega, ← f24] at g5
                                   omega
                                 · omega
                               exact ih r (c + 1) u (by omega) (by omega) (by omega) (fun y x g1 g2 => hc y x g1 (sk y x g1 g2)) hu1 (fun gu y x g1 g2 => hu2 gu y x g1 (sk y x g1 g2)) hu3)
                            | (have i2 : 0 ≤ z40 + r ∧ z40 + r < 16 ∧ 0 ≤ z50 + c ∧ z50 + c < 32 := q60
                               refine w_keep 5 ?_
                               rw [show (c : Int) + 1 = ((c + 1 : Nat) : Int) by omega]
                               refine ih r (c + 1) 2 (by omega) (by omega) (by omega) ?_ (by omega) (fun g => by omega) (fun _ => ⟨z40 + r, z50 + c, by rw [cae]; omega, ?_⟩)
                               · intro y x g1 g2
                                 have g3 := cA_ne g1
                                 by_cases g4 : 10 * (y - rd I 178 b) + (x - rd I 179 b) = 10 * r + c
                                 · have y1 : y = z40 + r := by omega
                                   have x1 : x = z50 + c := by omega
                                   refine ⟨by show 0 ≤ y ∧ y < 16 ∧ 0 ≤ x ∧ x < 32; omega, ?_⟩
                                   (try dsimp only)
                                   rw [y1, x1, ← e78]; omega
                                 · exact hc y x g1 (by omega)
                               · first
                                   | exact Or.inr (Or.inr (Or.inr ⟨by omega, (by show rd I 187 _ ≠ -1; rw [← e168]; omega)⟩))
                                   | exact Or.inr (Or.inr (Or.inl ⟨by omega, (by show rd I 187 _ ≠ -1; rw [← e147]; omega)⟩))
                                   | exact Or.inr (Or.inl ⟨by omega, (by show rd I 187 _ ≠ -1; rw [← e128]; omega)⟩)
                                   | exact Or.inl ⟨by omega, (by show rd I 187 _ ≠ -1; rw [← e108]; omega)⟩)
                            | (have i2 : 0 ≤ z40 + r ∧ z40 + r < 16 ∧ 0 ≤ z50 + c ∧ z50 + c < 32 := q60
                               refine w_keep 5 ?_
                               rw [show (c : Int) + 1 = ((c + 1 : Nat) : Int) by omega]
                               refine ih r (c + 1) u (by omega) (by omega) (by omega) ?_ hu1 (fun gu y x g1 g2 => ?_) hu3
                               · intro y x g1 g2
                                 have g3 := cA_ne g1
                                 by_cases g4 : 10 * (y - rd I 178 b) + (x - rd I 179 b) = 10 * r + c
                                 · have y1 : y = z40 + r := by omega
                                   have x1 : x = z50 + c := by omega
                                   refine ⟨by show 0 ≤ y ∧ y < 16 ∧ 0 ≤ x ∧ x < 32; omega, ?_⟩
                                   (try dsimp only)
                                   rw [y1, x1, ← e78]; omega
                                 · exact hc y x g1 (by omega)
                               · have g3 := cA_ne g1
                                 by_cases g4 : 10 * (y - rd I 178 b) + (x - rd I 179 b) = 10 * r + c
                                 · have y1 : y = z40 + r := by omega
                                   have x1 : x = z50 + c := by omega
                                   rw [y1, x1]
                                   rintro (⟨v1, v2⟩ | ⟨v1, v2⟩ | ⟨v1, v2⟩ | ⟨v1, v2⟩)
                                   · first | omega | (have v3 : rd I 187 _ ≠ -1 := v2; rw [← e108] at v3; omega)
                                   · first | omega | (have v3 : rd I 187 _ ≠ -1 := v2; rw [← e128] at v3; omega)
                                   · first | omega | (have v3 : rd I 187 _ ≠ -1 := v2; rw [← e147] at v3; omega)
                                   · first | omega | (have v3 : rd I 187 _ ≠ -1 := v2; rw [← e168] at v3; omega)
                                 · exact hu2 gu y x g1 (by omega))
                    · refine w_aload_n dX12_fits_138 rfl ?_
                      refine v_getR (j := 187) dX12_fits_139 fX12_56 ⟨by decide, rfl⟩ rfl rfl ?_
                      refine w_iload dX12_fits_142 rfl ?_
                      refine w_bipush (v := iI 32) dX12_fits_144 (by decide) ?_
                      refine v_isub dX12_fits_146 ?_
                      refine v_iald dX12_fits_147 ⟨by decide, rfl⟩ (by have i2 : 0 ≤ z40 + r ∧ z40 + r < 16 ∧ 0 ≤ z50 + c ∧ z50 + c < 32 := q60; omega) (by have i2 : 0 ≤ z40 + r ∧ z40 + r < 16 ∧ 0 ≤ z50 + c ∧ z50 + c < 32 := q60; omega) (by decide) (fun z147 e147 b147 => ?_)
                      refine w_iconst (v := iI (-1)) dX12_fits_148 rfl ?_
                      refine v_icmp_ne 173 dX12_fits_149 (by decide) (by omega) (by omega) (fun c149 => ?_) (fun c149 => ?_)
                      · refine w_iconst (v := iI 2) dX12_fits_173 rfl ?_
                        refine w_istore_n dX12_fits_174 rfl rfl ?_
                        refine v_iinc dX12_fits_175 rfl rfl rfl ?_
                        refine w_goto 12 dX12_fits_178 (by decide) ?_
                        first
                          | (fail_if_success (have := e24)
                             rw [show (r : Int) + 1 = ((r + 1 : Nat) : Int) by omega]
                             exact ih (r + 1) 0 u (by omega) (by omega) (by omega) (fun y x g1 g2 => hc y x g1 (by omega)) hu1 (fun gu y x g1 g2 => hu2 gu y x g1 (by omega)) hu3)
                          | (fail_if_success (have := e40)
                             have := e24
                             refine w_keep 5 ?_
                             rw [show (c : Int) + 1 = ((c + 1 : Nat) : Int) by omega]
                             have sk : ∀ y x : Int, cA (rce I b) (rd I 178 b) (rd I 179 b) y x ≠ 95 → 10 * (y - rd I 178 b) + (x - rd I 179 b) < 10 * (r : Int) + ((c + 1 : Nat) : Int) → 10 * (y - rd I 178 b) + (x - rd I 179 b) < 10 * (r : Int) + c := fun y x g1 g2 => by
                               have g3 := cA_ne g1
                               by_cases g4 : 10 * (y - rd I 178 b) + (x - rd I 179 b) = 10 * r + c
                               · exfalso
                                 have g5 := g3.2.2.2.2
                                 rw [show (10 * (y - rd I 178 b) + (x - rd I 179 b)).toNat = 10 * r + c by omega, ← f24] at g5
                                 omega
                               · omega
                             exact ih r (c + 1) u (by omega) (by omega) (by omega) (fun y x g1 g2 => hc y x g1 (sk y x g1 g2)) hu1 (fun gu y x g1 g2 => hu2 gu y x g1 (sk y x g1 g2)) hu3)
                          | (have i2 : 0 ≤ z40 + r ∧ z40 + r < 16 ∧ 0 ≤ z50 + c ∧ z50 + c < 32 := q60
                             refine w_keep 5 ?_
                             rw [show (c : Int) + 1 = ((c + 1 : Nat) : Int) by omega]
                             refine ih r (c + 1) 2 (by omega) (by omega) (by omega) ?_ (by omega) (fun g => by omega) (fun _ => ⟨z40 + r, z50 + c, by rw [cae]; omega, ?_⟩)
                             · intro y x g1 g2
                               have g3 := cA_ne g1
                               by_cases g4 : 10 * (y - rd I 178 b) + (x - rd I 179 b) = 10 * r + c
                               · have y1 : y = z40 + r := by omega
                                 have x1 : x = z50 + c := by omega
                                 refine ⟨by show 0 ≤ y ∧ y < 16 ∧ 0 ≤ x ∧ x < 32; omega, ?_⟩
                                 (try dsimp only)
                                 rw [y1, x1, ← e78]; omega
                               · exact hc y x g1 (by omega)
                             · first
                                 | exact Or.inr (Or.inr (Or.inr ⟨by omega, (by show rd I 187 _ ≠ -1; rw [← e168]; omega)⟩))
                                 | exact Or.inr (Or.inr (Or.inl ⟨by omega, (by show rd I 187 _ ≠ -1; rw [← e147]; omega)⟩))
                                 | exact Or.inr (Or.inl ⟨by omega, (by show rd I 187 _ ≠ -1; rw [← e128]; omega)⟩)
                                 | exact Or.inl ⟨by omega, (by show rd I 187 _ ≠ -1; rw [← e108]; omega)⟩)
                          | (have i2 : 0 ≤ z40 + r ∧ z40 + r < 16 ∧ 0 ≤ z50 + c ∧ z50 + c < 32 := q60
                             refine w_keep 5 ?_
                             rw [show (c : Int) + 1 = ((c + 1 : Nat) : Int) by omega]
                             refine ih r (c + 1) u (by omega) (by omega) (by omega) ?_ hu1 (fun gu y x g1 g2 => ?_) hu3
                             · intro y x g1 g2
                               have g3 := cA_ne g1
                               by_cases g4 : 10 * (y - rd I 178 b) + (x - rd I 179 b) = 10 * r + c
                               · have y1 : y = z40 + r := by omega
                                 have x1 : x = z50 + c := by omega
                                 refine ⟨by show 0 ≤ y ∧ y < 16 ∧ 0 ≤ x ∧ x < 32; omega, ?_⟩
                                 (try dsimp only)
                                 rw [y1, x1, ← e78]; omega
                               · exact hc y x g1 (by omega)
                             · have g3 := cA_ne g1
                               by_cases g4 : 10 * (y - rd I 178 b) + (x - rd I 179 b) = 10 * r + c
                               · have y1 : y = z40 + r := by omega
                                 have x1 : x = z50 + c := by omega
                                 rw [y1, x1]
                                 rintro (⟨v1, v2⟩ | ⟨v1, v2⟩ | ⟨v1, v2⟩ | ⟨v1, v2⟩)
                                 · first | omega | (have v3 : rd I 187 _ ≠ -1 := v2; rw [← e108] at v3; omega)
                                 · first | omega | (have v3 : rd I 187 _ ≠ -1 := v2; rw [← e128] at v3; omega)
                                 · first | omega | (have v3 : rd I 187 _ ≠ -1 := v2; rw [← e147] at v3; omega)
                                 · first | omega | (have v3 : rd I 187 _ ≠ -1 := v2; rw [← e168] at v3; omega)
                               · exact hu2 gu y x g1 (by omega))
                      · refine w_iload dX12_fits_152 rfl ?_
                        refine w_bipush (v := iI 15) dX12_fits_154 (by decide) ?_
                        refine v_icmp_ge 175 dX12_fits_156 (by decide) (by omega) (by omega) (fun c156 => ?_) (fun c156 => ?_)
                        · refine v_iinc dX12_fits_175 rfl rfl rfl ?_
                          refine w_goto 12 dX12_fits_178 (by decide) ?_
                          first
                            | (fail_if_success (have := e24)
                               rw [show (r : Int) + 1 = ((r + 1 : Nat) : Int) by omega]
                               exact ih (r + 1) 0 u (by omega) (by omega) (by omega) (fun y x g1 g2 => hc y x g1 (by omega)) hu1 (fun gu y x g1 g2 => hu2 gu y x g1 (by omega)) hu3)
                            | (fail_if_success (have := e40)
                               have := e24
                               refine w_keep 5 ?_
                               rw [show (c : Int) + 1 = ((c + 1 : Nat) : Int) by omega]
                               have sk : ∀ y x : Int, cA (rce I b) (rd I 178 b) (rd I 179 b) y x ≠ 95 → 10 * (y - rd I 178 b) + (x - rd I 179 b) < 10 * (r : Int) + ((c + 1 : Nat) : Int) → 10 * (y - rd I 178 b) + (x - rd I 179 b) < 10 * (r : Int) + c := fun y x g1 g2 => by
                                 have g3 := cA_ne g1
                                 by_cases g4 : 10 * (y - rd I 178 b) + (x - rd I 179 b) = 10 * r + c
                                 · exfalso
                                   have g5 := g3.2.2.2.2
                                   rw [show (10 * (y - rd I 178 b) + (x - rd I 179 b)).toNat = 10 * r + c by omega, ← f24] at g5
                                   omega
                                 · omega
                               exact ih r (c + 1) u (by omega) (by omega) (by omega) (fun y x g1 g2 => hc y x g1 (sk y x g1 g2)) hu1 (fun gu y x g1 g2 => hu2 gu y x g1 (sk y x g1 g2)) hu3)
                            | (have i2 : 0 ≤ z40 + r ∧ z40 + r < 16 ∧ 0 ≤ z50 + c ∧ z50 + c < 32 := q60
                               refine w_keep 5 ?_
                               rw [show (c : Int) + 1 = ((c + 1 : Nat) : Int) by omega]
                               refine ih r (c + 1) 2 (by omega) (by omega) (by omega) ?_ (by omega) (fun g => by omega) (fun _ => ⟨z40 + r, z50 + c, by rw [cae]; omega, ?_⟩)
                               · intro y x g1 g2
                                 have g3 := cA_ne g1
                                 by_cases g4 : 10 * (y - rd I 178 b) + (x - rd I 179 b) = 10 * r + c
                                 · have y1 : y = z40 + r := by omega
                                   have x1 : x = z50 + c := by omega
                                   refine ⟨by show 0 ≤ y ∧ y < 16 ∧ 0 ≤ x ∧ x < 32; omega, ?_⟩
                                   (try dsimp only)
                                   rw [y1, x1, ← e78]; omega
                                 · exact hc y x g1 (by omega)
                               · first
                                   | exact Or.inr (Or.inr (Or.inr ⟨by omega, (by show rd I 187 _ ≠ -1; rw [← e168]; omega)⟩))
                                   | exact Or.inr (Or.inr (Or.inl ⟨by omega, (by show rd I 187 _ ≠ -1; rw [← e147]; omega)⟩))
                                   | exact Or.inr (Or.inl ⟨by omega, (by show rd I 187 _ ≠ -1; rw [← e128]; omega)⟩)
                                   | exact Or.inl ⟨by omega, (by show rd I 187 _ ≠ -1; rw [← e108]; omega)⟩)
                            | (have i2 : 0 ≤ z40 + r ∧ z40 + r < 16 ∧ 0 ≤ z50 + c ∧ z50 + c < 32 := q60
                               refine w_keep 5 ?_
                               rw [show (c : Int) + 1 = ((c + 1 : Nat) : Int) by omega]
                               refine ih r (c + 1) u (by omega) (by omega) (by omega) ?_ hu1 (fun gu y x g1 g2 => ?_) hu3
                               · intro y x g1 g2
                                 have g3 := cA_ne g1
                                 by_cases g4 : 10 * (y - rd I 178 b) + (x - rd I 179 b) = 10 * r + c
                                 · have y1 : y = z40 + r := by omega
                                   have x1 : x = z50 + c := by omega
                                   refine ⟨by show 0 ≤ y ∧ y < 16 ∧ 0 ≤ x ∧ x < 32; omega, ?_⟩
                                   (try dsimp only)
                                   rw [y1, x1, ← e78]; omega
                                 · exact hc y x g1 (by omega)
                               · have g3 := cA_ne g1
                                 by_cases g4 : 10 * (y - rd I 178 b) + (x - rd I 179 b) = 10 * r + c
                                 · have y1 : y = z40 + r := by omega
                                   have x1 : x = z50 + c := by omega
                                   rw [y1, x1]
                                   rintro (⟨v1, v2⟩ | ⟨v1, v2⟩ | ⟨v1, v2⟩ | ⟨v1, v2⟩)
                                   · first | omega | (have v3 : rd I 187 _ ≠ -1 := v2; rw [← e108] at v3; omega)
                                   · first | omega | (have v3 : rd I 187 _ ≠ -1 := v2; rw [← e128] at v3; omega)
                                   · first | omega | (have v3 : rd I 187 _ ≠ -1 := v2; rw [← e147] at v3; omega)
                                   · first | omega | (have v3 : rd I 187 _ ≠ -1 := v2; rw [← e168] at v3; omega)
                                 · exact hu2 gu y x g1 (by omega))
                        · refine w_aload_n dX12_fits_159 rfl ?_
                          refine v_getR (j := 187) dX12_fits_160 fX12_56 ⟨by decide, rfl⟩ rfl rfl ?_
                          refine w_iload dX12_fits_163 rfl ?_
                          refine w_bipush (v := iI 32) dX12_fits_165 (by decide) ?_
                          refine v_iadd dX12_fits_167 ?_
                          refine v_iald dX12_fits_168 ⟨by decide, rfl⟩ (by have i2 : 0 ≤ z40 + r ∧ z40 + r < 16 ∧ 0 ≤ z50 + c ∧ z50 + c < 32 := q60; omega) (by have i2 : 0 ≤ z40 + r ∧ z40 + r < 16 ∧ 0 ≤ z50 + c ∧ z50 + c < 32 := q60; omega) (by decide) (fun z168 e168 b168 => ?_)
                          refine w_iconst (v := iI (-1)) dX12_fits_169 rfl ?_
                          refine v_icmp_eq 175 dX12_fits_170 (by decide) (by omega) (by omega) (fun c170 => ?_) (fun c170 => ?_)
                          · refine v_iinc dX12_fits_175 rfl rfl rfl ?_
                            refine w_goto 12 dX12_fits_178 (by decide) ?_
                            first
                              | (fail_if_success (have := e24)
                                 rw [show (r : Int) + 1 = ((r + 1 : Nat) : Int) by omega]
                                 exact ih (r + 1) 0 u (by omega) (by omega) (by omega) (fun y x g1 g2 => hc y x g1 (by omega)) hu1 (fun gu y x g1 g2 => hu2 gu y x g1 (by omega)) hu3)
                              | (fail_if_success (have := e40)
                                 have := e24
                                 refine w_keep 5 ?_
                                 rw [show (c : Int) + 1 = ((c + 1 : Nat) : Int) by omega]
                                 have sk : ∀ y x : Int, cA (rce I b) (rd I 178 b) (rd I 179 b) y x ≠ 95 → 10 * (y - rd I 178 b) + (x - rd I 179 b) < 10 * (r : Int) + ((c + 1 : Nat) : Int) → 10 * (y - rd I 178 b) + (x - rd I 179 b) < 10 * (r : Int) + c := fun y x g1 g2 => by
                                   have g3 := cA_ne g1
                                   by_cases g4 : 10 * (y - rd I 178 b) + (x - rd I 179 b) = 10 * r + c
                                   · exfalso
                                     have g5 := g3.2.2.2.2
                                     rw [show (10 * (y - rd I 178 b) + (x - rd I 179 b)).toNat = 10 * r + c by omega, ← f24] at g5
                                     omega
                                   · omega
                                 exact ih r (c + 1) u (by omega) (by omega) (by omega) (fun y x g1 g2 => hc y x g1 (sk y x g1 g2)) hu1 (fun gu y x g1 g2 => hu2 gu y x g1 (sk y x g1 g2)) hu3)
                              | (have i2 : 0 ≤ z40 + r ∧ z40 + r < 16 ∧ 0 ≤ z50 + c ∧ z50 + c < 32 := q60
                                 refine w_keep 5 ?_
                                 rw [show (c : Int) + 1 = ((c + 1 : Nat) : Int) by omega]
                                 refine ih r (c + 1) 2 (by omega) (by omega) (by omega) ?_ (by omega) (fun g => by omega) (fun _ => ⟨z40 + r, z50 + c, by rw [cae]; omega, ?_⟩)
                                 · intro y x g1 g2
                                   have g3 := cA_ne g1
                                   by_cases g4 : 10 * (y - rd I 178 b) + (x - rd I 179 b) = 10 * r + c
                                   · have y1 : y = z40 + r := by omega
                                     have x1 : x = z50 + c := by omega
                                     refine ⟨by show 0 ≤ y ∧ y < 16 ∧ 0 ≤ x ∧ x < 32; omega, ?_⟩
                                     (try dsimp only)
                                     rw [y1, x1, ← e78]; omega
                                   · exact hc y x g1 (by omega)
                                 · first
                                     | exact Or.inr (Or.inr (Or.inr ⟨by omega, (by show rd I 187 _ ≠ -1; rw [← e168]; omega)⟩))
                                     | exact Or.inr (Or.inr (Or.inl ⟨by omega, (by show rd I 187 _ ≠ -1; rw [← e147]; omega)⟩))
                                     | exact Or.inr (Or.inl ⟨by omega, (by show rd I 187 _ ≠ -1; rw [← e128]; omega)⟩)
                                     | exact Or.inl ⟨by omega, (by show rd I 187 _ ≠ -1; rw [← e108]; omega)⟩)
                              | (have i2 : 0 ≤ z40 + r ∧ z40 + r < 16 ∧ 0 ≤ z50 + c ∧ z50 + c < 32 := q60
                                 refine w_keep 5 ?_
                                 rw [show (c : Int) + 1 = ((c + 1 : Nat) : Int) by omega]
                                 refine ih r (c + 1) u (by omega) (by omega) (by omega) ?_ hu1 (fun gu y x g1 g2 => ?_) hu3
                                 · intro y x g1 g2
                                   have g3 := cA_ne g1
                                   by_cases g4 : 10 * (y - rd I 178 b) + (x - rd I 179 b) = 10 * r + c
                                   · have y1 : y = z40 + r := by omega
                                     have x1 : x = z50 + c := by omega
                                     refine ⟨by show 0 ≤ y ∧ y < 16 ∧ 0 ≤ x ∧ x < 32; omega, ?_⟩
                                     (try dsimp only)
                                     rw [y1, x1, ← e78]; omega
                                   · exact hc y x g1 (by omega)
                                 · have g3 := cA_ne g1
                                   by_cases g4 : 10 * (y - rd I 178 b) + (x - rd I 179 b) = 10 * r + c
                                   · have y1 : y = z40 + r := by omega
                                     have x1 : x = z50 + c := by omega
                                     rw [y1, x1]
                                     rintro (⟨v1, v2⟩ | ⟨v1, v2⟩ | ⟨v1, v2⟩ | ⟨v1, v2⟩)
                                     · first | omega | (have v3 : rd I 187 _ ≠ -1 := v2; rw [← e108] at v3; omega)
                                     · first | omega | (have v3 : rd I 187 _ ≠ -1 := v2; rw [← e128] at v3; omega)
                                     · first | omega | (have v3 : rd I 187 _ ≠ -1 := v2; rw [← e147] at v3; omega)
                                     · first | omega | (have v3 : rd I 187 _ ≠ -1 := v2; rw [← e168] at v3; omega)
                                   · exact hu2 gu y x g1 (by omega))
                          · refine w_iconst (v := iI 2) dX12_fits_173 rfl ?_
                            refine w_istore_n dX12_fits_174 rfl rfl ?_
                            refine v_iinc dX12_fits_175 rfl rfl rfl ?_
                            refine w_goto 12 dX12_fits_178 (by decide) ?_
                            first
                              | (fail_if_success (have := e24)
                                 rw [show (r : Int) + 1 = ((r + 1 : Nat) : Int) by omega]
                                 exact ih (r + 1) 0 u (by omega) (by omega) (by omega) (fun y x g1 g2 => hc y x g1 (by omega)) hu1 (fun gu y x g1 g2 => hu2 gu y x g1 (by omega)) hu3)
                              | (fail_if_success (have := e40)
                                 have := e24
                                 refine w_keep 5 ?_
                                 rw [show (c : Int) + 1 = ((c + 1 : Nat) : Int) by omega]
                                 have sk : ∀ y x : Int, cA (rce I b) (rd I 178 b) (rd I 179 b) y x ≠ 95 → 10 * (y - rd I 178 b) + (x - rd I 179 b) < 10 * (r : Int) + ((c + 1 : Nat) : Int) → 10 * (y - rd I 178 b) + (x - rd I 179 b) < 10 * (r : Int) + c := fun y x g1 g2 => by
                                   have g3 := cA_ne g1
                                   by_cases g4 : 10 * (y - rd I 178 b) + (x - rd I 179 b) = 10 * r + c
                                   · exfalso
                                     have g5 := g3.2.2.2.2
                                     rw [show (10 * (y - rd I 178 b) + (x - rd I 179 b)).toNat = 10 * r + c by omega, ← f24] at g5
                                     omega
                                   · omega
                                 exact ih r (c + 1) u (by omega) (by omega) (by omega) (fun y x g1 g2 => hc y x g1 (sk y x g1 g2)) hu1 (fun gu y x g1 g2 => hu2 gu y x g1 (sk y x g1 g2)) hu3)
                              | (have i2 : 0 ≤ z40 + r ∧ z40 + r < 16 ∧ 0 ≤ z50 + c ∧ z50 + c < 32 := q60
                                 refine w_keep 5 ?_
                                 rw [show (c : Int) + 1 = ((c + 1 : Nat) : Int) by omega]
                                 refine ih r (c + 1) 2 (by omega) (by omega) (by omega) ?_ (by omega) (fun g => by omega) (fun _ => ⟨z40 + r, z50 + c, by rw [cae]; omega, ?_⟩)
                                 · intro y x g1 g2
                                   have g3 := cA_ne g1
                                   by_cases g4 : 10 * (y - rd I 178 b) + (x - rd I 179 b) = 10 * r + c
                                   · have y1 : y = z40 + r := by omega
                                     have x1 : x = z50 + c := by omega
                                     refine ⟨by show 0 ≤ y ∧ y < 16 ∧ 0 ≤ x ∧ x < 32; omega, ?_⟩
                                     (try dsimp only)
                                     rw [y1, x1, ← e78]; omega
                                   · exact hc y x g1 (by omega)
                                 · first
                                     | exact Or.inr (Or.inr (Or.inr ⟨by omega, (by show rd I 187 _ ≠ -1; rw [← e168]; omega)⟩))
                                     | exact Or.inr (Or.inr (Or.inl ⟨by omega, (by show rd I 187 _ ≠ -1; rw [← e147]; omega)⟩))
                                     | exact Or.inr (Or.inl ⟨by omega, (by show rd I 187 _ ≠ -1; rw [← e128]; omega)⟩)
                                     | exact Or.inl ⟨by omega, (by show rd I 187 _ ≠ -1; rw [← e108]; omega)⟩)
                              | (have i2 : 0 ≤ z40 + r ∧ z40 + r < 16 ∧ 0 ≤ z50 + c ∧ z50 + c < 32 := q60
                                 refine w_keep 5 ?_
                                 rw [show (c : Int) + 1 = ((c + 1 : Nat) : Int) by omega]
                                 refine ih r (c + 1) u (by omega) (by omega) (by omega) ?_ hu1 (fun gu y x g1 g2 => ?_) hu3
                                 · intro y x g1 g2
                                   have g3 := cA_ne g1
                                   by_cases g4 : 10 * (y - rd I 178 b) + (x - rd I 179 b) = 10 * r + c
                                   · have y1 : y = z40 + r := by omega
                                     have x1 : x = z50 + c := by omega
                                     refine ⟨by show 0 ≤ y ∧ y < 16 ∧ 0 ≤ x ∧ x < 32; omega, ?_⟩
                                     (try dsimp only)
                                     rw [y1, x1, ← e78]; omega
                                   · exact hc y x g1 (by omega)
                                 · have g3 := cA_ne g1
                                   by_cases g4 : 10 * (y - rd I 178 b) + (x - rd I 179 b) = 10 * r + c
                                   · have y1 : y = z40 + r := by omega
                                     have x1 : x = z50 + c := by omega
                                     rw [y1, x1]
                                     rintro (⟨v1, v2⟩ | ⟨v1, v2⟩ | ⟨v1, v2⟩ | ⟨v1, v2⟩)
                                     · first | omega | (have v3 : rd I 187 _ ≠ -1 := v2; rw [← e108] at v3; omega)
                                     · first | omega | (have v3 : rd I 187 _ ≠ -1 := v2; rw [← e128] at v3; omega)
                                     · first | omega | (have v3 : rd I 187 _ ≠ -1 := v2; rw [← e147] at v3; omega)
                                     · first | omega | (have v3 : rd I 187 _ ≠ -1 := v2; rw [← e168] at v3; omega)
                                   · exact hu2 gu y x g1 (by omega))
          · refine w_iconst (v := iI 0) dX12_fits_83 rfl ?_
            refine v_iret dX12_fits_84 rfl ⟨rfl, rfl⟩ ?_
            refine h0 (fun g => ?_)
            have g1 := g (z40 + r) (z50 + c) (by rw [cae]; omega)
            first
              | exact q60 g1.1
              | (have g2 : rd I 187 _ = -1 := g1.2
                 rw [← e78] at g2
                 omega)
        · refine v_if_eq 83 dX12_fits_63 (by decide) (by decide) (fun _ => ?_) (fun q => absurd q (by decide))
          refine w_iconst (v := iI 0) dX12_fits_83 rfl ?_
          refine v_iret dX12_fits_84 rfl ⟨rfl, rfl⟩ ?_
          refine h0 (fun g => ?_)
          have g1 := g (z40 + r) (z50 + c) (by rw [cae]; omega)
          first
            | exact q60 g1.1
            | (have g2 : rd I 187 _ = -1 := g1.2
               rw [← e78] at g2
               omega)
      · refine w_goto 175 dX12_fits_32 (by decide) ?_
        refine v_iinc dX12_fits_175 rfl rfl rfl ?_
        refine w_goto 12 dX12_fits_178 (by decide) ?_
        first
          | (fail_if_success (have := e24)
             rw [show (r : Int) + 1 = ((r + 1 : Nat) : Int) by omega]
             exact ih (r + 1) 0 u (by omega) (by omega) (by omega) (fun y x g1 g2 => hc y x g1 (by omega)) hu1 (fun gu y x g1 g2 => hu2 gu y x g1 (by omega)) hu3)
          | (fail_if_success (have := e40)
             have := e24
             refine w_keep 5 ?_
             rw [show (c : Int) + 1 = ((c + 1 : Nat) : Int) by omega]
             have sk : ∀ y x : Int, cA (rce I b) (rd I 178 b) (rd I 179 b) y x ≠ 95 → 10 * (y - rd I 178 b) + (x - rd I 179 b) < 10 * (r : Int) + ((c + 1 : Nat) : Int) → 10 * (y - rd I 178 b) + (x - rd I 179 b) < 10 * (r : Int) + c := fun y x g1 g2 => by
               have g3 := cA_ne g1
               by_cases g4 : 10 * (y - rd I 178 b) + (x - rd I 179 b) = 10 * r + c
               · exfalso
                 have g5 := g3.2.2.2.2
                 rw [show (10 * (y - rd I 178 b) + (x - rd I 179 b)).toNat = 10 * r + c by omega, ← f24] at g5
                 omega
               · omega
             exact ih r (c + 1) u (by omega) (by omega) (by omega) (fun y x g1 g2 => hc y x g1 (sk y x g1 g2)) hu1 (fun gu y x g1 g2 => hu2 gu y x g1 (sk y x g1 g2)) hu3)
          | (have i2 : 0 ≤ z40 + r ∧ z40 + r < 16 ∧ 0 ≤ z50 + c ∧ z50 + c < 32 := q60
             refine w_keep 5 ?_
             rw [show (c : Int) + 1 = ((c + 1 : Nat) : Int) by omega]
             refine ih r (c + 1) 2 (by omega) (by omega) (by omega) ?_ (by omega) (fun g => by omega) (fun _ => ⟨z40 + r, z50 + c, by rw [cae]; omega, ?_⟩)
             · intro y x g1 g2
               have g3 := cA_ne g1
               by_cases g4 : 10 * (y - rd I 178 b) + (x - rd I 179 b) = 10 * r + c
               · have y1 : y = z40 + r := by omega
                 have x1 : x = z50 + c := by omega
                 refine ⟨by show 0 ≤ y ∧ y < 16 ∧ 0 ≤ x ∧ x < 32; omega, ?_⟩
                 (try dsimp only)
                 rw [y1, x1, ← e78]; omega
               · exact hc y x g1 (by omega)
             · first
                 | exact Or.inr (Or.inr (Or.inr ⟨by omega, (by show rd I 187 _ ≠ -1; rw [← e168]; omega)⟩))
                 | exact Or.inr (Or.inr (Or.inl ⟨by omega, (by show rd I 187 _ ≠ -1; rw [← e147]; omega)⟩))
                 | exact Or.inr (Or.inl ⟨by omega, (by show rd I 187 _ ≠ -1; rw [← e128]; omega)⟩)
                 | exact Or.inl ⟨by omega, (by show rd I 187 _ ≠ -1; rw [← e108]; omega)⟩)
          | (have i2 : 0 ≤ z40 + r ∧ z40 + r < 16 ∧ 0 ≤ z50 + c ∧ z50 + c < 32 := q60
             refine w_keep 5 ?_
             rw [show (c : Int) + 1 = ((c + 1 : Nat) : Int) by omega]
             refine ih r (c + 1) u (by omega) (by omega) (by omega) ?_ hu1 (fun gu y x g1 g2 => ?_) hu3
             · intro y x g1 g2
               have g3 := cA_ne g1
               by_cases g4 : 10 * (y - rd I 178 b) + (x - rd I 179 b) = 10 * r + c
               · have y1 : y = z40 + r := by omega
                 have x1 : x = z50 + c := by omega
                 refine ⟨by show 0 ≤ y ∧ y < 16 ∧ 0 ≤ x ∧ x < 32; omega, ?_⟩
                 (try dsimp only)
                 rw [y1, x1, ← e78]; omega
               · exact hc y x g1 (by omega)
             · have g3 := cA_ne g1
               by_cases g4 : 10 * (y - rd I 178 b) + (x - rd I 179 b) = 10 * r + c
               · have y1 : y = z40 + r := by omega
                 have x1 : x = z50 + c := by omega
                 rw [y1, x1]
                 rintro (⟨v1, v2⟩ | ⟨v1, v2⟩ | ⟨v1, v2⟩ | ⟨v1, v2⟩)
                 · first | omega | (have v3 : rd I 187 _ ≠ -1 := v2; rw [← e108] at v3; omega)
                 · first | omega | (have v3 : rd I 187 _ ≠ -1 := v2; rw [← e128] at v3; omega)
                 · first | omega | (have v3 : rd I 187 _ ≠ -1 := v2; rw [← e147] at v3; omega)
                 · first | omega | (have v3 : rd I 187 _ ≠ -1 := v2; rw [← e168] at v3; omega)
               · exact hu2 gu y x g1 (by omega))
theorem x12_fits {I : Nat → Nat → Int32} {J : Nat → Nat → Int64} {F : Option Value → zM → Prop} {b : Nat} (hb : b < 10) (hR : -1000 ≤ rd I 178 b ∧ rd I 178 b ≤ 1000) (hC : -1000 ≤ rd I 179 b ∧ rd I 179 b ≤ 1000) (h0 : ¬ (rmO (fun k => rd I 187 k) (rce I b) (rd I 178 b) (rd I 179 b)) → F (some (.int (iI 0))) (gM I J)) (h1 : (rmO (fun k => rd I 187 k) (rce I b) (rd I 178 b) (rd I 179 b)) → ¬ (tcB (fun k => rd I 187 k) (rce I b) (rd I 178 b) (rd I 179 b)) → F (some (.int (iI 1))) (gM I J)) (h2 : (rmO (fun k => rd I 187 k) (rce I b) (rd I 178 b) (rd I 179 b)) → (tcB (fun k => rd I 187 k) (rce I b) (rd I 178 b) (rd I 179 b)) → F (some (.int (iI 2))) (gM I J)) : Cl yX12_fits kX12_fits [.ref 171, .int (iI (b : Int))] (gM I J) F := by
  refine cl_s (by decide) (by decide) (Nat.le_of_ble_eq_true rfl) rt_i ?_
  show Wp _ F 0 [(0, .ref 171), (1, .int (iI (b : Int)))] [] _
  refine w_iconst (v := iI 1) dX12_fits_0 rfl ?_
  refine w_istore_n dX12_fits_1 rfl rfl ?_
  refine w_iconst (v := iI 0) dX12_fits_2 rfl ?_
  refine w_istore_n dX12_fits_3 rfl rfl ?_
  refine w_iload_n dX12_fits_4 rfl ?_
  refine w_iconst (v := iI 5) dX12_fits_5 rfl ?_
  refine v_icmp_ge 187 dX12_fits_6 (by decide) (by decide) (by decide) (fun q => absurd q (by decide)) (fun _ => ?_)
  refine w_iconst (v := iI 0) dX12_fits_9 rfl ?_
  refine w_istore dX12_fits_10 rfl rfl ?_
  exact x12_fits_l hb hR hC h0 h1 h2 100 0 0 1 (by omega) (by omega) (by omega) (fun y x g1 g2 => by have := cA_ne g1; omega) (by omega) (fun _ y x g1 g2 => by have := cA_ne g1; omega) (fun g => by omega)
