/-! what lies, as a function of the BITS; mayLie, lay: the reference -/
def lsN (I : Nat → Nat → Int32) : Nat → Int → Int → Int
  | 0, _, _ => 95
  | n + 1, y, x => if lyB I n ∧ rcA I n y x ≠ 95 then rcA I n y x else lsN I n y x
def loN (I : Nat → Nat → Int32) : Nat → Int → Int → Int
  | 0, _, _ => -1
  | n + 1, y, x => if lyB I n ∧ rcA I n y x ≠ 95 then n else loN I n y x
abbrev lS (I : Nat → Nat → Int32) (y x : Int) : Int := lsN I 10 y x
abbrev lO (I : Nat → Nat → Int32) (y x : Int) : Int := loN I 10 y x
theorem lsN_none {I : Nat → Nat → Int32} {y x : Int} : ∀ {n : Nat}, (∀ b, b < n → lyB I b → rcA I b y x = 95) → lsN I n y x = 95 ∧ loN I n y x = -1
  | 0, _ => ⟨rfl, rfl⟩
  | n + 1, h => by
    unfold lsN loN
    rw [if_neg (fun g => g.2 (h n (by omega) g.1)), if_neg (fun g => g.2 (h n (by omega) g.1))]
    exact lsN_none fun b hb => h b (by omega)
theorem lsN_some {I : Nat → Nat → Int32} {y x : Int} : ∀ {n : Nat}, (¬ ∀ b, b < n → lyB I b → rcA I b y x = 95) → ∃ b, b < n ∧ lyB I b ∧ rcA I b y x ≠ 95 ∧ lsN I n y x = rcA I b y x ∧ loN I n y x = b
  | 0, h => absurd (fun b hb => by omega) h
  | n + 1, h => by
    by_cases g : lyB I n ∧ rcA I n y x ≠ 95
    · refine ⟨n, by omega, g.1, g.2, ?_, ?_⟩
      · unfold lsN; rw [if_pos g]
      · unfold loN; rw [if_pos g]
    · obtain ⟨b, b1, b2, b3, b4, b5⟩ := lsN_some (I := I) (y := y) (x := x) (n := n) (fun q => h (fun b hb lb => by
        rcases Nat.lt_succ_iff_lt_or_eq.mp hb with u | u
        · exact q b u lb
        · subst u
          apply Classical.byContradiction
          intro v
          exact g ⟨lb, v⟩))
      refine ⟨b, by omega, b2, b3, ?_, ?_⟩
      · rw [← b4, lsN, if_neg g]
      · rw [← b5, loN, if_neg g]
theorem shL_ls {I I' : Nat → Nat → Int32} {n k : Nat} (h : shL I I' n) (hk : k < 512) : rd I' 185 k = lsN I n ((k / 32 : Nat) : Int) ((k % 32 : Nat) : Int) ∧ rd I' 186 k = loN I n ((k / 32 : Nat) : Int) ((k % 32 : Nat) : Int) := by
  by_cases g : ∀ b, b < n → lyB I b → rcA I b ((k / 32 : Nat) : Int) ((k % 32 : Nat) : Int) = 95
  · have a := (h k hk).2 g
    have b := lsN_none g
    rw [a.1, a.2, b.1, b.2]; exact ⟨rfl, rfl⟩
  · obtain ⟨b, b1, b2, b3, b4, b5⟩ := lsN_some g
    have a := (h k hk).1 b b1 b2 b3
    rw [a.1, a.2, b4, b5]; exact ⟨rfl, rfl⟩
theorem lS_out {I : Nat → Nat → Int32} (h : okL I 10) {y x : Int} (g : ¬ inS y x) : lS I y x = 95 ∧ lO I y x = -1 := lsN_none fun b hb lb => by
  apply Classical.byContradiction
  intro q
  exact g (h b hb lb y x q).1
theorem rsAt_ls {I I' : Nat → Nat → Int32} (h : okL I 10) (hs : shL I I' 10) (y x : Int) : rsAt I' y x = lS I y x := by
  by_cases g : inS y x
  · have g2 : 0 ≤ y ∧ y < 16 ∧ 0 ≤ x ∧ x < 32 := g
    rw [rsAt_in ⟨g2.1, g2.2.1⟩ g2.2.2, (shL_ls hs (k := (32 * y + x).toNat) (by omega)).1, show (((32 * y + x).toNat / 32 : Nat) : Int) = y by omega, show (((32 * y + x).toNat % 32 : Nat) : Int) = x by omega]
  · rw [(lS_out h g).1]; unfold rsAt; rw [if_neg g]
theorem roAt_ls {I I' : Nat → Nat → Int32} (hs : shL I I' 10) {y x : Int} (g : inS y x) : rd I' 186 (32 * y + x).toNat = lO I y x := by
  have g2 : 0 ≤ y ∧ y < 16 ∧ 0 ≤ x ∧ x < 32 := g
  rw [(shL_ls hs (k := (32 * y + x).toNat) (by omega)).2, show (((32 * y + x).toNat / 32 : Nat) : Int) = y by omega, show (((32 * y + x).toNat % 32 : Nat) : Int) = x by omega]
abbrev S3 (id k : Nat) : Prop := id = 185 ∨ id = 186 ∨ (id = 171 ∧ 17 ≤ k ∧ k ≤ 20)
def nQ (I : Nat → Nat → Int32) : Prop := ∀ a b, a < b → b < 10 → lyB I a → lyB I b → ¬ qrl I a b
def mL (I : Nat → Nat → Int32) (wn : Nat) : Prop := okL I 10 ∧ nQ I ∧ ∀ y : Nat, y < 16 → allR I wn (fun x => lS I y x)
theorem rTa_fq {I I' : Nat → Nat → Int32} (h : fq S3 I I') (b : Nat) (y : Int) : rTa I' b y = rTa I b y := by
  have e1 : rd I' 178 b = rd I 178 b := h 178 b (by unfold S3; omega)
  have e2 : rce I' b = rce I b := funext fun k => h 174 _ (by unfold S3; omega)
  have e3 : hIR I' b y = hIR I b y := by unfold hIR; rw [e1, e2]
  unfold rTa
  rw [e1, h 175 _ (by unfold S3; omega)]
  by_cases g : hIR I b y
  · rw [if_pos g, if_pos (by rw [e3]; exact g)]
  · rw [if_neg g, if_neg (by rw [e3]; exact g)]
theorem rTd_fq {I I' : Nat → Nat → Int32} (h : fq S3 I I') (b : Nat) (y : Int) : rTd I' b y = rTd I b y := by
  have e1 : rd I' 179 b = rd I 179 b := h 179 b (by unfold S3; omega)
  have e2 : rce I' b = rce I b := funext fun k => h 174 _ (by unfold S3; omega)
  have e3 : hIC I' b y = hIC I b y := by unfold hIC; rw [e1, e2]
  unfold rTd
  rw [e1, h 176 _ (by unfold S3; omega)]
  by_cases g : hIC I b y
  · rw [if_pos g, if_pos (by rw [e3]; exact g)]
  · rw [if_neg g, if_neg (by rw [e3]; exact g)]
theorem qrl_fq {I I' : Nat → Nat → Int32} (h : fq S3 I I') (a b : Nat) : qrl I' a b ↔ qrl I a b := by
  unfold qrl
  simp only [rTa_fq h, rTd_fq h]
theorem fq_2 {I I' : Nat → Nat → Int32} (h : fq (fun id _ => id = 185 ∨ id = 186) I I') : fq S3 I I' := fun id k g => h id k (fun q => g (by unfold S3; omega))
theorem x12_mayLie_l {I : Nat → Nat → Int32} {J : Nat → Nat → Int64} {F : Option Value → zM → Prop} (hR : ∀ b, b < 10 → -1000 ≤ rd I 178 b ∧ rd I 178 b ≤ 1000) (hC : ∀ b, b < 10 → -1000 ≤ rd I 179 b ∧ rd I 179 b ≤ 1000) {wn : Nat} (hw : rd I 171 12 = wn) (hw2 : wn ≤ 12) (hsz : ∀ w, w < wn → 1 ≤ rd I 183 w ∧ rd I 183 w ≤ 10) (ht : mL I wn → ∀ I', shL I I' 10 → fq S3 I I' → F (some (.int (iI 1))) (gM I' J)) (hf : ¬ mL I wn → ∀ I', fq S3 I I' → F (some (.int (iI 0))) (gM I' J)) {I' : Nat → Nat → Int32} (hx : fq S3 I I') (hs : shL I I' 10) (ho : okL I 10) : ∀ (nz : Nat) (a : Nat) (b : Nat), (10 - a) * 11 + (10 - b) < nz → a < 10 → a < b → b ≤ 10 → (∀ a' b', a' < b' → b' < 10 → lyB I a' → lyB I b' → 10 * a' + b' < 10 * a + b → ¬ qrl I a' b') → Wp (sE kX12_mayLie RX12) F 21 [(0, .ref 171), (1, .int (iI (a : Int))), (2, .int (iI (b : Int)))] [] (gM I' J) := by
  intro nz
  induction nz with
  | zero =>
    intro a b hmz ha hab hb hq
    exact absurd hmz (Nat.not_lt_zero _)
  | succ nz ih =>
    intro a b hmz ha hab hb hq
    refine w_iload_n dX12_mayLie_21 rfl ?_
    refine w_bipush (v := iI 10) dX12_mayLie_22 (by decide) ?_
    refine v_icmp_ge 62 dX12_mayLie_24 (by decide) (by omega) (by omega) (fun c24 => ?_) (fun c24 => ?_)
    · refine v_iinc dX12_mayLie_62 rfl rfl rfl ?_
      refine w_goto 11 dX12_mayLie_65 (by decide) ?_
      refine w_iload_n dX12_mayLie_11 rfl ?_
      refine w_bipush (v := iI 10) dX12_mayLie_12 (by decide) ?_
      refine v_icmp_ge 68 dX12_mayLie_14 (by decide) (by omega) (by omega) (fun c14 => ?_) (fun c14 => ?_)
      · refine w_aload_n dX12_mayLie_68 rfl ?_
        refine v_callV0 dX12_mayLie_69 lX12_142 vX12_runsCan (by decide) rfl rfl ⟨by decide, rfl⟩ (by decide) rfl (Nat.le_of_ble_eq_true rfl) ?_
        have nq : nQ I := fun a' b' g1 g2 l1 l2 => hq a' b' g1 g2 l1 l2 (by omega)
        have iff1 : (∀ y : Nat, y < 16 → allR I' wn (fun x => rsAt I' y x)) ↔ (∀ y : Nat, y < 16 → allR I wn (fun x => lS I y x)) := by
          have e : ∀ y : Nat, (fun x => rsAt I' y x) = (fun x => lS I y x) := fun y => funext fun x => rsAt_ls ho hs y x
          constructor
          · intro g y hy
            rw [← e y, ← allR_I (fun k => hx 183 k (by unfold S3; omega)) (fun k => hx 184 k (by unfold S3; omega))]; exact g y hy
          · intro g y hy
            rw [e y, allR_I (fun k => hx 183 k (by unfold S3; omega)) (fun k => hx 184 k (by unfold S3; omega))]; exact g y hy
        refine x12_runsCan (wn := wn) (by rw [hx _ _ (by unfold S3; omega)]; exact hw) hw2 (fun w g => by rw [hx _ _ (by unfold S3; omega)]; exact hsz w g) (fun q69 I2 m2 => ?_) (fun q69 I2 m2 => ?_)
        all_goals rw [iff1] at q69
        · refine v_zret dX12_mayLie_72 rfl ⟨rfl, rfl⟩ (by decide) ?_
          first
            | exact ht ⟨ho, nq, q69⟩ I2 (fun k hk => by rw [m2 185 k (by unfold SR; omega), m2 186 k (by unfold SR; omega)]; exact hs k hk) (fun id k g => (m2 id k (fun q => g (by unfold S3; have : (id = 171 ∧ 17 ≤ k ∧ k ≤ 20) := q; omega))).trans (hx id k g))
            | exact hf (fun g => q69 g.2.2) I2 (fun id k g => (m2 id k (fun q => g (by unfold S3; have : (id = 171 ∧ 17 ≤ k ∧ k ≤ 20) := q; omega))).trans (hx id k g))
        · refine v_zret dX12_mayLie_72 rfl ⟨rfl, rfl⟩ (by decide) ?_
          first
            | exact ht ⟨ho, nq, q69⟩ I2 (fun k hk => by rw [m2 185 k (by unfold SR; omega), m2 186 k (by unfold SR; omega)]; exact hs k hk) (fun id k g => (m2 id k (fun q => g (by unfold S3; have : (id = 171 ∧ 17 ≤ k ∧ k ≤ 20) := q; omega))).trans (hx id k g))
            | exact hf (fun g => q69 g.2.2) I2 (fun id k g => (m2 id k (fun q => g (by unfold S3; have : (id = 171 ∧ 17 ≤ k ∧ k ≤ 20) := q; omega))).trans (hx id k g))
      · refine w_iload_n dX12_mayLie_17 rfl ?_
        refine w_iconst (v := iI 1) dX12_mayLie_18 rfl ?_
        refine v_iadd dX12_mayLie_19 ?_
        refine w_istore_n dX12_mayLie_20 rfl rfl ?_
        first
          | (rw [show (a : Int) + 1 = ((a + 1 : Nat) : Int) by omega]
             rw [show ((a + 1 : Nat) : Int) + 1 = ((a + 1 + 1 : Nat) : Int) by omega]
             exact ih (a + 1) (a + 1 + 1) (by omega) (by omega) (by omega) (by omega) (fun a' b' g1 g2 l1 l2 g3 => hq a' b' g1 g2 l1 l2 (by omega)))
          | (rw [show (b : Int) + 1 = ((b + 1 : Nat) : Int) by omega]
             refine ih a (b + 1) (by omega) (by omega) (by omega) (by omega) (fun a' b' g1 g2 l1 l2 g3 => ?_)
             by_cases g4 : a' = a ∧ b' = b
             · rw [g4.1, g4.2]
               have l1' : rd I 177 a' ≠ 0 := l1
               have l2' : rd I 177 b' ≠ 0 := l2
               rw [g4.1] at l1'
               rw [g4.2] at l2'
               first
                 | exact q48
                 | (exfalso; omega)
             · exact hq a' b' g1 g2 l1 l2 (by omega))
    · refine w_aload_n dX12_mayLie_27 rfl ?_
      refine v_getR (j := 177) dX12_mayLie_28 fX12_26 ⟨by decide, rfl⟩ rfl rfl ?_
      refine w_iload_n dX12_mayLie_31 rfl ?_
      refine v_zald dX12_mayLie_32 ⟨by decide, rfl⟩ (by omega) (by omega) (by decide) (fun z32 e32 b32 => ?_)
      have f32 : z32 = rd I 177 a := by rw [e32, hx _ _ (by unfold S3; omega)]; rfl
      refine v_if_eq 56 dX12_mayLie_33 (by decide) (by omega) (fun c33 => ?_) (fun c33 => ?_)
      · refine v_iinc dX12_mayLie_56 rfl rfl rfl ?_
        refine w_goto 21 dX12_mayLie_59 (by decide) ?_
        first
          | (rw [show (a : Int) + 1 = ((a + 1 : Nat) : Int) by omega]
             rw [show ((a + 1 : Nat) : Int) + 1 = ((a + 1 + 1 : Nat) : Int) by omega]
             exact ih (a + 1) (a + 1 + 1) (by omega) (by omega) (by omega) (by omega) (fun a' b' g1 g2 l1 l2 g3 => hq a' b' g1 g2 l1 l2 (by omega)))
          | (rw [show (b : Int) + 1 = ((b + 1 : Nat) : Int) by omega]
             refine ih a (b + 1) (by omega) (by omega) (by omega) (by omega) (fun a' b' g1 g2 l1 l2 g3 => ?_)
             by_cases g4 : a' = a ∧ b' = b
             · rw [g4.1, g4.2]
               have l1' : rd I 177 a' ≠ 0 := l1
               have l2' : rd I 177 b' ≠ 0 := l2
               rw [g4.1] at l1'
               rw [g4.2] at l2'
               first
                 | exact q48
                 | (exfalso; omega)
             · exact hq a' b' g1 g2 l1 l2 (by omega))
      · refine w_aload_n dX12_mayLie_36 rfl ?_
        refine v_getR (j := 177) dX12_mayLie_37 fX12_26 ⟨by decide, rfl⟩ rfl rfl ?_
        refine w_iload_n dX12_mayLie_40 rfl ?_
        refine v_zald dX12_mayLie_41 ⟨by decide, rfl⟩ (by omega) (by omega) (by decide) (fun z41 e41 b41 => ?_)
        have f41 : z41 = rd I 177 b := by rw [e41, hx _ _ (by unfold S3; omega)]; rfl
        refine v_if_eq 56 dX12_mayLie_42 (by decide) (by omega) (fun c42 => ?_) (fun c42 => ?_)
        · refine v_iinc dX12_mayLie_56 rfl rfl rfl ?_
          refine w_goto 21 dX12_mayLie_59 (by decide) ?_
          first
            | (rw [show (a : Int) + 1 = ((a + 1 : Nat) : Int) by omega]
               rw [show ((a + 1 : Nat) : Int) + 1 = ((a + 1 + 1 : Nat) : Int) by omega]
               exact ih (a + 1) (a + 1 + 1) (by omega) (by omega) (by omega) (by omega) (fun a' b' g1 g2 l1 l2 g3 => hq a' b' g1 g2 l1 l2 (by omega)))
            | (rw [show (b : Int) + 1 = ((b + 1 : Nat) : Int) by omega]
               refine ih a (b + 1) (by omega) (by omega) (by omega) (by omega) (fun a' b' g1 g2 l1 l2 g3 => ?_)
               by_cases g4 : a' = a ∧ b' = b
               · rw [g4.1, g4.2]
                 have l1' : rd I 177 a' ≠ 0 := l1
                 have l2' : rd I 177 b' ≠ 0 := l2
                 rw [g4.1] at l1'
                 rw [g4.2] at l2'
                 first
                   | exact q48
                   | (exfalso; omega)
               · exact hq a' b' g1 g2 l1 l2 (by omega))
        · refine w_aload_n dX12_mayLie_45 rfl ?_
          refine w_iload_n dX12_mayLie_46 rfl ?_
          refine w_iload_n dX12_mayLie_47 rfl ?_
          refine v_callV2 dX12_mayLie_48 lX12_139 vX12_quarrel (by decide) rfl rfl ⟨by decide, rfl⟩ (by decide) rfl (Nat.le_of_ble_eq_true rfl) ?_
          refine x12_quarrel (a := a) (b := b) (by omega) (by omega) (fun c g => by rw [hx _ _ (by unfold S3; omega)]; exact hR c g) (fun c g => by rw [hx _ _ (by unfold S3; omega)]; exact hC c g) (fun q48 => ?_) (fun q48 => ?_)
          all_goals rw [qrl_fq hx] at q48
          · refine v_if_eq 56 dX12_mayLie_51 (by decide) (by decide) (fun q => absurd q (by decide)) (fun _ => ?_)
            refine w_iconst (v := iI 0) dX12_mayLie_54 rfl ?_
            refine v_zret dX12_mayLie_55 rfl ⟨rfl, rfl⟩ (by decide) ?_
            refine hf (fun g => g.2.1 a b (by omega) (by omega) (by show rd I 177 a ≠ 0; omega) (by show rd I 177 b ≠ 0; omega) q48) I' hx
          · refine v_if_eq 56 dX12_mayLie_51 (by decide) (by decide) (fun _ => ?_) (fun q => absurd q (by decide))
            refine v_iinc dX12_mayLie_56 rfl rfl rfl ?_
            refine w_goto 21 dX12_mayLie_59 (by decide) ?_
            first
              | (rw [show (a : Int) + 1 = ((a + 1 : Nat) : Int) by omega]
                 rw [show ((a + 1 : Nat) : Int) + 1 = ((a + 1 + 1 : Nat) : Int) by omega]
                 exact ih (a + 1) (a + 1 + 1) (by omega) (by omega) (by omega) (by omega) (fun a' b' g1 g2 l1 l2 g3 => hq a' b' g1 g2 l1 l2 (by omega)))
              | (rw [show (b : Int) + 1 = ((b + 1 : Nat) : Int) by omega]
                 refine ih a (b + 1) (by omega) (by omega) (by omega) (by omega) (fun a' b' g1 g2 l1 l2 g3 => ?_)
                 by_cases g4 : a' = a ∧ b' = b
                 · rw [g4.1, g4.2]
                   have l1' : rd I 177 a' ≠ 0 := l1
                   have l2' : rd I 177 b' ≠ 0 := l2
                   rw [g4.1] at l1'
                   rw [g4.2] at l2'
                   first
                     | exact q48
                     | (exfalso; omega)
                 · exact hq a' b' g1 g2 l1 l2 (by omega))
theorem x12_mayLie {I : Nat → Nat → Int32} {J : Nat → Nat → Int64} {F : Option Value → zM → Prop} (hR : ∀ b, b < 10 → -1000 ≤ rd I 178 b ∧ rd I 178 b ≤ 1000) (hC : ∀ b, b < 10 → -1000 ≤ rd I 179 b ∧ rd I 179 b ≤ 1000) {wn : Nat} (hw : rd I 171 12 = wn) (hw2 : wn ≤ 12) (hsz : ∀ w, w < wn → 1 ≤ rd I 183 w ∧ rd I 183 w ≤ 10) (ht : mL I wn → ∀ I', shL I I' 10 → fq S3 I I' → F (some (.int (iI 1))) (gM I' J)) (hf : ¬ mL I wn → ∀ I', fq S3 I I' → F (some (.int (iI 0))) (gM I' J)) : Cl yX12_mayLie kX12_mayLie [.ref 171] (gM I J) F := by
  refine cl_s (by decide) (by decide) (Nat.le_of_ble_eq_true rfl) rt_z ?_
  show Wp _ F 0 [(0, .ref 171)] [] _
  refine w_aload_n dX12_mayLie_0 rfl ?_
  refine v_callV0 dX12_mayLie_1 lX12_136 vX12_laysAll (by decide) rfl rfl ⟨by decide, rfl⟩ (by decide) rfl (Nat.le_of_ble_eq_true rfl) ?_
  refine x12_laysAll hR hC (fun q1 I1 s1 m1 => ?_) (fun q1 I1 m1 => ?_)
  · refine v_if_ne 9 dX12_mayLie_4 (by decide) (by decide) (fun _ => ?_) (fun q => absurd q (by decide))
    refine w_iconst (v := iI 0) dX12_mayLie_9 rfl ?_
    refine w_istore_n dX12_mayLie_10 rfl rfl ?_
    refine w_iload_n dX12_mayLie_11 rfl ?_
    refine w_bipush (v := iI 10) dX12_mayLie_12 (by decide) ?_
    refine v_icmp_ge 68 dX12_mayLie_14 (by decide) (by decide) (by decide) (fun q => absurd q (by decide)) (fun _ => ?_)
    refine w_iload_n dX12_mayLie_17 rfl ?_
    refine w_iconst (v := iI 1) dX12_mayLie_18 rfl ?_
    refine v_iadd dX12_mayLie_19 ?_
    refine w_istore_n dX12_mayLie_20 rfl rfl ?_
    exact x12_mayLie_l hR hC hw hw2 hsz ht hf (fq_2 m1) s1 q1 200 0 1 (by omega) (by omega) (by omega) (by omega) (fun a' b' g1 g2 l1 l2 g3 => by omega)
  · refine v_if_ne 9 dX12_mayLie_4 (by decide) (by decide) (fun q => absurd q (by decide)) (fun _ => ?_)
    refine w_iconst (v := iI 0) dX12_mayLie_7 rfl ?_
    refine v_zret dX12_mayLie_8 rfl ⟨rfl, rfl⟩ (by decide) ?_
    exact hf (fun g => q1 g.1) I1 (fq_2 m1)
theorem x12_puts {I : Nat → Nat → Int32} {J : Nat → Nat → Int64} {F : Option Value → zM → Prop} {q : Nat} (hq : q < 10) {r c : Int} (br : -2147483648 ≤ r ∧ r < 2147483648) (bc : -2147483648 ≤ c ∧ c < 2147483648) (h : F none (gM (wr (wr (wr I 177 q 1) 178 q r) 179 q c) J)) : Cl yX12_puts kX12_puts [.ref 171, .int (iI (q : Int)), .int (iI r), .int (iI c)] (gM I J) F := by
  refine cl_s (by decide) (by decide) (Nat.le_of_ble_eq_true rfl) rt_v ?_
  show Wp _ F 0 [(0, .ref 171), (1, .int (iI (q : Int))), (2, .int (iI r)), (3, .int (iI c))] [] _
  refine w_aload_n dX12_puts_0 rfl ?_
  refine v_getR (j := 177) dX12_puts_1 fX12_26 ⟨by decide, rfl⟩ rfl rfl ?_
  refine w_iload_n dX12_puts_4 rfl ?_
  refine w_iconst (v := iI 1) dX12_puts_5 rfl ?_
  refine v_zast dX12_puts_6 ⟨by decide, rfl⟩ (by omega) (by omega) (by decide) (by decide) ?_
  refine w_aload_n dX12_puts_7 rfl ?_
  refine v_getR (j := 178) dX12_puts_8 fX12_29 ⟨by decide, rfl⟩ rfl rfl ?_
  refine w_iload_n dX12_puts_11 rfl ?_
  refine w_iload_n dX12_puts_12 rfl ?_
  refine v_iast dX12_puts_13 ⟨by decide, rfl⟩ (by omega) (by omega) (by decide) ?_
  refine w_aload_n dX12_puts_14 rfl ?_
  refine v_getR (j := 179) dX12_puts_15 fX12_32 ⟨by decide, rfl⟩ rfl rfl ?_
  refine w_iload_n dX12_puts_18 rfl ?_
  refine w_iload_n dX12_puts_19 rfl ?_
  refine v_iast dX12_puts_20 ⟨by decide, rfl⟩ (by omega) (by omega) (by decide) ?_
  refine v_vret dX12_puts_21 rfl ⟨rfl, rfl⟩ ?_
  exact h
theorem x12_lay {I : Nat → Nat → Int32} {J : Nat → Nat → Int64} {F : Option Value → zM → Prop} {b r c : Int} (bb : -2147483648 ≤ b ∧ b < 2147483648) (br : -2147483648 ≤ r ∧ r < 2147483648) (bc : -2147483648 ≤ c ∧ c < 2147483648) (hR : ∀ b, b < 10 → -1000 ≤ rd I 178 b ∧ rd I 178 b ≤ 1000) (hC : ∀ b, b < 10 → -1000 ≤ rd I 179 b ∧ rd I 179 b ≤ 1000) {wn : Nat} (hw : rd I 171 12 = wn) (hw2 : wn ≤ 12) (hsz : ∀ w, w < wn → 1 ≤ rd I 183 w ∧ rd I 183 w ≤ 10) (hn : (∀ q : Nat, b = q → q < 10 → rd I 173 q ≠ 0 → rd I 177 q = 0 → ¬ (-4 ≤ r ∧ r ≤ 15 ∧ -9 ≤ c ∧ c ≤ 31)) → F (some (.int (iI 0))) (gM I J)) (ht : ∀ q : Nat, b = q → q < 10 → rd I 173 q ≠ 0 → rd I 177 q = 0 → (-4 ≤ r ∧ r ≤ 15 ∧ -9 ≤ c ∧ c ≤ 31) → mL (wr (wr (wr I 177 q 1) 178 q r) 179 q c) wn → ∀ I', fq S3 (wr (wr (wr I 177 q 1) 178 q r) 179 q c) I' → F (some (.int (iI 1))) (gM I' J)) (hf : ∀ q : Nat, b = q → q < 10 → rd I 173 q ≠ 0 → rd I 177 q = 0 → (-4 ≤ r ∧ r ≤ 15 ∧ -9 ≤ c ∧ c ≤ 31) → ¬ mL (wr (wr (wr I 177 q 1) 178 q r) 179 q c) wn → ∀ I', fq S3 (wr (wr (wr I 177 q 1) 178 q r) 179 q c) I' → F (some (.int (iI 0))) (gM (wr I' 177 q 0) J)) : Cl yX12_lay kX12_lay [.ref 171, .int (iI b), .int (iI r), .int (iI c)] (gM I J) F := by
  refine cl_s (by decide) (by decide) (Nat.le_of_ble_eq_true rfl) rt_z ?_
  show Wp _ F 0 [(0, .ref 171), (1, .int (iI b)), (2, .int (iI r)), (3, .int (iI c))] [] _
  refine w_aload_n dX12_lay_0 rfl ?_
  refine w_iload_n dX12_lay_1 rfl ?_
  refine v_callV1 dX12_lay_2 lX12_81 vX12_isBit (by decide) rfl rfl ⟨by decide, rfl⟩ (by decide) rfl (Nat.le_of_ble_eq_true rfl) ?_
  refine x12_isBit (by omega) (fun q2 => ?_) (fun q hqe hq hqc => ?_)
  rotate_left
  · refine v_if_eq 39 dX12_lay_5 (by decide) (by decide) (fun q => absurd q (by decide)) (fun _ => ?_)
    refine w_aload_n dX12_lay_8 rfl ?_
    refine v_getR (j := 177) dX12_lay_9 fX12_26 ⟨by decide, rfl⟩ rfl rfl ?_
    refine w_iload_n dX12_lay_12 rfl ?_
    refine v_zald dX12_lay_13 ⟨by decide, rfl⟩ (by omega) (by omega) (by decide) (fun z13 e13 b13 => ?_)
    have f13 : z13 = rd I 177 q := by rw [e13]; congr 1; omega
    refine v_if_ne 39 dX12_lay_14 (by decide) (by omega) (fun c14 => ?_) (fun c14 => ?_)
    · refine w_iconst (v := iI 0) dX12_lay_39 rfl ?_
      refine v_zret dX12_lay_40 rfl ⟨rfl, rfl⟩ (by decide) ?_
      refine hn (fun q' g1 g2 g3 g4 g5 => ?_)
      first | exact absurd (q2 q' g1 g2) g3 | omega | (have g6 : q' = q := (by omega); subst g6; omega)
    · refine w_iload_n dX12_lay_17 rfl ?_
      refine w_bipush (v := iI (-4)) dX12_lay_18 (by decide) ?_
      refine w_bipush (v := iI 15) dX12_lay_20 (by decide) ?_
      refine v_callS3 dX12_lay_22 lX12_69 vX12_isIn (by decide) rfl rfl (Nat.le_of_ble_eq_true rfl) ?_
      refine x12_isIn (by omega) (by omega) (by omega) (fun q22 => ?_) (fun q22 => ?_)
      · refine v_if_eq 39 dX12_lay_25 (by decide) (by decide) (fun q => absurd q (by decide)) (fun _ => ?_)
        refine w_iload_n dX12_lay_28 rfl ?_
        refine w_bipush (v := iI (-9)) dX12_lay_29 (by decide) ?_
        refine w_bipush (v := iI 31) dX12_lay_31 (by decide) ?_
        refine v_callS3 dX12_lay_33 lX12_69 vX12_isIn (by decide) rfl rfl (Nat.le_of_ble_eq_true rfl) ?_
        refine x12_isIn (by omega) (by omega) (by omega) (fun q33 => ?_) (fun q33 => ?_)
        · refine v_if_ne 41 dX12_lay_36 (by decide) (by decide) (fun _ => ?_) (fun q => absurd q (by decide))
          refine w_aload_n dX12_lay_41 rfl ?_
          refine w_iload_n dX12_lay_42 rfl ?_
          refine w_iload_n dX12_lay_43 rfl ?_
          refine w_iload_n dX12_lay_44 rfl ?_
          refine v_callV3 dX12_lay_45 lX12_145 vX12_puts (by decide) rfl rfl ⟨by decide, rfl⟩ (by decide) rfl (Nat.le_of_ble_eq_true rfl) ?_
          subst hqe
          refine x12_puts hq (by omega) (by omega) ?_
          refine w_aload_n dX12_lay_48 rfl ?_
          refine v_callV0 dX12_lay_49 lX12_149 vX12_mayLie (by decide) rfl rfl ⟨by decide, rfl⟩ (by decide) rfl (Nat.le_of_ble_eq_true rfl) ?_
          refine x12_mayLie (wn := wn) (fun d g => ?_) (fun d g => ?_) (by rw [rd_wr_row (by decide), rd_wr_row (by decide), rd_wr_row (by decide)]; exact hw) hw2 (fun w g => by rw [rd_wr_row (by decide), rd_wr_row (by decide), rd_wr_row (by decide)]; exact hsz w g) (fun q49 I2 s2 m2 => ?_) (fun q49 I2 m2 => ?_)
          · rw [rd_wr_row (by decide), rd_wr (by omega) (by omega)]
            split
            · omega
            · rw [rd_wr_row (by decide)]; exact hR d g
          · rw [rd_wr (by omega) (by omega)]
            split
            · omega
            · rw [rd_wr_row (by decide), rd_wr_row (by decide)]; exact hC d g
          · refine v_if_eq 57 dX12_lay_52 (by decide) (by decide) (fun q => absurd q (by decide)) (fun _ => ?_)
            refine w_iconst (v := iI 1) dX12_lay_55 rfl ?_
            refine v_zret dX12_lay_56 rfl ⟨rfl, rfl⟩ (by decide) ?_
            exact ht q rfl hq hqc (by omega) (by omega) q49 I2 m2
          · refine v_if_eq 57 dX12_lay_52 (by decide) (by decide) (fun _ => ?_) (fun q => absurd q (by decide))
            refine w_aload_n dX12_lay_57 rfl ?_
            refine v_getR (j := 177) dX12_lay_58 fX12_26 ⟨by decide, rfl⟩ rfl rfl ?_
            refine w_iload_n dX12_lay_61 rfl ?_
            refine w_iconst (v := iI 0) dX12_lay_62 rfl ?_
            refine v_zast dX12_lay_63 ⟨by decide, rfl⟩ (by omega) (by omega) (by decide) (by decide) ?_
            refine w_iconst (v := iI 0) dX12_lay_64 rfl ?_
            refine v_zret dX12_lay_65 rfl ⟨rfl, rfl⟩ (by decide) ?_
            exact hf q rfl hq hqc (by omega) (by omega) q49 I2 m2
        · refine v_if_ne 41 dX12_lay_36 (by decide) (by decide) (fun q => absurd q (by decide)) (fun _ => ?_)
          refine w_iconst (v := iI 0) dX12_lay_39 rfl ?_
          refine v_zret dX12_lay_40 rfl ⟨rfl, rfl⟩ (by decide) ?_
          refine hn (fun q' g1 g2 g3 g4 g5 => ?_)
          first | exact absurd (q2 q' g1 g2) g3 | omega | (have g6 : q' = q := (by omega); subst g6; omega)
      · refine v_if_eq 39 dX12_lay_25 (by decide) (by decide) (fun _ => ?_) (fun q => absurd q (by decide))
        refine w_iconst (v := iI 0) dX12_lay_39 rfl ?_
        refine v_zret dX12_lay_40 rfl ⟨rfl, rfl⟩ (by decide) ?_
        refine hn (fun q' g1 g2 g3 g4 g5 => ?_)
        first | exact absurd (q2 q' g1 g2) g3 | omega | (have g6 : q' = q := (by omega); subst g6; omega)
  · refine v_if_eq 39 dX12_lay_5 (by decide) (by decide) (fun _ => ?_) (fun q => absurd q (by decide))
    refine w_iconst (v := iI 0) dX12_lay_39 rfl ?_
    refine v_zret dX12_lay_40 rfl ⟨rfl, rfl⟩ (by decide) ?_
    refine hn (fun q' g1 g2 g3 g4 g5 => ?_)
    first | exact absurd (q2 q' g1 g2) g3 | omega | (have g6 : q' = q := (by omega); subst g6; omega)
theorem x12_take {I : Nat → Nat → Int32} {J : Nat → Nat → Int64} {F : Option Value → zM → Prop} {b : Int} (bb : -2147483648 ≤ b ∧ b < 2147483648) (hn : (∀ q : Nat, b = q → q < 10 → rd I 173 q ≠ 0 → rd I 177 q = 0) → F (some (.int (iI 0))) (gM I J)) (hy : ∀ q : Nat, b = q → q < 10 → rd I 173 q ≠ 0 → rd I 177 q ≠ 0 → F (some (.int (iI 1))) (gM (wr I 177 q 0) J)) : Cl yX12_take kX12_take [.ref 171, .int (iI b)] (gM I J) F := by
  refine cl_s (by decide) (by decide) (Nat.le_of_ble_eq_true rfl) rt_z ?_
  show Wp _ F 0 [(0, .ref 171), (1, .int (iI b))] [] _
  refine w_aload_n dX12_take_0 rfl ?_
  refine w_iload_n dX12_take_1 rfl ?_
  refine v_callV1 dX12_take_2 lX12_81 vX12_isBit (by decide) rfl rfl ⟨by decide, rfl⟩ (by decide) rfl (Nat.le_of_ble_eq_true rfl) ?_
  refine x12_isBit (by omega) (fun q2 => ?_) (fun q hqe hq hqc => ?_)
  rotate_left
  · refine v_if_eq 17 dX12_take_5 (by decide) (by decide) (fun q => absurd q (by decide)) (fun _ => ?_)
    refine w_aload_n dX12_take_8 rfl ?_
    refine v_getR (j := 177) dX12_take_9 fX12_26 ⟨by decide, rfl⟩ rfl rfl ?_
    refine w_iload_n dX12_take_12 rfl ?_
    refine v_zald dX12_take_13 ⟨by decide, rfl⟩ (by omega) (by omega) (by decide) (fun z13 e13 b13 => ?_)
    have f13 : z13 = rd I 177 q := by rw [e13]; congr 1; omega
    refine v_if_ne 19 dX12_take_14 (by decide) (by omega) (fun c14 => ?_) (fun c14 => ?_)
    · refine w_aload_n dX12_take_19 rfl ?_
      refine v_getR (j := 177) dX12_take_20 fX12_26 ⟨by decide, rfl⟩ rfl rfl ?_
      refine w_iload_n dX12_take_23 rfl ?_
      refine w_iconst (v := iI 0) dX12_take_24 rfl ?_
      refine v_zast dX12_take_25 ⟨by decide, rfl⟩ (by omega) (by omega) (by decide) (by decide) ?_
      refine w_iconst (v := iI 1) dX12_take_26 rfl ?_
      refine v_zret dX12_take_27 rfl ⟨rfl, rfl⟩ (by decide) ?_
      subst hqe
      exact hy q rfl hq hqc (by omega)
    · refine w_iconst (v := iI 0) dX12_take_17 rfl ?_
      refine v_zret dX12_take_18 rfl ⟨rfl, rfl⟩ (by decide) ?_
      refine hn (fun q' g1 g2 g3 => ?_)
      first | exact absurd (q2 q' g1 g2) g3 | (have g6 : q' = q := (by omega); subst g6; omega)
  · refine v_if_eq 17 dX12_take_5 (by decide) (by decide) (fun _ => ?_) (fun q => absurd q (by decide))
    refine w_iconst (v := iI 0) dX12_take_17 rfl ?_
    refine v_zret dX12_take_18 rfl ⟨rfl, rfl⟩ (by decide) ?_
    refine hn (fun q' g1 g2 g3 => ?_)
    first | exact absurd (q2 q' g1 g2) g3 | (have g6 : q' = q := (by omega); subst g6; omega)
theorem x12_place {I : Nat → Nat → Int32} {J : Nat → Nat → Int64} {F : Option Value → zM → Prop} {b k : Int} (bb : -2147483648 ≤ b ∧ b < 2147483648) (bk : -2147483648 ≤ k ∧ k < 2147483648) (hn : (∀ q : Nat, b = q → q < 10 → rd I 173 q ≠ 0 → rd I 177 q ≠ 0 → ¬ (k = 0 ∨ k = 1)) → F (some (.int (iI (-1)))) (gM I J)) (h0 : ∀ q : Nat, b = q → q < 10 → rd I 173 q ≠ 0 → rd I 177 q ≠ 0 → k = 0 → F (some (.int (iI (rd I 178 q)))) (gM I J)) (h1 : ∀ q : Nat, b = q → q < 10 → rd I 173 q ≠ 0 → rd I 177 q ≠ 0 → k = 1 → F (some (.int (iI (rd I 179 q)))) (gM I J)) : Cl yX12_place kX12_place [.ref 171, .int (iI b), .int (iI k)] (gM I J) F := by
  refine cl_s (by decide) (by decide) (Nat.le_of_ble_eq_true rfl) rt_i ?_
  show Wp _ F 0 [(0, .ref 171), (1, .int (iI b)), (2, .int (iI k))] [] _
  refine w_aload_n dX12_place_0 rfl ?_
  refine w_iload_n dX12_place_1 rfl ?_
  refine v_callV1 dX12_place_2 lX12_81 vX12_isBit (by decide) rfl rfl ⟨by decide, rfl⟩ (by decide) rfl (Nat.le_of_ble_eq_true rfl) ?_
  refine x12_isBit (by omega) (fun q2 => ?_) (fun q hqe hq hqc => ?_)
  rotate_left
  · refine v_if_eq 17 dX12_place_5 (by decide) (by decide) (fun q => absurd q (by decide)) (fun _ => ?_)
    refine w_aload_n dX12_place_8 rfl ?_
    refine v_getR (j := 177) dX12_place_9 fX12_26 ⟨by decide, rfl⟩ rfl rfl ?_
    refine w_iload_n dX12_place_12 rfl ?_
    refine v_zald dX12_place_13 ⟨by decide, rfl⟩ (by omega) (by omega) (by decide) (fun z13 e13 b13 => ?_)
    have f13 : z13 = rd I 177 q := by rw [e13]; congr 1; omega
    refine v_if_ne 19 dX12_place_14 (by decide) (by omega) (fun c14 => ?_) (fun c14 => ?_)
    · refine w_iload_n dX12_place_19 rfl ?_
      refine v_if_ne 32 dX12_place_20 (by decide) (by omega) (fun c20 => ?_) (fun c20 => ?_)
      · refine w_iload_n dX12_place_32 rfl ?_
        refine w_iconst (v := iI 1) dX12_place_33 rfl ?_
        refine v_icmp_ne 46 dX12_place_34 (by decide) (by omega) (by omega) (fun c34 => ?_) (fun c34 => ?_)
        · refine w_iconst (v := iI (-1)) dX12_place_46 rfl ?_
          refine v_iret dX12_place_47 rfl ⟨rfl, rfl⟩ ?_
          first
            | (rw [e28]; subst hqe; exact h0 q rfl hq hqc (by omega) (by omega))
            | (rw [e42]; subst hqe; exact h1 q rfl hq hqc (by omega) (by omega))
            | (refine hn (fun q' g1 g2 g3 g4 => ?_)
               first | exact absurd (q2 q' g1 g2) g3 | (have g6 : q' = q := (by omega); subst g6; omega))
        · refine w_aload_n dX12_place_37 rfl ?_
          refine v_getR (j := 179) dX12_place_38 fX12_32 ⟨by decide, rfl⟩ rfl rfl ?_
          refine w_iload_n dX12_place_41 rfl ?_
          refine v_iald dX12_place_42 ⟨by decide, rfl⟩ (by omega) (by omega) (by decide) (fun z42 e42 b42 => ?_)
          refine w_goto 47 dX12_place_43 (by decide) ?_
          refine v_iret dX12_place_47 rfl ⟨rfl, rfl⟩ ?_
          first
            | (rw [e28]; subst hqe; exact h0 q rfl hq hqc (by omega) (by omega))
            | (rw [e42]; subst hqe; exact h1 q rfl hq hqc (by omega) (by omega))
            | (refine hn (fun q' g1 g2 g3 g4 => ?_)
               first | exact absurd (q2 q' g1 g2) g3 | (have g6 : q' = q := (by omega); subst g6; omega))
      · refine w_aload_n dX12_place_23 rfl ?_
        refine v_getR (j := 178) dX12_place_24 fX12_29 ⟨by decide, rfl⟩ rfl rfl ?_
        refine w_iload_n dX12_place_27 rfl ?_
        refine v_iald dX12_place_28 ⟨by decide, rfl⟩ (by omega) (by omega) (by decide) (fun z28 e28 b28 => ?_)
        refine w_goto 47 dX12_place_29 (by decide) ?_
        refine v_iret dX12_place_47 rfl ⟨rfl, rfl⟩ ?_
        first
          | (rw [e28]; subst hqe; exact h0 q rfl hq hqc (by omega) (by omega))
          | (rw [e42]; subst hqe; exact h1 q rfl hq hqc (by omega) (by omega))
          | (refine hn (fun q' g1 g2 g3 g4 => ?_)
             first | exact absurd (q2 q' g1 g2) g3 | (have g6 : q' = q := (by omega); subst g6; omega))
    · refine w_iconst (v := iI (-1)) dX12_place_17 rfl ?_
      refine v_iret dX12_place_18 rfl ⟨rfl, rfl⟩ ?_
      refine hn (fun q' g1 g2 g3 g4 => ?_)
      first | exact absurd (q2 q' g1 g2) g3 | (have g6 : q' = q := (by omega); subst g6; omega)
  · refine v_if_eq 17 dX12_place_5 (by decide) (by decide) (fun _ => ?_) (fun q => absurd q (by decide))
    refine w_iconst (v := iI (-1)) dX12_place_17 rfl ?_
    refine v_iret dX12_place_18 rfl ⟨rfl, rfl⟩ ?_
    refine hn (fun q' g1 g2 g3 g4 => ?_)
    first | exact absurd (q2 q' g1 g2) g3 | (have g6 : q' = q := (by omega); subst g6; omega)
