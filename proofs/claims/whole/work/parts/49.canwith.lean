/-! whether RUNS can with a BIT: THE SHEET of the class -/
/-- the sheet's signs with a BIT at (R, C) -/
def pS (I : Nat → Nat → Int32) (ce : Nat → Int) (R C y x : Int) : Int := if cA ce R C y x ≠ 95 then cA ce R C y x else sgAt I y x
theorem rd_ext {I I' : Nat → Nat → Int32} (h : ∀ id k, rd I' id k = rd I id k) : I' = I := funext fun id => funext fun k => Int32.toInt_inj.mp (h id k)
theorem pS_at {I I' : Nat → Nat → Int32} {ce : Nat → Int} {R C : Int} (h : pnt I I' 143 ce R C (fun k => cA ce R C ((k / 32 : Nat) : Int) ((k % 32 : Nat) : Int))) (hr : ∀ y x : Int, cA ce R C y x ≠ 95 → inS y x) (y x : Int) : sgAt I' y x = pS I ce R C y x := by
  unfold pS
  by_cases g : inS y x
  · have g2 : 0 ≤ y ∧ y < 16 ∧ 0 ≤ x ∧ x < 32 := g
    unfold sgAt
    rw [if_pos g, if_pos g, h 143 _, show ((((y * 32 + x).toNat / 32 : Nat)) : Int) = y by omega, show ((((y * 32 + x).toNat % 32 : Nat)) : Int) = x by omega]
    by_cases q : cA ce R C y x = 95
    · rw [if_neg (fun u => u.2.2 q), if_neg (fun u => u q)]
    · rw [if_pos ⟨rfl, by omega, q⟩, if_pos q]
      (try dsimp only)
      rw [show ((((y * 32 + x).toNat / 32 : Nat)) : Int) = y by omega, show ((((y * 32 + x).toNat % 32 : Nat)) : Int) = x by omega]
  · have q : cA ce R C y x = 95 := by
      apply Classical.byContradiction
      intro u
      exact g (hr y x u)
    rw [if_neg (fun u => u q)]
    unfold sgAt
    rw [if_neg g, if_neg g]
theorem pS_sB {I : Nat → Nat → Int32} {ce : Nat → Int} {R C : Int} (hr : ∀ y x : Int, cA ce R C y x ≠ 95 → inS y x) (y : Int) : sB (fun x => pS I ce R C y x) := fun x hx => by
  show pS I ce R C y x = 95
  unfold pS
  have ng : ¬ inS y x := fun g => by have g2 : 0 ≤ y ∧ y < 16 ∧ 0 ≤ x ∧ x < 32 := g; omega
  rw [if_neg (fun u => ng (hr y x u))]
  exact sgAt_sB I y x hx
theorem pS_row {I : Nat → Nat → Int32} {b wn : Nat} {ce : Nat → Int} {R C : Int} {r f l : Nat} (hr : ∀ y x : Int, cA ce R C y x ≠ 95 → inS y x ∧ sgAt I y x = 95) (r5 : r < 5) (l10 : l < 10) (hfl : ∀ c, c < 10 → ce (10 * r + c) ≠ 95 → f ≤ c ∧ c ≤ l) : allR I wn (fun x => pS I ce R C (R + r) x) ↔ allR I wn (fun x => sgAt I (R + r) x) ∧ tchR I wn (fun x => pS I ce R C (R + r) x) (C + f) (C + l) := by
  refine allR_lay (pS_sB (fun y x g => (hr y x g).1) _) (fun x g => ?_) (fun x g => ?_)
  · (try dsimp only)
    unfold pS
    rw [if_neg]
    intro u
    exact g (hr _ _ u).2
  · (try dsimp only)
    unfold pS
    rw [if_neg]
    intro u
    have u2 := cA_ne u
    have := hfl (x - C).toNat (by omega) (by
      have := u2.2.2.2.2
      rw [show (10 * (R + (r : Int) - R) + (x - C)).toNat = 10 * r + (x - C).toNat by omega] at this
      exact this)
    omega
theorem pS_no {I : Nat → Nat → Int32} {ce : Nat → Int} {R C y : Int} (h : ¬ (0 ≤ y - R ∧ y - R < 5 ∧ rowH ce (y - R).toNat)) : (fun x => pS I ce R C y x) = (fun x => sgAt I y x) := funext fun x => by
  unfold pS
  rw [if_neg]
  intro u
  have u2 := cA_ne u
  refine h ⟨u2.1, u2.2.1, (x - C).toNat, by omega, ?_⟩
  rw [show 10 * (y - R).toNat + (x - C).toNat = (10 * (y - R) + (x - C)).toNat by omega]
  exact u2.2.2.2.2
theorem tchR_cg {I I' : Nat → Nat → Int32} (h3 : ∀ k, rd I' 183 k = rd I 183 k) (h4 : ∀ k, rd I' 184 k = rd I 184 k) {wn : Nat} {s : Int → Int} {f l : Int} : tchR I' wn s f l ↔ tchR I wn s f l := by
  unfold tchR
  simp only [okR_I h3 h4]
theorem x8_runsCanWith_0 {I : Nat → Nat → Int32} {J : Nat → Nat → Int64} {F : Option Value → zM → Prop} {b : Nat} (hb : b < 10) {ce : Nat → Int} {n : Nat} (hS : ∀ k, k < 50 → rd I (bI b 1) k = ce k) (hB : RBc I b ce n) {R C : Int} (hR : -1000 ≤ R ∧ R ≤ 1000) (hC : -1000 ≤ C ∧ C ≤ 1000) (hrm : ∀ y x : Int, cA ce R C y x ≠ 95 → inS y x ∧ sgAt I y x = 95) {I1 : Nat → Nat → Int32} (p1 : pnt I I1 143 ce R C (fun k => cA ce R C ((k / 32 : Nat) : Int) ((k % 32 : Nat) : Int))) {r : Int} (hr : 0 ≤ r ∧ r ≤ 10) (hf : ∀ J' : Nat → Nat → Int64, (∀ id k, id ≠ 140 → id ≠ 141 → J' id k = J id k) → F (some (.int (iI 0))) (gM I J')) {J' : Nat → Nat → Int64} (hJ : (∀ id k, id ≠ 140 → id ≠ 141 → J' id k = J id k)) : Wp (sE kX8_runsCanWith RX8) F 23 [(0, .ref 142), (1, .ref (bI b 0)), (2, .int (iI R)), (3, .int (iI C)), (4, .ref 134), (5, .int (iI 0)), (6, .int (iI r))] [] (gM I1 J') := by
  refine w_iload dX8_runsCanWith_23 rfl ?_
  refine w_iconst (v := iI 5) dX8_runsCanWith_25 rfl ?_
  refine v_icmp_ge 81 dX8_runsCanWith_26 (by decide) (by omega) (by omega) (fun c26 => ?_) (fun c26 => ?_)
  · refine w_aload_n dX8_runsCanWith_81 rfl ?_
    refine w_aload_n dX8_runsCanWith_82 rfl ?_
    refine w_iload_n dX8_runsCanWith_83 rfl ?_
    refine w_iload_n dX8_runsCanWith_84 rfl ?_
    refine v_callV3 dX8_runsCanWith_85 lX8_81 vX8_wipe (by decide) rfl rfl ⟨by decide, rfl⟩ (by decide) rfl (Nat.le_of_ble_eq_true rfl) ?_
    refine x8_wipe hb (fun k hk => by rw [pnt_row p1 (by unfold bI; omega)]; exact hS k hk) (RBc_fr hB (pnt_row p1 (by unfold bI; omega) _) (fun k => (pnt_row p1 (by unfold bI; omega) k)) (fun k => (pnt_row p1 (by unfold bI; omega) k))) hR hC (fun I2 p2 => ?_)
    have eB : I2 = I := rd_ext fun id k => by
      rw [p2 id k]
      by_cases g : id = 143 ∧ k < 512 ∧ cA ce R C ((k / 32 : Nat) : Int) ((k % 32 : Nat) : Int) ≠ 95
      · rw [if_pos g]
        have q := (hrm _ _ g.2.2).2
        have q2 : 0 ≤ ((k / 32 : Nat) : Int) ∧ ((k / 32 : Nat) : Int) < 16 ∧ 0 ≤ ((k % 32 : Nat) : Int) ∧ ((k % 32 : Nat) : Int) < 32 := by omega
        unfold sgAt at q
        rw [if_pos q2, show (((k / 32 : Nat) : Int) * 32 + ((k % 32 : Nat) : Int)).toNat = k by omega] at q
        rw [g.1, q]
      · rw [if_neg g, p1 id k, if_neg g]
    rw [eB]
    refine w_iload dX8_runsCanWith_88 rfl ?_
    refine v_zret dX8_runsCanWith_90 rfl ⟨rfl, rfl⟩ (by decide) ?_
    exact hf J' hJ
  · refine w_iload dX8_runsCanWith_29 rfl ?_
    refine v_if_eq 81 dX8_runsCanWith_31 (by decide) (by decide) (fun _ => ?_) (fun q => absurd q (by decide))
    refine w_aload_n dX8_runsCanWith_81 rfl ?_
    refine w_aload_n dX8_runsCanWith_82 rfl ?_
    refine w_iload_n dX8_runsCanWith_83 rfl ?_
    refine w_iload_n dX8_runsCanWith_84 rfl ?_
    refine v_callV3 dX8_runsCanWith_85 lX8_81 vX8_wipe (by decide) rfl rfl ⟨by decide, rfl⟩ (by decide) rfl (Nat.le_of_ble_eq_true rfl) ?_
    refine x8_wipe hb (fun k hk => by rw [pnt_row p1 (by unfold bI; omega)]; exact hS k hk) (RBc_fr hB (pnt_row p1 (by unfold bI; omega) _) (fun k => (pnt_row p1 (by unfold bI; omega) k)) (fun k => (pnt_row p1 (by unfold bI; omega) k))) hR hC (fun I2 p2 => ?_)
    have eB : I2 = I := rd_ext fun id k => by
      rw [p2 id k]
      by_cases g : id = 143 ∧ k < 512 ∧ cA ce R C ((k / 32 : Nat) : Int) ((k % 32 : Nat) : Int) ≠ 95
      · rw [if_pos g]
        have q := (hrm _ _ g.2.2).2
        have q2 : 0 ≤ ((k / 32 : Nat) : Int) ∧ ((k / 32 : Nat) : Int) < 16 ∧ 0 ≤ ((k % 32 : Nat) : Int) ∧ ((k % 32 : Nat) : Int) < 32 := by omega
        unfold sgAt at q
        rw [if_pos q2, show (((k / 32 : Nat) : Int) * 32 + ((k % 32 : Nat) : Int)).toNat = k by omega] at q
        rw [g.1, q]
      · rw [if_neg g, p1 id k, if_neg g]
    rw [eB]
    refine w_iload dX8_runsCanWith_88 rfl ?_
    refine v_zret dX8_runsCanWith_90 rfl ⟨rfl, rfl⟩ (by decide) ?_
    exact hf J' hJ
theorem x8_runsCanWith_l {I : Nat → Nat → Int32} {J : Nat → Nat → Int64} {F : Option Value → zM → Prop} {b : Nat} (hb : b < 10) {ce : Nat → Int} {n wn : Nat} (hL : wRL I J wn) (hS : ∀ k, k < 50 → rd I (bI b 1) k = ce k) (hB : RBc I b ce n) (hE : RBe I b ce) {R C : Int} (hR : -1000 ≤ R ∧ R ≤ 1000) (hC : -1000 ≤ C ∧ C ≤ 1000) (hrm : ∀ y x : Int, cA ce R C y x ≠ 95 → inS y x ∧ sgAt I y x = 95) (hall : ∀ y : Nat, y < 16 → allR I wn (fun x => sgAt I y x)) (ht : (∀ y : Nat, y < 16 → allR I wn (fun x => pS I ce R C y x)) → ∀ J' : Nat → Nat → Int64, (∀ id k, id ≠ 140 → id ≠ 141 → J' id k = J id k) → F (some (.int (iI 1))) (gM I J')) (hf : ¬ (∀ y : Nat, y < 16 → allR I wn (fun x => pS I ce R C y x)) → ∀ J' : Nat → Nat → Int64, (∀ id k, id ≠ 140 → id ≠ 141 → J' id k = J id k) → F (some (.int (iI 0))) (gM I J')) {I1 : Nat → Nat → Int32} (p1 : pnt I I1 143 ce R C (fun k => cA ce R C ((k / 32 : Nat) : Int) ((k % 32 : Nat) : Int))) : ∀ (nz : Nat) (r : Nat) (J' : Nat → Nat → Int64), 5 - r < nz → r ≤ 5 → (∀ r' : Nat, r' < r → 0 ≤ R + r' → R + r' < 16 → allR I wn (fun x => pS I ce R C (R + r') x)) → (∀ id k, id ≠ 140 → id ≠ 141 → J' id k = J id k) → Wp (sE kX8_runsCanWith RX8) F 23 [(0, .ref 142), (1, .ref (bI b 0)), (2, .int (iI R)), (3, .int (iI C)), (4, .ref 134), (5, .int (iI 1)), (6, .int (iI (r : Int)))] [] (gM I1 J') := by
  intro nz
  induction nz with
  | zero =>
    intro r J' hmz hr hd hJ
    exact absurd hmz (Nat.not_lt_zero _)
  | succ nz ih =>
    intro r J' hmz hr hd hJ
    refine w_iload dX8_runsCanWith_23 rfl ?_
    refine w_iconst (v := iI 5) dX8_runsCanWith_25 rfl ?_
    refine v_icmp_ge 81 dX8_runsCanWith_26 (by decide) (by omega) (by omega) (fun c26 => ?_) (fun c26 => ?_)
    · refine w_aload_n dX8_runsCanWith_81 rfl ?_
      refine w_aload_n dX8_runsCanWith_82 rfl ?_
      refine w_iload_n dX8_runsCanWith_83 rfl ?_
      refine w_iload_n dX8_runsCanWith_84 rfl ?_
      refine v_callV3 dX8_runsCanWith_85 lX8_81 vX8_wipe (by decide) rfl rfl ⟨by decide, rfl⟩ (by decide) rfl (Nat.le_of_ble_eq_true rfl) ?_
      refine x8_wipe hb (fun k hk => by rw [pnt_row p1 (by unfold bI; omega)]; exact hS k hk) (RBc_fr hB (pnt_row p1 (by unfold bI; omega) _) (fun k => (pnt_row p1 (by unfold bI; omega) k)) (fun k => (pnt_row p1 (by unfold bI; omega) k))) hR hC (fun I2 p2 => ?_)
      have eB : I2 = I := rd_ext fun id k => by
        rw [p2 id k]
        by_cases g : id = 143 ∧ k < 512 ∧ cA ce R C ((k / 32 : Nat) : Int) ((k % 32 : Nat) : Int) ≠ 95
        · rw [if_pos g]
          have q := (hrm _ _ g.2.2).2
          have q2 : 0 ≤ ((k / 32 : Nat) : Int) ∧ ((k / 32 : Nat) : Int) < 16 ∧ 0 ≤ ((k % 32 : Nat) : Int) ∧ ((k % 32 : Nat) : Int) < 32 := by omega
          unfold sgAt at q
          rw [if_pos q2, show (((k / 32 : Nat) : Int) * 32 + ((k % 32 : Nat) : Int)).toNat = k by omega] at q
          rw [g.1, q]
        · rw [if_neg g, p1 id k, if_neg g]
      rw [eB]
      refine w_iload dX8_runsCanWith_88 rfl ?_
      refine v_zret dX8_runsCanWith_90 rfl ⟨rfl, rfl⟩ (by decide) ?_
      first
        | (refine ht (fun y hy => ?_) J' hJ
           by_cases g : 0 ≤ (y : Int) - R ∧ (y : Int) - R < 5
           · have := hd ((y : Int) - R).toNat (by omega) (by omega) (by omega)
             rw [show R + ((((y : Int) - R).toNat : Nat) : Int) = y by omega] at this
             exact this
           · rw [pS_no (fun q => g ⟨q.1, q.2.1⟩)]; exact hall y hy)
    · refine w_iload dX8_runsCanWith_29 rfl ?_
      refine v_if_eq 81 dX8_runsCanWith_31 (by decide) (by decide) (fun q => absurd q (by decide)) (fun _ => ?_)
      refine w_aload_n dX8_runsCanWith_34 rfl ?_
      refine v_getR (j := bI b 5) dX8_runsCanWith_35 fX8_75 (sO_b hb (by decide) rfl) rfl (r0_b hb (by decide)) ?_
      refine w_iload dX8_runsCanWith_38 rfl ?_
      refine v_iald dX8_runsCanWith_40 (sA_b hb (by decide) rfl) (by omega) (by omega) (by decide) (fun z40 e40 b40 => ?_)
      have f40 : z40 = rd I (bI b 5) r := by rw [e40, pnt_row p1 (by unfold bI; omega)]; rfl
      refine w_iconst (v := iI (-1)) dX8_runsCanWith_41 rfl ?_
      refine v_icmp_eq 75 dX8_runsCanWith_42 (by decide) (by omega) (by omega) (fun c42 => ?_) (fun c42 => ?_)
      · refine v_iinc dX8_runsCanWith_75 rfl rfl rfl ?_
        refine w_goto 23 dX8_runsCanWith_78 (by decide) ?_
        first
          | (rw [show (r : Int) + 1 = ((r + 1 : Nat) : Int) by omega]
             first
               | (refine ih (r + 1) J1 (by omega) (by omega) (fun r' g => ?_) (fun id k u1 u2 => by rw [j1 id k u1 u2]; exact hJ id k u1 u2)
                  rcases Nat.lt_succ_iff_lt_or_eq.mp g with u | u
                  · exact hd r' u
                  · subst u; exact fun _ _ => pr.mpr ⟨ha, t1⟩)
               | (refine ih (r + 1) J' (by omega) (by omega) (fun r' g => ?_) hJ
                  rcases Nat.lt_succ_iff_lt_or_eq.mp g with u | u
                  · exact hd r' u
                  · subst u
                    intro i1 i2
                    have nr : ¬ rowH ce r' := fun q => by
                      obtain ⟨f, l, g1, g2, g3, g4, g5, g6, g7, g8⟩ := (hE.1 r' (by omega)).2 q
                      omega
                    rw [pS_no (fun q => nr (by have q3 := q.2.2; rw [show (R + (r' : Int) - R).toNat = r' by omega] at q3; exact q3))]
                    have := hall (R + r').toNat (by omega)
                    rw [show (((R + r').toNat : Nat) : Int) = R + r' by omega] at this
                    exact this))
          | exact x8_runsCanWith_0 hb hS hB hR hC hrm p1 (by omega) (fun J'' u => hf (fun g => t1 (by
              have q := g (R + r).toNat (by omega)
              rw [show (((R + r).toNat : Nat) : Int) = R + r by omega] at q
              exact (pr.mp q).2)) J'' u) (fun id k u1 u2 => by rw [j1 id k u1 u2]; exact hJ id k u1 u2)
      · refine w_aload_n dX8_runsCanWith_45 rfl ?_
        refine w_iload_n dX8_runsCanWith_46 rfl ?_
        refine w_iload dX8_runsCanWith_47 rfl ?_
        refine v_iadd dX8_runsCanWith_49 ?_
        refine w_iload_n dX8_runsCanWith_50 rfl ?_
        refine w_aload_n dX8_runsCanWith_51 rfl ?_
        refine v_getR (j := bI b 4) dX8_runsCanWith_52 fX8_78 (sO_b hb (by decide) rfl) rfl (r0_b hb (by decide)) ?_
        refine w_iload dX8_runsCanWith_55 rfl ?_
        refine v_iald dX8_runsCanWith_57 (sA_b hb (by decide) rfl) (by omega) (by omega) (by decide) (fun z57 e57 b57 => ?_)
        have f57 : z57 = rd I (bI b 4) r := by rw [e57, pnt_row p1 (by unfold bI; omega)]; rfl
        refine v_iadd dX8_runsCanWith_58 ?_
        refine w_iload_n dX8_runsCanWith_59 rfl ?_
        refine w_aload_n dX8_runsCanWith_60 rfl ?_
        refine v_getR (j := bI b 5) dX8_runsCanWith_61 fX8_75 (sO_b hb (by decide) rfl) rfl (r0_b hb (by decide)) ?_
        refine w_iload dX8_runsCanWith_64 rfl ?_
        refine v_iald dX8_runsCanWith_66 (sA_b hb (by decide) rfl) (by omega) (by omega) (by decide) (fun z66 e66 b66 => ?_)
        have f66 : z66 = rd I (bI b 5) r := by rw [e66, pnt_row p1 (by unfold bI; omega)]; rfl
        refine v_iadd dX8_runsCanWith_67 ?_
        refine w_aload dX8_runsCanWith_68 rfl ?_
        refine v_callV4 dX8_runsCanWith_70 lX8_62 vX8_runsCan (by decide) rfl rfl ⟨by decide, rfl⟩ (by decide) rfl (Nat.le_of_ble_eq_true rfl) ?_
        have hz : ∃ f l : Nat, rd I (bI b 4) r = f ∧ rd I (bI b 5) r = l ∧ l < 10 ∧ f ≤ l ∧ (∀ c, c < 10 → ce (10 * r + c) ≠ 95 → f ≤ c ∧ c ≤ l) ∧ 0 ≤ R + r ∧ R + r < 16 ∧ 0 ≤ C + f ∧ C + l < 32 := by
          have hx := hE.1 r (by omega)
          have rh : rowH ce r := by
            apply Classical.byContradiction
            intro g
            have := (hx.1 g).2.1
            rw [← f40] at this
            exact c42 this
          obtain ⟨f, l, g1, g2, g3, g4, g5, g6, g7, g8⟩ := hx.2 rh
          have gf := cA_at (ce := ce) (R := R) (C := C) (k := 10 * r + f) (by omega)
          have gl := cA_at (ce := ce) (R := R) (C := C) (k := 10 * r + l) (by omega)
          rw [show (10 * r + f) / 10 = r by omega, show (10 * r + f) % 10 = f by omega] at gf
          rw [show (10 * r + l) / 10 = r by omega, show (10 * r + l) % 10 = l by omega] at gl
          have i1 : 0 ≤ R + r ∧ R + r < 16 ∧ 0 ≤ C + f ∧ C + f < 32 := (hrm _ _ (by rw [gf]; exact g6)).1
          have i2 : 0 ≤ R + r ∧ R + r < 16 ∧ 0 ≤ C + l ∧ C + l < 32 := (hrm _ _ (by rw [gl]; exact g7)).1
          exact ⟨f, l, g1, g2, g5, g4, g8, by omega, by omega, by omega, by omega⟩
        obtain ⟨f, l, h1, h2, h3, h4, h5, h6, h7, h8, h9⟩ := hz
        rw [f57, h1, f66, h2]
        have eS : (fun x => sgAt I1 (R + r) x) = (fun x => pS I ce R C (R + r) x) := funext fun x => pS_at p1 (fun y x g => (hrm y x g).1) _ x
        have pr := pS_row (wn := wn) (b := b) hrm (show r < 5 by omega) h3 h5
        have ha := hall (R + r).toNat (by omega)
        rw [show (((R + r).toNat : Nat) : Int) = R + r by omega] at ha
        refine x8_runsCan (wn := wn) (wRL_fr hL (pnt_row p1 (by decide) _) (pnt_row p1 (by decide) _) (fun k _ => pnt_row p1 (by decide) _) (fun k _ => pnt_row p1 (by decide) _) hJ) (by omega) (by omega) (by omega) (by omega) (fun t1 J1 j1 => ?_) (fun t1 J1 j1 => ?_)
        all_goals rw [eS, tchR_cg (I := I) (fun k => pnt_row p1 (by decide) _) (fun k => pnt_row p1 (by decide) _)] at t1
        · refine w_istore dX8_runsCanWith_73 rfl rfl ?_
          refine v_iinc dX8_runsCanWith_75 rfl rfl rfl ?_
          refine w_goto 23 dX8_runsCanWith_78 (by decide) ?_
          first
            | (rw [show (r : Int) + 1 = ((r + 1 : Nat) : Int) by omega]
               first
                 | (refine ih (r + 1) J1 (by omega) (by omega) (fun r' g => ?_) (fun id k u1 u2 => by rw [j1 id k u1 u2]; exact hJ id k u1 u2)
                    rcases Nat.lt_succ_iff_lt_or_eq.mp g with u | u
                    · exact hd r' u
                    · subst u; exact fun _ _ => pr.mpr ⟨ha, t1⟩)
                 | (refine ih (r + 1) J' (by omega) (by omega) (fun r' g => ?_) hJ
                    rcases Nat.lt_succ_iff_lt_or_eq.mp g with u | u
                    · exact hd r' u
                    · subst u
                      intro i1 i2
                      have nr : ¬ rowH ce r' := fun q => by
                        obtain ⟨f, l, g1, g2, g3, g4, g5, g6, g7, g8⟩ := (hE.1 r' (by omega)).2 q
                        omega
                      rw [pS_no (fun q => nr (by have q3 := q.2.2; rw [show (R + (r' : Int) - R).toNat = r' by omega] at q3; exact q3))]
                      have := hall (R + r').toNat (by omega)
                      rw [show (((R + r').toNat : Nat) : Int) = R + r' by omega] at this
                      exact this))
            | exact x8_runsCanWith_0 hb hS hB hR hC hrm p1 (by omega) (fun J'' u => hf (fun g => t1 (by
                have q := g (R + r).toNat (by omega)
                rw [show (((R + r).toNat : Nat) : Int) = R + r by omega] at q
                exact (pr.mp q).2)) J'' u) (fun id k u1 u2 => by rw [j1 id k u1 u2]; exact hJ id k u1 u2)
        · refine w_istore dX8_runsCanWith_73 rfl rfl ?_
          refine v_iinc dX8_runsCanWith_75 rfl rfl rfl ?_
          refine w_goto 23 dX8_runsCanWith_78 (by decide) ?_
          first
            | (rw [show (r : Int) + 1 = ((r + 1 : Nat) : Int) by omega]
               first
                 | (refine ih (r + 1) J1 (by omega) (by omega) (fun r' g => ?_) (fun id k u1 u2 => by rw [j1 id k u1 u2]; exact hJ id k u1 u2)
                    rcases Nat.lt_succ_iff_lt_or_eq.mp g with u | u
                    · exact hd r' u
                    · subst u; exact fun _ _ => pr.mpr ⟨ha, t1⟩)
                 | (refine ih (r + 1) J' (by omega) (by omega) (fun r' g => ?_) hJ
                    rcases Nat.lt_succ_iff_lt_or_eq.mp g with u | u
                    · exact hd r' u
                    · subst u
                      intro i1 i2
                      have nr : ¬ rowH ce r' := fun q => by
                        obtain ⟨f, l, g1, g2, g3, g4, g5, g6, g7, g8⟩ := (hE.1 r' (by omega)).2 q
                        omega
                      rw [pS_no (fun q => nr (by have q3 := q.2.2; rw [show (R + (r' : Int) - R).toNat = r' by omega] at q3; exact q3))]
                      have := hall (R + r').toNat (by omega)
                      rw [show (((R + r').toNat : Nat) : Int) = R + r' by omega] at this
                      exact this))
            | exact x8_runsCanWith_0 hb hS hB hR hC hrm p1 (by omega) (fun J'' u => hf (fun g => t1 (by
                have q := g (R + r).toNat (by omega)
                rw [show (((R + r).toNat : Nat) : Int) = R + r by omega] at q
                exact (pr.mp q).2)) J'' u) (fun id k u1 u2 => by rw [j1 id k u1 u2]; exact hJ id k u1 u2)
theorem x8_runsCanWith {I : Nat → Nat → Int32} {J : Nat → Nat → Int64} {F : Option Value → zM → Prop} {b : Nat} (hb : b < 10) {ce : Nat → Int} {n wn : Nat} (hL : wRL I J wn) (hS : ∀ k, k < 50 → rd I (bI b 1) k = ce k) (hB : RBc I b ce n) (hE : RBe I b ce) {R C : Int} (hR : -1000 ≤ R ∧ R ≤ 1000) (hC : -1000 ≤ C ∧ C ≤ 1000) (hrm : ∀ y x : Int, cA ce R C y x ≠ 95 → inS y x ∧ sgAt I y x = 95) (hall : ∀ y : Nat, y < 16 → allR I wn (fun x => sgAt I y x)) (ht : (∀ y : Nat, y < 16 → allR I wn (fun x => pS I ce R C y x)) → ∀ J' : Nat → Nat → Int64, (∀ id k, id ≠ 140 → id ≠ 141 → J' id k = J id k) → F (some (.int (iI 1))) (gM I J')) (hf : ¬ (∀ y : Nat, y < 16 → allR I wn (fun x => pS I ce R C y x)) → ∀ J' : Nat → Nat → Int64, (∀ id k, id ≠ 140 → id ≠ 141 → J' id k = J id k) → F (some (.int (iI 0))) (gM I J')) : Cl yX8_runsCanWith kX8_runsCanWith [.ref 142, .ref (bI b 0), .int (iI R), .int (iI C), .ref 134] (gM I J) F := by
  refine cl_s (by decide) (by decide) (Nat.le_of_ble_eq_true rfl) rt_z ?_
  show Wp _ F 0 [(0, .ref 142), (1, .ref (bI b 0)), (2, .int (iI R)), (3, .int (iI C)), (4, .ref 134)] [] _
  refine w_aload dX8_runsCanWith_0 rfl ?_
  refine v_getI dX8_runsCanWith_2 fX8_66 ⟨by decide, rfl⟩ (Or.inl rfl) (fun z2 e2 b2 => ?_)
  have f2 : z2 = wn := by rw [e2]; exact hL.c
  refine v_if_ne 10 dX8_runsCanWith_5 (by decide) (by omega) (fun c5 => ?_) (fun c5 => ?_)
  · refine w_aload_n dX8_runsCanWith_10 rfl ?_
    refine w_aload_n dX8_runsCanWith_11 rfl ?_
    refine w_iload_n dX8_runsCanWith_12 rfl ?_
    refine w_iload_n dX8_runsCanWith_13 rfl ?_
    refine v_callV3 dX8_runsCanWith_14 lX8_71 vX8_write (by decide) rfl rfl ⟨by decide, rfl⟩ (by decide) rfl (Nat.le_of_ble_eq_true rfl) ?_
    refine x8_write hb hS hB hR hC (fun I1 p1 => ?_)
    refine w_iconst (v := iI 1) dX8_runsCanWith_17 rfl ?_
    refine w_istore dX8_runsCanWith_18 rfl rfl ?_
    refine w_iconst (v := iI 0) dX8_runsCanWith_20 rfl ?_
    refine w_istore dX8_runsCanWith_21 rfl rfl ?_
    exact x8_runsCanWith_l hb hL hS hB hE hR hC hrm hall ht hf p1 6 0 J (by omega) (by omega) (fun r' g => by omega) (fun _ _ _ _ => rfl)
  · refine w_iconst (v := iI 1) dX8_runsCanWith_8 rfl ?_
    refine v_zret dX8_runsCanWith_9 rfl ⟨rfl, rfl⟩ (by decide) ?_
    exact ht (fun y hy a e hr => Or.inl (by omega)) J (fun _ _ _ _ => rfl)
