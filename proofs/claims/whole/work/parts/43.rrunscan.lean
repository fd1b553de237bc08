/-! whether BITS may lie so: the reference -/
theorem cB_cong {I I' : Nat → Nat → Int32} (h3 : ∀ k, rd I' 183 k = rd I 183 k) (h4 : ∀ k, rd I' 184 k = rd I 184 k) {sg : Nat → Int} {n w : Nat} {c1 c2 : Int} : cB I' sg n c1 c2 w ↔ cB I sg n c1 c2 w := by
  unfold cB
  simp only [h3, h4]
theorem okR_I {I I' : Nat → Nat → Int32} (h3 : ∀ k, rd I' 183 k = rd I 183 k) (h4 : ∀ k, rd I' 184 k = rd I 184 k) {wn : Nat} {s : Int → Int} {a e : Int} : okR I' wn s a e ↔ okR I wn s a e := by
  unfold okR
  simp only [cB_cong h3 h4]
theorem allR_I {I I' : Nat → Nat → Int32} (h3 : ∀ k, rd I' 183 k = rd I 183 k) (h4 : ∀ k, rd I' 184 k = rd I 184 k) {wn : Nat} {s : Int → Int} : allR I' wn s ↔ allR I wn s := by
  unfold allR
  simp only [okR_I h3 h4]
theorem x12_canAny_l {I : Nat → Nat → Int32} {J : Nat → Nat → Int64} {F : Option Value → zM → Prop} {y a e : Int} (hy : 0 ≤ y ∧ y < 16) (ha0 : 0 ≤ a) (hae : a < e) (he : e ≤ 32) (hF : rd I 171 17 = 32 * y + a) (hE : rd I 171 18 = 32 * y + e) (htx : ∀ x, a ≤ x → x < e → isTx (rsAt I y x)) (hA : rd I 171 19 = c44 (rsAt I y (a - 1))) (hB : rd I 171 20 = c44 (rsAt I y e)) {wn : Nat} (hw : rd I 171 12 = wn) (hw2 : wn ≤ 12) (hsz : ∀ w, w < wn → 1 ≤ rd I 183 w ∧ rd I 183 w ≤ 10) (ht : (okR I wn (fun x => rsAt I y x) a e) → F (some (.int (iI 1))) (gM I J)) (hf : ¬ (okR I wn (fun x => rsAt I y x) a e) → F (some (.int (iI 0))) (gM I J)) : ∀ (nz : Nat) (k : Nat), wn - k < nz → k ≤ wn → (∀ w, w < k → ¬ cB I (fun j => rsAt I y (a + j)) (e - a).toNat (c44 (rsAt I y (a - 1))) (c44 (rsAt I y e)) w) → Wp (sE kX12_canAny RX12) F 2 [(0, .ref 171), (1, .int (iI (k : Int)))] [] (gM I J) := by
  intro nz
  induction nz with
  | zero =>
    intro k hmz hk hn
    exact absurd hmz (Nat.not_lt_zero _)
  | succ nz ih =>
    intro k hmz hk hn
    refine w_iload_n dX12_canAny_2 rfl ?_
    refine w_aload_n dX12_canAny_3 rfl ?_
    refine v_getI dX12_canAny_4 fX12_83 ⟨by decide, rfl⟩ (Or.inl rfl) (fun z4 e4 b4 => ?_)
    have f4 : z4 = wn := by rw [e4]; exact hw
    refine v_icmp_ge 26 dX12_canAny_7 (by decide) (by omega) (by omega) (fun c7 => ?_) (fun c7 => ?_)
    · refine w_aload_n dX12_canAny_26 rfl ?_
      refine v_getI dX12_canAny_27 fX12_83 ⟨by decide, rfl⟩ (Or.inl rfl) (fun z27 e27 b27 => ?_)
      have f27 : z27 = wn := by rw [e27]; exact hw
      refine v_if_ne 37 dX12_canAny_30 (by decide) (by omega) (fun c30 => ?_) (fun c30 => ?_)
      · refine w_iconst (v := iI 0) dX12_canAny_37 rfl ?_
        refine v_zret dX12_canAny_38 rfl ⟨rfl, rfl⟩ (by decide) ?_
        first
          | exact ht (Or.inl (by omega))
          | (refine hf (fun g => ?_)
             rcases g with g | ⟨w, g1, g2⟩
             · omega
             · exact hn w (by omega) g2)
      · refine w_iconst (v := iI 1) dX12_canAny_33 rfl ?_
        refine w_goto 38 dX12_canAny_34 (by decide) ?_
        refine v_zret dX12_canAny_38 rfl ⟨rfl, rfl⟩ (by decide) ?_
        first
          | exact ht (Or.inl (by omega))
          | (refine hf (fun g => ?_)
             rcases g with g | ⟨w, g1, g2⟩
             · omega
             · exact hn w (by omega) g2)
    · refine w_aload_n dX12_canAny_10 rfl ?_
      refine w_iload_n dX12_canAny_11 rfl ?_
      refine v_callV1 dX12_canAny_12 lX12_125 vX12_canBe (by decide) rfl rfl ⟨by decide, rfl⟩ (by decide) rfl (Nat.le_of_ble_eq_true rfl) ?_
      refine x12_canBe hy ha0 hae he hF hE htx hA hB (w := k) (by omega) (hsz k (by omega)) (fun q12 => ?_) (fun q12 => ?_)
      · refine v_if_eq 20 dX12_canAny_15 (by decide) (by decide) (fun q => absurd q (by decide)) (fun _ => ?_)
        refine w_iconst (v := iI 1) dX12_canAny_18 rfl ?_
        refine v_zret dX12_canAny_19 rfl ⟨rfl, rfl⟩ (by decide) ?_
        exact ht (Or.inr ⟨k, by omega, q12⟩)
      · refine v_if_eq 20 dX12_canAny_15 (by decide) (by decide) (fun _ => ?_) (fun q => absurd q (by decide))
        refine v_iinc dX12_canAny_20 rfl rfl rfl ?_
        refine w_goto 2 dX12_canAny_23 (by decide) ?_
        rw [show (k : Int) + 1 = ((k + 1 : Nat) : Int) by omega]
        refine ih (k + 1) (by omega) (by omega) (fun j hj g => ?_)
        rcases Nat.lt_succ_iff_lt_or_eq.mp hj with u | u
        · exact hn j u g
        · subst u; exact q12 g
theorem x12_canAny {I : Nat → Nat → Int32} {J : Nat → Nat → Int64} {F : Option Value → zM → Prop} {y a e : Int} (hy : 0 ≤ y ∧ y < 16) (ha0 : 0 ≤ a) (hae : a < e) (he : e ≤ 32) (hF : rd I 171 17 = 32 * y + a) (hE : rd I 171 18 = 32 * y + e) (htx : ∀ x, a ≤ x → x < e → isTx (rsAt I y x)) (hA : rd I 171 19 = c44 (rsAt I y (a - 1))) (hB : rd I 171 20 = c44 (rsAt I y e)) {wn : Nat} (hw : rd I 171 12 = wn) (hw2 : wn ≤ 12) (hsz : ∀ w, w < wn → 1 ≤ rd I 183 w ∧ rd I 183 w ≤ 10) (ht : (okR I wn (fun x => rsAt I y x) a e) → F (some (.int (iI 1))) (gM I J)) (hf : ¬ (okR I wn (fun x => rsAt I y x) a e) → F (some (.int (iI 0))) (gM I J)) : Cl yX12_canAny kX12_canAny [.ref 171] (gM I J) F := by
  refine cl_s (by decide) (by decide) (Nat.le_of_ble_eq_true rfl) rt_z ?_
  show Wp _ F 0 [(0, .ref 171)] [] _
  refine w_iconst (v := iI 0) dX12_canAny_0 rfl ?_
  refine w_istore_n dX12_canAny_1 rfl rfl ?_
  exact x12_canAny_l hy ha0 hae he hF hE htx hA hB hw hw2 hsz ht hf (wn + 1) 0 (by omega) (by omega) (fun j hj => by omega)
theorem x12_runsCan_l {I : Nat → Nat → Int32} {J : Nat → Nat → Int64} {F : Option Value → zM → Prop} {wn : Nat} (hw : rd I 171 12 = wn) (hw2 : wn ≤ 12) (hsz : ∀ w, w < wn → 1 ≤ rd I 183 w ∧ rd I 183 w ≤ 10) (ht : (∀ y : Nat, y < 16 → allR I wn (fun x => rsAt I y x)) → ∀ I', fq SR I I' → F (some (.int (iI 1))) (gM I' J)) (hf : ¬ (∀ y : Nat, y < 16 → allR I wn (fun x => rsAt I y x)) → ∀ I', fq SR I I' → F (some (.int (iI 0))) (gM I' J)) : ∀ (nz : Nat) (y : Nat) (x : Nat) (I' : Nat → Nat → Int32), (16 - y) * 33 + (32 - x) < nz → y < 16 → x ≤ 32 → fq SR I I' → (∀ y' : Nat, y' < y → allR I wn (fun x => rsAt I y' x)) → (∀ a e, isRun (fun x => rsAt I y x) a e → a < x → okR I wn (fun x => rsAt I y x) a e) → Wp (sE kX12_runsCan RX12) F 19 [(0, .ref 171), (1, .int (iI (y : Int))), (2, .int (iI (x : Int)))] [] (gM I' J) := by
  intro nz
  induction nz with
  | zero =>
    intro y x I' hmz hy hxl hx hd hc
    exact absurd hmz (Nat.not_lt_zero _)
  | succ nz ih =>
    intro y x I' hmz hy hxl hx hd hc
    have eS : ∀ yy xx, rsAt I' yy xx = rsAt I yy xx := rsAt_cong (fun k _ => hx 185 k (by unfold SR; omega))
    have eF : (fun z => rsAt I' y z) = (fun z => rsAt I y z) := funext fun z => eS y z
    refine w_iload_n dX12_runsCan_19 rfl ?_
    refine w_bipush (v := iI 32) dX12_runsCan_20 (by decide) ?_
    refine v_icmp_ge 81 dX12_runsCan_22 (by decide) (by omega) (by omega) (fun c22 => ?_) (fun c22 => ?_)
    · refine v_iinc dX12_runsCan_81 rfl rfl rfl ?_
      refine w_goto 11 dX12_runsCan_84 (by decide) ?_
      refine w_iload_n dX12_runsCan_11 rfl ?_
      refine w_bipush (v := iI 16) dX12_runsCan_12 (by decide) ?_
      refine v_icmp_ge 87 dX12_runsCan_14 (by decide) (by omega) (by omega) (fun c14 => ?_) (fun c14 => ?_)
      · refine w_iconst (v := iI 1) dX12_runsCan_87 rfl ?_
        refine v_zret dX12_runsCan_88 rfl ⟨rfl, rfl⟩ (by decide) ?_
        refine ht (fun y' hy' => ?_) I' hx
        by_cases g : y' < y
        · exact hd y' g
        · rw [show y' = y by omega]
          exact fun a' e' hr' => hc a' e' hr' (by have := sB_in (rsAt_sB I _) (hr'.2.1 a' (by omega) hr'.1); omega)
      · refine w_iconst (v := iI 0) dX12_runsCan_17 rfl ?_
        refine w_istore_n dX12_runsCan_18 rfl rfl ?_
        first
          | (rw [show (y : Int) + 1 = ((y + 1 : Nat) : Int) by omega]
             refine ih (y + 1) 0 I' (by omega) (by omega) (by omega) hx (fun y' hy' => ?_) (fun a' e' hr' g => by have := sB_in (rsAt_sB I _) (hr'.2.1 a' (by omega) hr'.1); omega)
             rcases Nat.lt_succ_iff_lt_or_eq.mp hy' with g | g
             · exact hd y' g
             · subst g
               exact fun a' e' hr' => hc a' e' hr' (by have := sB_in (rsAt_sB I _) (hr'.2.1 a' (by omega) hr'.1); omega))
          | (rw [show (x : Int) + 1 = ((x + 1 : Nat) : Int) by omega]
             first
               | (refine ih y (x + 1) _ (by omega) (by omega) (by omega) hxx hd (fun a' e' hr' g => ?_)
                  by_cases g2 : a' = x
                  · have := run_uni hr' hr (x := (x : Int)) (by omega) (by have := hr'.1; omega) (by omega) (by omega)
                    rw [this.1, this.2]; exact q67
                  · exact hc a' e' hr' (by omega))
               | (refine ih y (x + 1) _ (by omega) (by omega) (by omega) hx hd (fun a' e' hr' g => ?_)
                  by_cases g2 : a' = x
                  · exfalso
                    first
                      | exact q32 (by have := hr'.2.1 x (by omega) (by have := hr'.1; omega); exact this)
                      | exact absurd q51 (by have := hr'.2.2.1; rw [g2] at this; exact this)
                  · exact hc a' e' hr' (by omega)))
    · refine w_aload_n dX12_runsCan_25 rfl ?_
      refine w_bipush (v := iI 32) dX12_runsCan_26 (by decide) ?_
      refine w_iload_n dX12_runsCan_28 rfl ?_
      refine v_imul dX12_runsCan_29 ?_
      refine w_iload_n dX12_runsCan_30 rfl ?_
      refine v_iadd dX12_runsCan_31 ?_
      refine v_callV1 dX12_runsCan_32 lX12_106 vX12_isInk (by decide) rfl rfl ⟨by decide, rfl⟩ (by decide) rfl (Nat.le_of_ble_eq_true rfl) ?_
      refine x12_isInk (by omega) (fun q32 => ?_) (fun q32 => ?_)
      all_goals rw [← rsAt_in (y := y) (x := x) (by omega) (by omega), eS] at q32
      · refine v_if_eq 75 dX12_runsCan_35 (by decide) (by decide) (fun q => absurd q (by decide)) (fun _ => ?_)
        refine w_iload_n dX12_runsCan_38 rfl ?_
        refine v_if_le 60 dX12_runsCan_39 (by decide) (by omega) (fun c39 => ?_) (fun c39 => ?_)
        · refine w_aload_n dX12_runsCan_60 rfl ?_
          refine w_iload_n dX12_runsCan_61 rfl ?_
          refine w_iload_n dX12_runsCan_62 rfl ?_
          refine v_callV2 dX12_runsCan_63 lX12_128 vX12_runAt (by decide) rfl rfl ⟨by decide, rfl⟩ (by decide) rfl (Nat.le_of_ble_eq_true rfl) ?_
          have pn : ¬ isTx (rsAt I y ((x : Int) - 1)) := by
            first | exact q51 | exact fun g => by have := sB_in (rsAt_sB I y) g; omega
          refine x12_runAt (by omega) (by omega) (by rw [eS]; exact q32) (fun a e hr u1 u2 u3 u4 => ?_)
          rw [eF] at hr
          have ax : a = x := by
            apply Classical.byContradiction
            intro g
            exact pn (hr.2.1 (x - 1) (by omega) (by omega))
          subst ax
          rw [eS, eS]
          have eW : ∀ yy xx, rsAt (wr (wr (wr (wr I' 171 19 (c44 (rsAt I y ((x : Int) - 1)))) 171 20 (c44 (rsAt I y e))) 171 17 (32 * y + x)) 171 18 (32 * y + e)) yy xx = rsAt I yy xx := fun yy xx => by
            exact rsAt_cong (fun k _ => by rw [rd_wr_row (by decide), rd_wr_row (by decide), rd_wr_row (by decide), rd_wr_row (by decide)]; exact hx 185 k (by unfold SR; omega)) yy xx
          have cc1 : ∀ v, 0 ≤ c44 v ∧ c44 v ≤ 1 := fun v => by unfold c44; split <;> omega
          have cc2 := cc1 (rsAt I y ((x : Int) - 1))
          have cc3 := cc1 (rsAt I y e)
          have hxx : fq SR I (wr (wr (wr (wr I' 171 19 (c44 (rsAt I y ((x : Int) - 1)))) 171 20 (c44 (rsAt I y e))) 171 17 (32 * y + x)) 171 18 (32 * y + e)) := fun id k g => by
            have g' : ¬ (id = 171 ∧ 17 ≤ k ∧ k ≤ 20) := g
            rw [rd_wr_ne (by omega), rd_wr_ne (by omega), rd_wr_ne (by omega), rd_wr_ne (by omega)]; exact hx id k g
          refine w_aload_n dX12_runsCan_66 rfl ?_
          refine v_callV0 dX12_runsCan_67 lX12_132 vX12_canAny (by decide) rfl rfl ⟨by decide, rfl⟩ (by decide) rfl (Nat.le_of_ble_eq_true rfl) ?_
          refine x12_canAny (y := y) (a := x) (e := e) (by omega) (by omega) (by omega) (by omega) (by rw [rd_wr_ne (by omega), rd_wr_eq (by omega) (by omega)]) (by rw [rd_wr_eq (by omega) (by omega)]) (fun z z1 z2 => by rw [eW]; exact hr.2.1 z z1 z2) (by rw [eW, rd_wr_ne (by omega), rd_wr_ne (by omega), rd_wr_ne (by omega), rd_wr_eq (by omega) (by omega)]) (by rw [eW, rd_wr_ne (by omega), rd_wr_ne (by omega), rd_wr_eq (by omega) (by omega)]) (by rw [rd_wr_ne (by omega), rd_wr_ne (by omega), rd_wr_ne (by omega), rd_wr_ne (by omega), hx _ _ (by unfold SR; omega)]; exact hw) hw2 (fun w g => by rw [rd_wr_row (by decide), rd_wr_row (by decide), rd_wr_row (by decide), rd_wr_row (by decide), hx _ _ (by unfold SR; omega)]; exact hsz w g) (fun q67 => ?_) (fun q67 => ?_)
          all_goals (rw [okR_I (I := I) (fun k => hxx 183 k (by unfold SR; omega)) (fun k => hxx 184 k (by unfold SR; omega)), show (fun z => rsAt (wr (wr (wr (wr I' 171 19 (c44 (rsAt I y ((x : Int) - 1)))) 171 20 (c44 (rsAt I y e))) 171 17 (32 * y + x)) 171 18 (32 * y + e)) y z) = (fun z => rsAt I y z) from funext fun z => eW y z] at q67)
          · refine v_if_ne 75 dX12_runsCan_70 (by decide) (by decide) (fun _ => ?_) (fun q => absurd q (by decide))
            refine v_iinc dX12_runsCan_75 rfl rfl rfl ?_
            refine w_goto 19 dX12_runsCan_78 (by decide) ?_
            first
              | (rw [show (y : Int) + 1 = ((y + 1 : Nat) : Int) by omega]
                 refine ih (y + 1) 0 I' (by omega) (by omega) (by omega) hx (fun y' hy' => ?_) (fun a' e' hr' g => by have := sB_in (rsAt_sB I _) (hr'.2.1 a' (by omega) hr'.1); omega)
                 rcases Nat.lt_succ_iff_lt_or_eq.mp hy' with g | g
                 · exact hd y' g
                 · subst g
                   exact fun a' e' hr' => hc a' e' hr' (by have := sB_in (rsAt_sB I _) (hr'.2.1 a' (by omega) hr'.1); omega))
              | (rw [show (x : Int) + 1 = ((x + 1 : Nat) : Int) by omega]
                 first
                   | (refine ih y (x + 1) _ (by omega) (by omega) (by omega) hxx hd (fun a' e' hr' g => ?_)
                      by_cases g2 : a' = x
                      · have := run_uni hr' hr (x := (x : Int)) (by omega) (by have := hr'.1; omega) (by omega) (by omega)
                        rw [this.1, this.2]; exact q67
                      · exact hc a' e' hr' (by omega))
                   | (refine ih y (x + 1) _ (by omega) (by omega) (by omega) hx hd (fun a' e' hr' g => ?_)
                      by_cases g2 : a' = x
                      · exfalso
                        first
                          | exact q32 (by have := hr'.2.1 x (by omega) (by have := hr'.1; omega); exact this)
                          | exact absurd q51 (by have := hr'.2.2.1; rw [g2] at this; exact this)
                      · exact hc a' e' hr' (by omega)))
          · refine v_if_ne 75 dX12_runsCan_70 (by decide) (by decide) (fun q => absurd q (by decide)) (fun _ => ?_)
            refine w_iconst (v := iI 0) dX12_runsCan_73 rfl ?_
            refine v_zret dX12_runsCan_74 rfl ⟨rfl, rfl⟩ (by decide) ?_
            exact hf (fun g => q67 (g y (by omega) x e hr)) _ hxx
        · refine w_aload_n dX12_runsCan_42 rfl ?_
          refine w_bipush (v := iI 32) dX12_runsCan_43 (by decide) ?_
          refine w_iload_n dX12_runsCan_45 rfl ?_
          refine v_imul dX12_runsCan_46 ?_
          refine w_iload_n dX12_runsCan_47 rfl ?_
          refine v_iadd dX12_runsCan_48 ?_
          refine w_iconst (v := iI 1) dX12_runsCan_49 rfl ?_
          refine v_isub dX12_runsCan_50 ?_
          refine v_callV1 dX12_runsCan_51 lX12_106 vX12_isInk (by decide) rfl rfl ⟨by decide, rfl⟩ (by decide) rfl (Nat.le_of_ble_eq_true rfl) ?_
          refine x12_isInk (by omega) (fun q51 => ?_) (fun q51 => ?_)
          all_goals rw [show 32 * (y : Int) + x - 1 = 32 * y + (x - 1) by omega, ← rsAt_in (y := y) (x := x - 1) (by omega) (by omega), eS] at q51
          · refine v_if_eq 60 dX12_runsCan_54 (by decide) (by decide) (fun q => absurd q (by decide)) (fun _ => ?_)
            refine w_goto 75 dX12_runsCan_57 (by decide) ?_
            refine v_iinc dX12_runsCan_75 rfl rfl rfl ?_
            refine w_goto 19 dX12_runsCan_78 (by decide) ?_
            first
              | (rw [show (y : Int) + 1 = ((y + 1 : Nat) : Int) by omega]
                 refine ih (y + 1) 0 I' (by omega) (by omega) (by omega) hx (fun y' hy' => ?_) (fun a' e' hr' g => by have := sB_in (rsAt_sB I _) (hr'.2.1 a' (by omega) hr'.1); omega)
                 rcases Nat.lt_succ_iff_lt_or_eq.mp hy' with g | g
                 · exact hd y' g
                 · subst g
                   exact fun a' e' hr' => hc a' e' hr' (by have := sB_in (rsAt_sB I _) (hr'.2.1 a' (by omega) hr'.1); omega))
              | (rw [show (x : Int) + 1 = ((x + 1 : Nat) : Int) by omega]
                 first
                   | (refine ih y (x + 1) _ (by omega) (by omega) (by omega) hxx hd (fun a' e' hr' g => ?_)
                      by_cases g2 : a' = x
                      · have := run_uni hr' hr (x := (x : Int)) (by omega) (by have := hr'.1; omega) (by omega) (by omega)
                        rw [this.1, this.2]; exact q67
                      · exact hc a' e' hr' (by omega))
                   | (refine ih y (x + 1) _ (by omega) (by omega) (by omega) hx hd (fun a' e' hr' g => ?_)
                      by_cases g2 : a' = x
                      · exfalso
                        first
                          | exact q32 (by have := hr'.2.1 x (by omega) (by have := hr'.1; omega); exact this)
                          | exact absurd q51 (by have := hr'.2.2.1; rw [g2] at this; exact this)
                      · exact hc a' e' hr' (by omega)))
          · refine v_if_eq 60 dX12_runsCan_54 (by decide) (by decide) (fun _ => ?_) (fun q => absurd q (by decide))
            refine w_aload_n dX12_runsCan_60 rfl ?_
            refine w_iload_n dX12_runsCan_61 rfl ?_
            refine w_iload_n dX12_runsCan_62 rfl ?_
            refine v_callV2 dX12_runsCan_63 lX12_128 vX12_runAt (by decide) rfl rfl ⟨by decide, rfl⟩ (by decide) rfl (Nat.le_of_ble_eq_true rfl) ?_
            have pn : ¬ isTx (rsAt I y ((x : Int) - 1)) := by
              first | exact q51 | exact fun g => by have := sB_in (rsAt_sB I y) g; omega
            refine x12_runAt (by omega) (by omega) (by rw [eS]; exact q32) (fun a e hr u1 u2 u3 u4 => ?_)
            rw [eF] at hr
            have ax : a = x := by
              apply Classical.byContradiction
              intro g
              exact pn (hr.2.1 (x - 1) (by omega) (by omega))
            subst ax
            rw [eS, eS]
            have eW : ∀ yy xx, rsAt (wr (wr (wr (wr I' 171 19 (c44 (rsAt I y ((x : Int) - 1)))) 171 20 (c44 (rsAt I y e))) 171 17 (32 * y + x)) 171 18 (32 * y + e)) yy xx = rsAt I yy xx := fun yy xx => by
              exact rsAt_cong (fun k _ => by rw [rd_wr_row (by decide), rd_wr_row (by decide), rd_wr_row (by decide), rd_wr_row (by decide)]; exact hx 185 k (by unfold SR; omega)) yy xx
            have cc1 : ∀ v, 0 ≤ c44 v ∧ c44 v ≤ 1 := fun v => by unfold c44; split <;> omega
            have cc2 := cc1 (rsAt I y ((x : Int) - 1))
            have cc3 := cc1 (rsAt I y e)
            have hxx : fq SR I (wr (wr (wr (wr I' 171 19 (c44 (rsAt I y ((x : Int) - 1)))) 171 20 (c44 (rsAt I y e))) 171 17 (32 * y + x)) 171 18 (32 * y + e)) := fun id k g => by
              have g' : ¬ (id = 171 ∧ 17 ≤ k ∧ k ≤ 20) := g
              rw [rd_wr_ne (by omega), rd_wr_ne (by omega), rd_wr_ne (by omega), rd_wr_ne (by omega)]; exact hx id k g
            refine w_aload_n dX12_runsCan_66 rfl ?_
            refine v_callV0 dX12_runsCan_67 lX12_132 vX12_canAny (by decide) rfl rfl ⟨by decide, rfl⟩ (by decide) rfl (Nat.le_of_ble_eq_true rfl) ?_
            refine x12_canAny (y := y) (a := x) (e := e) (by omega) (by omega) (by omega) (by omega) (by rw [rd_wr_ne (by omega), rd_wr_eq (by omega) (by omega)]) (by rw [rd_wr_eq (by omega) (by omega)]) (fun z z1 z2 => by rw [eW]; exact hr.2.1 z z1 z2) (by rw [eW, rd_wr_ne (by omega), rd_wr_ne (by omega), rd_wr_ne (by omega), rd_wr_eq (by omega) (by omega)]) (by rw [eW, rd_wr_ne (by omega), rd_wr_ne (by omega), rd_wr_eq (by omega) (by omega)]) (by rw [rd_wr_ne (by omega), rd_wr_ne (by omega), rd_wr_ne (by omega), rd_wr_ne (by omega), hx _ _ (by unfold SR; omega)]; exact hw) hw2 (fun w g => by rw [rd_wr_row (by decide), rd_wr_row (by decide), rd_wr_row (by decide), rd_wr_row (by decide), hx _ _ (by unfold SR; omega)]; exact hsz w g) (fun q67 => ?_) (fun q67 => ?_)
            all_goals (rw [okR_I (I := I) (fun k => hxx 183 k (by unfold SR; omega)) (fun k => hxx 184 k (by unfold SR; omega)), show (fun z => rsAt (wr (wr (wr (wr I' 171 19 (c44 (rsAt I y ((x : Int) - 1)))) 171 20 (c44 (rsAt I y e))) 171 17 (32 * y + x)) 171 18 (32 * y + e)) y z) = (fun z => rsAt I y z) from funext fun z => eW y z] at q67)
            · refine v_if_ne 75 dX12_runsCan_70 (by decide) (by decide) (fun _ => ?_) (fun q => absurd q (by decide))
              refine v_iinc dX12_runsCan_75 rfl rfl rfl ?_
              refine w_goto 19 dX12_runsCan_78 (by decide) ?_
              first
                | (rw [show (y : Int) + 1 = ((y + 1 : Nat) : Int) by omega]
                   refine ih (y + 1) 0 I' (by omega) (by omega) (by omega) hx (fun y' hy' => ?_) (fun a' e' hr' g => by have := sB_in (rsAt_sB I _) (hr'.2.1 a' (by omega) hr'.1); omega)
                   rcases Nat.lt_succ_iff_lt_or_eq.mp hy' with g | g
                   · exact hd y' g
                   · subst g
                     exact fun a' e' hr' => hc a' e' hr' (by have := sB_in (rsAt_sB I _) (hr'.2.1 a' (by omega) hr'.1); omega))
                | (rw [show (x : Int) + 1 = ((x + 1 : Nat) : Int) by omega]
                   first
                     | (refine ih y (x + 1) _ (by omega) (by omega) (by omega) hxx hd (fun a' e' hr' g => ?_)
                        by_cases g2 : a' = x
                        · have := run_uni hr' hr (x := (x : Int)) (by omega) (by have := hr'.1; omega) (by omega) (by omega)
                          rw [this.1, this.2]; exact q67
                        · exact hc a' e' hr' (by omega))
                     | (refine ih y (x + 1) _ (by omega) (by omega) (by omega) hx hd (fun a' e' hr' g => ?_)
                        by_cases g2 : a' = x
                        · exfalso
                          first
                            | exact q32 (by have := hr'.2.1 x (by omega) (by have := hr'.1; omega); exact this)
                            | exact absurd q51 (by have := hr'.2.2.1; rw [g2] at this; exact this)
                        · exact hc a' e' hr' (by omega)))
            · refine v_if_ne 75 dX12_runsCan_70 (by decide) (by decide) (fun q => absurd q (by decide)) (fun _ => ?_)
              refine w_iconst (v := iI 0) dX12_runsCan_73 rfl ?_
              refine v_zret dX12_runsCan_74 rfl ⟨rfl, rfl⟩ (by decide) ?_
              exact hf (fun g => q67 (g y (by omega) x e hr)) _ hxx
      · refine v_if_eq 75 dX12_runsCan_35 (by decide) (by decide) (fun _ => ?_) (fun q => absurd q (by decide))
        refine v_iinc dX12_runsCan_75 rfl rfl rfl ?_
        refine w_goto 19 dX12_runsCan_78 (by decide) ?_
        first
          | (rw [show (y : Int) + 1 = ((y + 1 : Nat) : Int) by omega]
             refine ih (y + 1) 0 I' (by omega) (by omega) (by omega) hx (fun y' hy' => ?_) (fun a' e' hr' g => by have := sB_in (rsAt_sB I _) (hr'.2.1 a' (by omega) hr'.1); omega)
             rcases Nat.lt_succ_iff_lt_or_eq.mp hy' with g | g
             · exact hd y' g
             · subst g
               exact fun a' e' hr' => hc a' e' hr' (by have := sB_in (rsAt_sB I _) (hr'.2.1 a' (by omega) hr'.1); omega))
          | (rw [show (x : Int) + 1 = ((x + 1 : Nat) : Int) by omega]
             first
               | (refine ih y (x + 1) _ (by omega) (by omega) (by omega) hxx hd (fun a' e' hr' g => ?_)
                  by_cases g2 : a' = x
                  · have := run_uni hr' hr (x := (x : Int)) (by omega) (by have := hr'.1; omega) (by omega) (by omega)
                    rw [this.1, this.2]; exact q67
                  · exact hc a' e' hr' (by omega))
               | (refine ih y (x + 1) _ (by omega) (by omega) (by omega) hx hd (fun a' e' hr' g => ?_)
                  by_cases g2 : a' = x
                  · exfalso
                    first
                      | exact q32 (by have := hr'.2.1 x (by omega) (by have := hr'.1; omega); exact this)
                      | exact absurd q51 (by have := hr'.2.2.1; rw [g2] at this; exact this)
                  · exact hc a' e' hr' (by omega)))
theorem x12_runsCan {I : Nat → Nat → Int32} {J : Nat → Nat → Int64} {F : Option Value → zM → Prop} {wn : Nat} (hw : rd I 171 12 = wn) (hw2 : wn ≤ 12) (hsz : ∀ w, w < wn → 1 ≤ rd I 183 w ∧ rd I 183 w ≤ 10) (ht : (∀ y : Nat, y < 16 → allR I wn (fun x => rsAt I y x)) → ∀ I', fq SR I I' → F (some (.int (iI 1))) (gM I' J)) (hf : ¬ (∀ y : Nat, y < 16 → allR I wn (fun x => rsAt I y x)) → ∀ I', fq SR I I' → F (some (.int (iI 0))) (gM I' J)) : Cl yX12_runsCan kX12_runsCan [.ref 171] (gM I J) F := by
  refine cl_s (by decide) (by decide) (Nat.le_of_ble_eq_true rfl) rt_z ?_
  show Wp _ F 0 [(0, .ref 171)] [] _
  refine w_aload_n dX12_runsCan_0 rfl ?_
  refine v_getI dX12_runsCan_1 fX12_83 ⟨by decide, rfl⟩ (Or.inl rfl) (fun z1 e1 b1 => ?_)
  have f1 : z1 = wn := by rw [e1]; exact hw
  refine v_if_ne 9 dX12_runsCan_4 (by decide) (by omega) (fun c4 => ?_) (fun c4 => ?_)
  · refine w_iconst (v := iI 0) dX12_runsCan_9 rfl ?_
    refine w_istore_n dX12_runsCan_10 rfl rfl ?_
    refine w_iload_n dX12_runsCan_11 rfl ?_
    refine w_bipush (v := iI 16) dX12_runsCan_12 (by decide) ?_
    refine v_icmp_ge 87 dX12_runsCan_14 (by decide) (by decide) (by decide) (fun q => absurd q (by decide)) (fun _ => ?_)
    refine w_iconst (v := iI 0) dX12_runsCan_17 rfl ?_
    refine w_istore_n dX12_runsCan_18 rfl rfl ?_
    exact x12_runsCan_l hw hw2 hsz ht hf 1000 0 0 I (by omega) (by omega) (by omega) (fun _ _ _ => rfl) (fun y' g => by omega) (fun a' e' hr' g => by have := sB_in (rsAt_sB I _) (hr'.2.1 a' (by omega) hr'.1); omega)
  · refine w_iconst (v := iI 1) dX12_runsCan_7 rfl ?_
    refine v_zret dX12_runsCan_8 rfl ⟨rfl, rfl⟩ (by decide) ?_
    exact ht (fun y hy a e hr => Or.inl (by omega)) I (fun _ _ _ => rfl)
