/-! a BIT of the class, CELL by CELL -/
def BB (I : Nat → Nat → Int32) (b : Nat) (ce : Nat → Int) (n : Nat) : Prop := (∀ k, k < 50 → rd I (bI b 1) k = ce k) ∧ RBc I b ce n ∧ RBt I b ce n ∧ RBe I b ce ∧ (¬ ink ce → rd I (bI b 0) 8 = -1)
theorem RBc_le {I : Nat → Nat → Int32} {b n : Nat} {ce : Nat → Int} (h : RBc I b ce n) : ∀ j, j < n → j ≤ cp I b j
  | 0, _ => Nat.zero_le _
  | j + 1, hj => by
    have h1 := RBc_le h j (by omega)
    have h2 := h.2.2.2.1 j (j + 1) (by omega) hj
    omega
theorem AC_BB {I I' : Nat → Nat → Int32} {b n r c : Nat} {ce ce' : Nat → Int} {s : Int} (hp : ce' (10 * r + c) = s) (ho : ∀ k, k ≠ 10 * r + c → ce' k = ce k) (hr : r < 5) (hc : c < 10) (hs : s ≠ 95) (he : ∀ k, 10 * r + c ≤ k → ce k = 95) (hB : BB I b ce n) (hA : AC I I' b n r c s) : n < 50 ∧ BB I' b ce' (n + 1) := by
  obtain ⟨a1, a2, a3, a4, a5, a6, a7, a8, a9, a10, -⟩ := hA
  obtain ⟨b1, bC, bT, bE, bL⟩ := hB
  have hlow : ∀ j, j < n → cp I b j < 10 * r + c := fun j hj => by
    rcases Nat.lt_or_ge (cp I b j) (10 * r + c) with q | q
    · exact q
    · exact absurd (he _ q) (bC.2.2.1 j hj).2.2.2.2
  have hn : n ≤ 10 * r + c := by
    rcases Nat.eq_zero_or_pos n with q | q
    · omega
    · have h1 := RBc_le bC (n - 1) (by omega)
      have h2 := hlow (n - 1) (by omega)
      omega
  have cpo : ∀ j, j < n → cp I' b j = cp I b j := fun j hj => by
    unfold cp
    rw [a2 j, a3 j, if_neg (by omega), if_neg (by omega)]
  have cpn : cp I' b n = 10 * r + c := by
    unfold cp
    rw [a2 n, a3 n, if_pos rfl, if_pos rfl]
    omega
  have ceo : ∀ j, j < n → ce' (cp I b j) = ce (cp I b j) := fun j hj => ho _ (Nat.ne_of_lt (hlow j hj))
  refine ⟨by omega, fun k hk => ?_, ⟨by rw [a8]; omega, by omega, fun j hj => ?_, fun i j hij hj => ?_, fun k hk hck => ?_⟩, ⟨fun gi => ?_, fun gi => ?_, fun j hj gt => ?_, fun gi => ?_, ?_, ?_⟩, ⟨fun r' hr' => ?_, fun c' hc' => ?_⟩, fun gi => ?_⟩
  · rw [a1 k, b1 k hk]
    by_cases q : k = 10 * r + c
    · rw [if_pos q, q, hp]
    · rw [if_neg q, ho k q]
  · rcases Nat.lt_succ_iff_lt_or_eq.mp hj with q | q
    · have h1 := bC.2.2.1 j q
      rw [cpo j q, ceo j q, a2 j, a3 j, if_neg (by omega), if_neg (by omega)]
      exact h1
    · subst q
      rw [cpn, hp, a2 j, a3 j, if_pos rfl, if_pos rfl]
      exact ⟨by omega, by omega, by omega, by omega, hs⟩
  · rcases Nat.lt_succ_iff_lt_or_eq.mp hj with q | q
    · rw [cpo i (by omega), cpo j q]
      exact bC.2.2.2.1 i j hij q
    · subst q
      rw [cpn, cpo i hij]
      exact hlow i hij
  · by_cases q : k = 10 * r + c
    · exact ⟨n, by omega, by rw [cpn, q]⟩
    · rw [ho k q] at hck
      obtain ⟨j, h1, h2⟩ := bC.2.2.2.2 k hk hck
      exact ⟨j, by omega, by rw [cpo j h1]; exact h2⟩
  · have g1 : ¬ isTx s := fun z => gi ⟨10 * r + c, by omega, by rw [hp]; exact z⟩
    have g2 : ¬ ink ce := fun ⟨k, z1, z2⟩ => by
      by_cases q : k = 10 * r + c
      · rw [q, he _ (Nat.le_refl _)] at z2
        omega
      · exact gi ⟨k, z1, by rw [ho k q]; exact z2⟩
    rw [a9, if_neg (fun z => g1 z.1)]
    exact bT.1 g2
  · by_cases g2 : ink ce
    · obtain ⟨f, h1, h2, h3, h4⟩ := bT.2.1 g2
      refine ⟨f, by omega, by rw [a9, if_neg (by omega)]; exact h2, ?_, fun j hj => ?_⟩
      · rw [cpo f h1, ceo f h1]; exact h3
      · rw [cpo j (by omega), ceo j (by omega)]; exact h4 j hj
    · have g1 : isTx s := by
        obtain ⟨k, z1, z2⟩ := gi
        by_cases q : k = 10 * r + c
        · rw [q, hp] at z2; exact z2
        · rw [ho k q] at z2; exact absurd ⟨k, z1, z2⟩ g2
      refine ⟨n, by omega, by rw [a9, if_pos ⟨g1, bT.1 g2⟩], ?_, fun j hj => ?_⟩
      · rw [cpn, hp]; exact g1
      · rw [cpo j hj, ceo j hj]
        intro z
        have h5 := cp_rc bC hj
        obtain ⟨r1, c1, -, -, -, -, -, h6⟩ := h5
        exact g2 ⟨_, h6, z⟩
  · rw [a10, a3 j]
    rcases Nat.lt_succ_iff_lt_or_eq.mp hj with q | q
    · rw [cpo j q, ceo j q] at gt
      have h1 := bT.2.2.1 j q gt
      rw [if_neg (by omega)]
      split <;> omega
    · subst q
      rw [cpn, hp] at gt
      rw [if_pos rfl]
      split <;> omega
  · by_cases g1 : isTx s ∧ rd I (bI b 0) 8 < c
    · refine ⟨n, by omega, by rw [cpn, hp]; exact g1.1, ?_⟩
      rw [a3 n, if_pos rfl, a10, if_pos g1]
    · by_cases g2 : ink ce
      · obtain ⟨j, h1, h2, h3⟩ := bT.2.2.2.1 g2
        refine ⟨j, by omega, by rw [cpo j h1, ceo j h1]; exact h2, ?_⟩
        rw [a3 j, if_neg (by omega), a10, if_neg g1]; exact h3
      · have g3 : isTx s := by
          obtain ⟨k, z1, z2⟩ := gi
          by_cases q : k = 10 * r + c
          · rw [q, hp] at z2; exact z2
          · rw [ho k q] at z2; exact absurd ⟨k, z1, z2⟩ g2
        exfalso
        have h1 := bL g2
        exact g1 ⟨g3, by omega⟩
  · have h1 := bT.2.2.2.2
    rw [a10]
    split <;> omega
  · have h1 := bT.2.2.2.2
    rw [a10]
    split <;> omega
  · by_cases q : r' = r
    · subst q
      refine ⟨fun g => absurd ⟨c, hc, by rw [hp]; exact hs⟩ g, fun _ => ?_⟩
      by_cases g2 : rowH ce r'
      · obtain ⟨f, l, h1, h2, h3, h4, h5, h6, h7, h8⟩ := ((bE.1 r' hr').2 g2)
        refine ⟨f, c, by rw [a4 r', if_neg (by omega)]; exact h1, by rw [a5 r', if_pos rfl], by rw [a6 r', if_pos rfl], ?_, hc, ?_, ?_, fun c1 hc1 g => ?_⟩
        · rcases Nat.lt_or_ge c f with z | z
          · exact absurd (he (10 * r' + f) (by omega)) h6
          · exact z
        · by_cases z : f = c
          · rw [z, hp]; exact hs
          · rw [ho _ (by omega)]; exact h6
        · rw [hp]; exact hs
        · by_cases z : c1 = c
          · subst z
            rcases Nat.lt_or_ge c1 f with z | z
            · exact absurd (he (10 * r' + f) (by omega)) h6
            · exact ⟨z, Nat.le_refl _⟩
          · rw [ho _ (by omega)] at g
            refine ⟨(h8 c1 hc1 g).1, ?_⟩
            rcases Nat.lt_or_ge c c1 with y | y
            · exact absurd (he (10 * r' + c1) (by omega)) g
            · exact y
      · obtain ⟨h1, h2, h3⟩ := ((bE.1 r' hr').1 g2)
        refine ⟨c, c, by rw [a4 r', if_pos ⟨rfl, h1⟩], by rw [a5 r', if_pos rfl], by rw [a6 r', if_pos rfl], Nat.le_refl _, hc, ?_, ?_, fun c1 hc1 g => ?_⟩
        · rw [hp]; exact hs
        · rw [hp]; exact hs
        · by_cases z : c1 = c
          · omega
          · rw [ho _ (by omega)] at g
            exact absurd ⟨c1, hc1, g⟩ g2
    · have hne : ∀ k, k < 10 → 10 * r' + k ≠ 10 * r + c := fun k hk => by omega
      have e1 : rowH ce' r' ↔ rowH ce r' := by
        constructor
        · rintro ⟨c1, z1, z2⟩
          rw [ho _ (by omega)] at z2
          exact ⟨c1, z1, z2⟩
        · rintro ⟨c1, z1, z2⟩
          exact ⟨c1, z1, by rw [ho _ (by omega)]; exact z2⟩
      rw [a4 r', a5 r', a6 r', if_neg (fun z => q z.1), if_neg q, if_neg q]
      refine ⟨fun g => (bE.1 r' hr').1 (fun z => g (e1.mpr z)), fun g => ?_⟩
      obtain ⟨f, l, h1, h2, h3, h4, h5, h6, h7, h8⟩ := ((bE.1 r' hr').2 (e1.mp g))
      refine ⟨f, l, h1, h2, h3, h4, h5, ?_, ?_, fun c1 hc1 g => ?_⟩
      · rw [ho _ (hne f (Nat.lt_of_le_of_lt h4 h5))]; exact h6
      · rw [ho _ (hne l h5)]; exact h7
      · rw [ho _ (hne c1 hc1)] at g
        exact h8 c1 hc1 g
  · rw [a7 c']
    by_cases q : c' = c
    · subst q
      rw [if_pos rfl]
      exact ⟨fun _ => rfl, fun g => absurd ⟨r, hr, by rw [hp]; exact hs⟩ g⟩
    · rw [if_neg q]
      have e1 : colH ce' c' ↔ colH ce c' := by
        constructor
        · rintro ⟨r1, z1, z2⟩
          rw [ho _ (by omega)] at z2
          exact ⟨r1, z1, z2⟩
        · rintro ⟨r1, z1, z2⟩
          exact ⟨r1, z1, by rw [ho _ (by omega)]; exact z2⟩
      exact ⟨fun g => (bE.2 c' hc').1 (e1.mp g), fun g => (bE.2 c' hc').2 (fun z => g (e1.mpr z))⟩
  · have g1 : ¬ isTx s := fun z => gi ⟨10 * r + c, by omega, by rw [hp]; exact z⟩
    have g2 : ¬ ink ce := fun ⟨k, z1, z2⟩ => by
      by_cases q : k = 10 * r + c
      · rw [q, he _ (Nat.le_refl _)] at z2
        omega
      · exact gi ⟨k, z1, by rw [ho k q]; exact z2⟩
    rw [a10, if_neg (fun z => g1 z.1)]
    exact bL g2
theorem pC_hi {tp : Nat → Int} : ∀ {n : Nat}, (∀ j, j < n → pB tp j) → ∀ k, 10 * pR tp n + pK tp n ≤ k → pC tp n k = 95
  | 0, _, _, _ => rfl
  | n + 1, h, k, hk => by
    have h0 : ∀ j, j < n → pB tp j := fun j hj => h j (by omega)
    have h1 := pOk_bd h0
    have h2 := h n (by omega)
    unfold pB at h2
    unfold pR pK at hk
    unfold pC
    rw [if_neg (by split at hk <;> omega)]
    exact pC_hi h0 k (by split at hk <;> omega)
theorem pC_sg {tp : Nat → Int} : ∀ {n : Nat}, (∀ j, j < n → pB tp j) → ∀ k, isSg (pC tp n k)
  | 0, _, _ => by simp [pC, isSg]
  | n + 1, h, k => by
    have h2 := h n (by omega)
    unfold pB at h2
    unfold pC
    split
    · omega
    · exact pC_sg (fun j hj => h j (by omega)) k
theorem x0_become_l {I : Nat → Nat → Int32} {J : Nat → Nat → Int64} {F : Option Value → zM → Prop} {b : Nat} (hb : b < 10) {t : Nat} (ht : rd I 1 1 = t) (ht2 : t ≤ 200) (hok : ∀ j, j < t → pB (fun k => rd I 2 k) j) (hy : ∀ I', BB I' b (pC (fun k => rd I 2 k) t) (pM (fun k => rd I 2 k) t) → ((∀ k, k < 5 → rd I' (bI b 7) k = 0) ∧ (∀ k, k < 10 → rd I' (bI b 10) k = 0) ∧ rd I' (bI b 0) 12 = 0 ∧ fq (fun id k => id = bI b 1 ∨ id = bI b 2 ∨ id = bI b 3 ∨ id = bI b 4 ∨ id = bI b 5 ∨ id = bI b 7 ∨ id = bI b 8 ∨ id = bI b 10 ∨ id = bI b 11 ∨ (id = bI b 0 ∧ (k = 4 ∨ k = 7 ∨ k = 8 ∨ k = 12))) I I') → F none (gM I' J)) : ∀ (nz : Nat) (j : Nat) (I' : Nat → Nat → Int32), t - j < nz → j ≤ t → BB I' b (pC (fun k => rd I 2 k) j) (pM (fun k => rd I 2 k) j) → ((∀ k, k < 5 → rd I' (bI b 7) k = 0) ∧ (∀ k, k < 10 → rd I' (bI b 10) k = 0) ∧ rd I' (bI b 0) 12 = 0 ∧ fq (fun id k => id = bI b 1 ∨ id = bI b 2 ∨ id = bI b 3 ∨ id = bI b 4 ∨ id = bI b 5 ∨ id = bI b 7 ∨ id = bI b 8 ∨ id = bI b 10 ∨ id = bI b 11 ∨ (id = bI b 0 ∧ (k = 4 ∨ k = 7 ∨ k = 8 ∨ k = 12))) I I') → Wp (sE kX0_become RX0) F 11 [(0, .ref (bI b 0)), (1, .ref 1), (2, .int (iI (pR (fun k => rd I 2 k) j : Int))), (3, .int (iI (pK (fun k => rd I 2 k) j : Int))), (4, .int (iI (j : Int)))] [] (gM I' J) := by
  intro nz
  induction nz with
  | zero =>
    intro j I' hmz hj hB hz
    exact absurd hmz (Nat.not_lt_zero _)
  | succ nz ih =>
    intro j I' hmz hj hB hz
    have hokj : ∀ i, i < j → pB (fun k => rd I 2 k) i := fun i hi => hok i (by omega)
    have pb := pOk_bd hokj
    have hT : ∀ k, rd I' 2 k = rd I 2 k := fun k => hz.2.2.2 2 k (by (try dsimp only); unfold bI; omega)
    refine w_iload dX0_become_11 rfl ?_
    refine w_aload_n dX0_become_13 rfl ?_
    refine v_getI dX0_become_14 fX0_46 ⟨by decide, rfl⟩ (Or.inl rfl) (fun z14 e14 b14 => ?_)
    have f14 : z14 = t := by rw [e14, hz.2.2.2 1 1 (by (try dsimp only); unfold bI; omega)]; exact ht
    refine v_icmp_ge 79 dX0_become_17 (by decide) (by omega) (by omega) (fun c17 => ?_) (fun c17 => ?_)
    · refine v_vret dX0_become_79 rfl ⟨rfl, rfl⟩ ?_
      have g : j = t := by omega
      subst g
      exact hy I' hB hz
    · refine w_aload_n dX0_become_20 rfl ?_
      refine v_getR (j := 2) dX0_become_21 fX0_51 ⟨by decide, rfl⟩ rfl rfl ?_
      refine w_iload dX0_become_24 rfl ?_
      refine v_iald dX0_become_26 ⟨by decide, rfl⟩ (by omega) (by omega) (by decide) (fun z26 e26 b26 => ?_)
      have f26 : z26 = rd I 2 j := by rw [e26, hT]; congr 1
      have hpj := hok j (by omega)
      unfold pB at hpj
      (try dsimp only at hpj)
      rw [← f26] at hpj
      refine w_istore dX0_become_27 rfl rfl ?_
      refine w_iload dX0_become_29 rfl ?_
      refine w_bipush (v := iI 59) dX0_become_31 (by decide) ?_
      refine v_icmp_ne 44 dX0_become_33 (by decide) (by omega) (by omega) (fun c33 => ?_) (fun c33 => ?_)
      · refine w_iload dX0_become_44 rfl ?_
        refine w_bipush (v := iI 95) dX0_become_46 (by decide) ?_
        refine v_icmp_eq 70 dX0_become_48 (by decide) (by omega) (by omega) (fun c48 => ?_) (fun c48 => ?_)
        · refine v_iinc dX0_become_70 rfl rfl rfl ?_
          refine v_iinc dX0_become_73 rfl rfl rfl ?_
          refine w_goto 11 dX0_become_76 (by decide) ?_
          refine w_keep 5 ?_
          have u1 : (pR (fun k => rd I 2 k) (j + 1) : Int) = if z26 = 59 then (pR (fun k => rd I 2 k) j : Int) + 1 else pR (fun k => rd I 2 k) j := by
            rw [pR, f26]; split <;> rfl
          have u2 : (pK (fun k => rd I 2 k) (j + 1) : Int) = if z26 = 59 then 0 else (pK (fun k => rd I 2 k) j : Int) + 1 := by
            rw [pK, f26]; split <;> rfl
          have u3 : pM (fun k => rd I 2 k) (j + 1) = if z26 = 59 ∨ z26 = 95 then pM (fun k => rd I 2 k) j else pM (fun k => rd I 2 k) j + 1 := by
            rw [pM, f26]
          have u4 : z26 ≠ 59 → pC (fun k => rd I 2 k) (j + 1) (10 * pR (fun k => rd I 2 k) j + pK (fun k => rd I 2 k) j) = z26 := fun h => by
            rw [pC, if_pos ⟨by (try dsimp only); rw [← f26]; exact h, rfl⟩]; exact f26.symm
          have u5 : ∀ k, k ≠ 10 * pR (fun k => rd I 2 k) j + pK (fun k => rd I 2 k) j → pC (fun k => rd I 2 k) (j + 1) k = pC (fun k => rd I 2 k) j k := fun k hk => by
            rw [pC, if_neg (fun g => hk g.2)]
          have u6 : z26 = 59 ∨ z26 = 95 → pC (fun k => rd I 2 k) (j + 1) = pC (fun k => rd I 2 k) j := fun h => by
            funext k
            by_cases g : k = 10 * pR (fun k => rd I 2 k) j + pK (fun k => rd I 2 k) j
            · rcases h with h | h
              · rw [pC, if_neg (fun z => z.1 (by (try dsimp only); rw [← f26]; exact h))]
              · rw [g, u4 (by omega), h, pC_hi hokj _ (Nat.le_refl _)]
            · exact u5 k g
          first
            | (have L := ih (j + 1) I2 (by omega) (by omega) ?_ ?_
               · rw [u1, u2, if_neg (by omega), if_neg (by omega)] at L
                 exact L
               · rw [u3, if_neg (by omega)]
                 exact (AC_BB (u4 (by omega)) u5 (by omega) (by omega) (by omega) (pC_hi hokj) hB hA).2
               · have hx := hA.2.2.2.2.2.2.2.2.2.2
                 have hfr : ∀ r k, (r = 7 ∨ r = 10 ∨ (r = 0 ∧ k = 12)) → rd I2 (bI b r) k = rd I' (bI b r) k := fun r k h => hx _ _ (by (try dsimp only); unfold bI; omega)
                 refine ⟨fun k hk => ?_, fun k hk => ?_, ?_, fun id k hk => ?_⟩
                 · rw [hfr 7 k (by omega)]; exact hz.1 k hk
                 · rw [hfr 10 k (by omega)]; exact hz.2.1 k hk
                 · rw [hfr 0 12 (by omega)]; exact hz.2.2.1
                 · (try dsimp only at hk)
                   rw [hx id k (by (try dsimp only); omega)]
                   exact hz.2.2.2 id k (by (try dsimp only); omega))
            | (have L := ih (j + 1) I' (by omega) (by omega) (by rw [u3, if_pos (by omega), u6 (by omega)]; exact hB) hz
               first
                 | (rw [u1, u2, if_pos (by omega), if_pos (by omega)] at L; exact L)
                 | (rw [u1, u2, if_neg (by omega), if_neg (by omega)] at L; exact L))
        · refine w_iload_n dX0_become_51 rfl ?_
          refine w_iconst (v := iI 5) dX0_become_52 rfl ?_
          refine v_icmp_ge 70 dX0_become_53 (by decide) (by omega) (by omega) (fun c53 => ?_) (fun c53 => ?_)
          · first
              | (exfalso; omega)
              | (refine v_iinc dX0_become_70 rfl rfl rfl ?_
                 refine v_iinc dX0_become_73 rfl rfl rfl ?_
                 refine w_goto 11 dX0_become_76 (by decide) ?_
                 refine w_keep 5 ?_
                 have u1 : (pR (fun k => rd I 2 k) (j + 1) : Int) = if z26 = 59 then (pR (fun k => rd I 2 k) j : Int) + 1 else pR (fun k => rd I 2 k) j := by
                   rw [pR, f26]; split <;> rfl
                 have u2 : (pK (fun k => rd I 2 k) (j + 1) : Int) = if z26 = 59 then 0 else (pK (fun k => rd I 2 k) j : Int) + 1 := by
                   rw [pK, f26]; split <;> rfl
                 have u3 : pM (fun k => rd I 2 k) (j + 1) = if z26 = 59 ∨ z26 = 95 then pM (fun k => rd I 2 k) j else pM (fun k => rd I 2 k) j + 1 := by
                   rw [pM, f26]
                 have u4 : z26 ≠ 59 → pC (fun k => rd I 2 k) (j + 1) (10 * pR (fun k => rd I 2 k) j + pK (fun k => rd I 2 k) j) = z26 := fun h => by
                   rw [pC, if_pos ⟨by (try dsimp only); rw [← f26]; exact h, rfl⟩]; exact f26.symm
                 have u5 : ∀ k, k ≠ 10 * pR (fun k => rd I 2 k) j + pK (fun k => rd I 2 k) j → pC (fun k => rd I 2 k) (j + 1) k = pC (fun k => rd I 2 k) j k := fun k hk => by
                   rw [pC, if_neg (fun g => hk g.2)]
                 have u6 : z26 = 59 ∨ z26 = 95 → pC (fun k => rd I 2 k) (j + 1) = pC (fun k => rd I 2 k) j := fun h => by
                   funext k
                   by_cases g : k = 10 * pR (fun k => rd I 2 k) j + pK (fun k => rd I 2 k) j
                   · rcases h with h | h
                     · rw [pC, if_neg (fun z => z.1 (by (try dsimp only); rw [← f26]; exact h))]
                     · rw [g, u4 (by omega), h, pC_hi hokj _ (Nat.le_refl _)]
                   · exact u5 k g
                 first
                   | (have L := ih (j + 1) I2 (by omega) (by omega) ?_ ?_
                      · rw [u1, u2, if_neg (by omega), if_neg (by omega)] at L
                        exact L
                      · rw [u3, if_neg (by omega)]
                        exact (AC_BB (u4 (by omega)) u5 (by omega) (by omega) (by omega) (pC_hi hokj) hB hA).2
                      · have hx := hA.2.2.2.2.2.2.2.2.2.2
                        have hfr : ∀ r k, (r = 7 ∨ r = 10 ∨ (r = 0 ∧ k = 12)) → rd I2 (bI b r) k = rd I' (bI b r) k := fun r k h => hx _ _ (by (try dsimp only); unfold bI; omega)
                        refine ⟨fun k hk => ?_, fun k hk => ?_, ?_, fun id k hk => ?_⟩
                        · rw [hfr 7 k (by omega)]; exact hz.1 k hk
                        · rw [hfr 10 k (by omega)]; exact hz.2.1 k hk
                        · rw [hfr 0 12 (by omega)]; exact hz.2.2.1
                        · (try dsimp only at hk)
                          rw [hx id k (by (try dsimp only); omega)]
                          exact hz.2.2.2 id k (by (try dsimp only); omega))
                   | (have L := ih (j + 1) I' (by omega) (by omega) (by rw [u3, if_pos (by omega), u6 (by omega)]; exact hB) hz
                      first
                        | (rw [u1, u2, if_pos (by omega), if_pos (by omega)] at L; exact L)
                        | (rw [u1, u2, if_neg (by omega), if_neg (by omega)] at L; exact L)))
          · first
              | (exfalso; omega)
              | (refine w_iload_n dX0_become_56 rfl ?_
                 refine w_bipush (v := iI 10) dX0_become_57 (by decide) ?_
                 refine v_icmp_ge 70 dX0_become_59 (by decide) (by omega) (by omega) (fun c59 => ?_) (fun c59 => ?_)
                 · first
                     | (exfalso; omega)
                     | (refine v_iinc dX0_become_70 rfl rfl rfl ?_
                        refine v_iinc dX0_become_73 rfl rfl rfl ?_
                        refine w_goto 11 dX0_become_76 (by decide) ?_
                        refine w_keep 5 ?_
                        have u1 : (pR (fun k => rd I 2 k) (j + 1) : Int) = if z26 = 59 then (pR (fun k => rd I 2 k) j : Int) + 1 else pR (fun k => rd I 2 k) j := by
                          rw [pR, f26]; split <;> rfl
                        have u2 : (pK (fun k => rd I 2 k) (j + 1) : Int) = if z26 = 59 then 0 else (pK (fun k => rd I 2 k) j : Int) + 1 := by
                          rw [pK, f26]; split <;> rfl
                        have u3 : pM (fun k => rd I 2 k) (j + 1) = if z26 = 59 ∨ z26 = 95 then pM (fun k => rd I 2 k) j else pM (fun k => rd I 2 k) j + 1 := by
                          rw [pM, f26]
                        have u4 : z26 ≠ 59 → pC (fun k => rd I 2 k) (j + 1) (10 * pR (fun k => rd I 2 k) j + pK (fun k => rd I 2 k) j) = z26 := fun h => by
                          rw [pC, if_pos ⟨by (try dsimp only); rw [← f26]; exact h, rfl⟩]; exact f26.symm
                        have u5 : ∀ k, k ≠ 10 * pR (fun k => rd I 2 k) j + pK (fun k => rd I 2 k) j → pC (fun k => rd I 2 k) (j + 1) k = pC (fun k => rd I 2 k) j k := fun k hk => by
                          rw [pC, if_neg (fun g => hk g.2)]
                        have u6 : z26 = 59 ∨ z26 = 95 → pC (fun k => rd I 2 k) (j + 1) = pC (fun k => rd I 2 k) j := fun h => by
                          funext k
                          by_cases g : k = 10 * pR (fun k => rd I 2 k) j + pK (fun k => rd I 2 k) j
                          · rcases h with h | h
                            · rw [pC, if_neg (fun z => z.1 (by (try dsimp only); rw [← f26]; exact h))]
                            · rw [g, u4 (by omega), h, pC_hi hokj _ (Nat.le_refl _)]
                          · exact u5 k g
                        first
                          | (have L := ih (j + 1) I2 (by omega) (by omega) ?_ ?_
                             · rw [u1, u2, if_neg (by omega), if_neg (by omega)] at L
                               exact L
                             · rw [u3, if_neg (by omega)]
                               exact (AC_BB (u4 (by omega)) u5 (by omega) (by omega) (by omega) (pC_hi hokj) hB hA).2
                             · have hx := hA.2.2.2.2.2.2.2.2.2.2
                               have hfr : ∀ r k, (r = 7 ∨ r = 10 ∨ (r = 0 ∧ k = 12)) → rd I2 (bI b r) k = rd I' (bI b r) k := fun r k h => hx _ _ (by (try dsimp only); unfold bI; omega)
                               refine ⟨fun k hk => ?_, fun k hk => ?_, ?_, fun id k hk => ?_⟩
                               · rw [hfr 7 k (by omega)]; exact hz.1 k hk
                               · rw [hfr 10 k (by omega)]; exact hz.2.1 k hk
                               · rw [hfr 0 12 (by omega)]; exact hz.2.2.1
                               · (try dsimp only at hk)
                                 rw [hx id k (by (try dsimp only); omega)]
                                 exact hz.2.2.2 id k (by (try dsimp only); omega))
                          | (have L := ih (j + 1) I' (by omega) (by omega) (by rw [u3, if_pos (by omega), u6 (by omega)]; exact hB) hz
                             first
                               | (rw [u1, u2, if_pos (by omega), if_pos (by omega)] at L; exact L)
                               | (rw [u1, u2, if_neg (by omega), if_neg (by omega)] at L; exact L)))
                 · first
                     | (exfalso; omega)
                     | (refine w_aload_n dX0_become_62 rfl ?_
                        refine w_iload_n dX0_become_63 rfl ?_
                        refine w_iload_n dX0_become_64 rfl ?_
                        refine w_iload dX0_become_65 rfl ?_
                        refine v_callV3 dX0_become_67 lX0_64 vX0_addCell (by decide) rfl rfl (sO_b hb (by decide) rfl) (by decide) rfl (Nat.le_of_ble_eq_true rfl) ?_
                        have hn50 : pM (fun k => rd I 2 k) j < 50 := by
                          rcases Nat.eq_zero_or_pos (pM (fun k => rd I 2 k) j) with q | q
                          · omega
                          · have h1 := RBc_le hB.2.1 (pM (fun k => rd I 2 k) j - 1) (by omega)
                            obtain ⟨r1, c1, k1, k2, k3, k4, k5, k6⟩ := cp_rc hB.2.1 (show pM (fun k => rd I 2 k) j - 1 < pM (fun k => rd I 2 k) j by omega)
                            have h2 := (hB.2.1.2.2.1 (pM (fun k => rd I 2 k) j - 1) (by omega)).2.2.2.2
                            rcases Nat.lt_or_ge (cp I' b (pM (fun k => rd I 2 k) j - 1)) (10 * pR (fun k => rd I 2 k) j + pK (fun k => rd I 2 k) j) with z | z
                            · omega
                            · exact absurd (pC_hi hokj _ z) h2
                        refine x0_addCell (n := pM (fun k => rd I 2 k) j) (r := pR (fun k => rd I 2 k) j) (c := pK (fun k => rd I 2 k) j) hb hB.2.1.1 hn50 (by omega) (by omega) (by omega) (fun I2 hA => ?_)
                        refine v_iinc dX0_become_70 rfl rfl rfl ?_
                        refine v_iinc dX0_become_73 rfl rfl rfl ?_
                        refine w_goto 11 dX0_become_76 (by decide) ?_
                        refine w_keep 5 ?_
                        have u1 : (pR (fun k => rd I 2 k) (j + 1) : Int) = if z26 = 59 then (pR (fun k => rd I 2 k) j : Int) + 1 else pR (fun k => rd I 2 k) j := by
                          rw [pR, f26]; split <;> rfl
                        have u2 : (pK (fun k => rd I 2 k) (j + 1) : Int) = if z26 = 59 then 0 else (pK (fun k => rd I 2 k) j : Int) + 1 := by
                          rw [pK, f26]; split <;> rfl
                        have u3 : pM (fun k => rd I 2 k) (j + 1) = if z26 = 59 ∨ z26 = 95 then pM (fun k => rd I 2 k) j else pM (fun k => rd I 2 k) j + 1 := by
                          rw [pM, f26]
                        have u4 : z26 ≠ 59 → pC (fun k => rd I 2 k) (j + 1) (10 * pR (fun k => rd I 2 k) j + pK (fun k => rd I 2 k) j) = z26 := fun h => by
                          rw [pC, if_pos ⟨by (try dsimp only); rw [← f26]; exact h, rfl⟩]; exact f26.symm
                        have u5 : ∀ k, k ≠ 10 * pR (fun k => rd I 2 k) j + pK (fun k => rd I 2 k) j → pC (fun k => rd I 2 k) (j + 1) k = pC (fun k => rd I 2 k) j k := fun k hk => by
                          rw [pC, if_neg (fun g => hk g.2)]
                        have u6 : z26 = 59 ∨ z26 = 95 → pC (fun k => rd I 2 k) (j + 1) = pC (fun k => rd I 2 k) j := fun h => by
                          funext k
                          by_cases g : k = 10 * pR (fun k => rd I 2 k) j + pK (fun k => rd I 2 k) j
                          · rcases h with h | h
                            · rw [pC, if_neg (fun z => z.1 (by (try dsimp only); rw [← f26]; exact h))]
                            · rw [g, u4 (by omega), h, pC_hi hokj _ (Nat.le_refl _)]
                          · exact u5 k g
                        first
                          | (have L := ih (j + 1) I2 (by omega) (by omega) ?_ ?_
                             · rw [u1, u2, if_neg (by omega), if_neg (by omega)] at L
                               exact L
                             · rw [u3, if_neg (by omega)]
                               exact (AC_BB (u4 (by omega)) u5 (by omega) (by omega) (by omega) (pC_hi hokj) hB hA).2
                             · have hx := hA.2.2.2.2.2.2.2.2.2.2
                               have hfr : ∀ r k, (r = 7 ∨ r = 10 ∨ (r = 0 ∧ k = 12)) → rd I2 (bI b r) k = rd I' (bI b r) k := fun r k h => hx _ _ (by (try dsimp only); unfold bI; omega)
                               refine ⟨fun k hk => ?_, fun k hk => ?_, ?_, fun id k hk => ?_⟩
                               · rw [hfr 7 k (by omega)]; exact hz.1 k hk
                               · rw [hfr 10 k (by omega)]; exact hz.2.1 k hk
                               · rw [hfr 0 12 (by omega)]; exact hz.2.2.1
                               · (try dsimp only at hk)
                                 rw [hx id k (by (try dsimp only); omega)]
                                 exact hz.2.2.2 id k (by (try dsimp only); omega))
                          | (have L := ih (j + 1) I' (by omega) (by omega) (by rw [u3, if_pos (by omega), u6 (by omega)]; exact hB) hz
                             first
                               | (rw [u1, u2, if_pos (by omega), if_pos (by omega)] at L; exact L)
                               | (rw [u1, u2, if_neg (by omega), if_neg (by omega)] at L; exact L))))
      · refine v_iinc dX0_become_36 rfl rfl rfl ?_
        refine w_iconst (v := iI 0) dX0_become_39 rfl ?_
        refine w_istore_n dX0_become_40 rfl rfl ?_
        refine w_goto 73 dX0_become_41 (by decide) ?_
        refine v_iinc dX0_become_73 rfl rfl rfl ?_
        refine w_goto 11 dX0_become_76 (by decide) ?_
        refine w_keep 5 ?_
        have u1 : (pR (fun k => rd I 2 k) (j + 1) : Int) = if z26 = 59 then (pR (fun k => rd I 2 k) j : Int) + 1 else pR (fun k => rd I 2 k) j := by
          rw [pR, f26]; split <;> rfl
        have u2 : (pK (fun k => rd I 2 k) (j + 1) : Int) = if z26 = 59 then 0 else (pK (fun k => rd I 2 k) j : Int) + 1 := by
          rw [pK, f26]; split <;> rfl
        have u3 : pM (fun k => rd I 2 k) (j + 1) = if z26 = 59 ∨ z26 = 95 then pM (fun k => rd I 2 k) j else pM (fun k => rd I 2 k) j + 1 := by
          rw [pM, f26]
        have u4 : z26 ≠ 59 → pC (fun k => rd I 2 k) (j + 1) (10 * pR (fun k => rd I 2 k) j + pK (fun k => rd I 2 k) j) = z26 := fun h => by
          rw [pC, if_pos ⟨by (try dsimp only); rw [← f26]; exact h, rfl⟩]; exact f26.symm
        have u5 : ∀ k, k ≠ 10 * pR (fun k => rd I 2 k) j + pK (fun k => rd I 2 k) j → pC (fun k => rd I 2 k) (j + 1) k = pC (fun k => rd I 2 k) j k := fun k hk => by
          rw [pC, if_neg (fun g => hk g.2)]
        have u6 : z26 = 59 ∨ z26 = 95 → pC (fun k => rd I 2 k) (j + 1) = pC (fun k => rd I 2 k) j := fun h => by
          funext k
          by_cases g : k = 10 * pR (fun k => rd I 2 k) j + pK (fun k => rd I 2 k) j
          · rcases h with h | h
            · rw [pC, if_neg (fun z => z.1 (by (try dsimp only); rw [← f26]; exact h))]
            · rw [g, u4 (by omega), h, pC_hi hokj _ (Nat.le_refl _)]
          · exact u5 k g
        first
          | (have L := ih (j + 1) I2 (by omega) (by omega) ?_ ?_
             · rw [u1, u2, if_neg (by omega), if_neg (by omega)] at L
               exact L
             · rw [u3, if_neg (by omega)]
               exact (AC_BB (u4 (by omega)) u5 (by omega) (by omega) (by omega) (pC_hi hokj) hB hA).2
             · have hx := hA.2.2.2.2.2.2.2.2.2.2
               have hfr : ∀ r k, (r = 7 ∨ r = 10 ∨ (r = 0 ∧ k = 12)) → rd I2 (bI b r) k = rd I' (bI b r) k := fun r k h => hx _ _ (by (try dsimp only); unfold bI; omega)
               refine ⟨fun k hk => ?_, fun k hk => ?_, ?_, fun id k hk => ?_⟩
               · rw [hfr 7 k (by omega)]; exact hz.1 k hk
               · rw [hfr 10 k (by omega)]; exact hz.2.1 k hk
               · rw [hfr 0 12 (by omega)]; exact hz.2.2.1
               · (try dsimp only at hk)
                 rw [hx id k (by (try dsimp only); omega)]
                 exact hz.2.2.2 id k (by (try dsimp only); omega))
          | (have L := ih (j + 1) I' (by omega) (by omega) (by rw [u3, if_pos (by omega), u6 (by omega)]; exact hB) hz
             first
               | (rw [u1, u2, if_pos (by omega), if_pos (by omega)] at L; exact L)
               | (rw [u1, u2, if_neg (by omega), if_neg (by omega)] at L; exact L))
theorem pC_0 {tp : Nat → Int} : ¬ ink (pC tp 0) := by
  rintro ⟨k, -, g⟩
  have e : pC tp 0 k = 95 := rfl
  rw [e] at g
  omega
theorem x0_become {I : Nat → Nat → Int32} {J : Nat → Nat → Int64} {F : Option Value → zM → Prop} {b : Nat} (hb : b < 10) {t : Nat} (ht : rd I 1 1 = t) (ht2 : t ≤ 200) (hok : ∀ j, j < t → pB (fun k => rd I 2 k) j) (hy : ∀ I', BB I' b (pC (fun k => rd I 2 k) t) (pM (fun k => rd I 2 k) t) → ((∀ k, k < 5 → rd I' (bI b 7) k = 0) ∧ (∀ k, k < 10 → rd I' (bI b 10) k = 0) ∧ rd I' (bI b 0) 12 = 0 ∧ fq (fun id k => id = bI b 1 ∨ id = bI b 2 ∨ id = bI b 3 ∨ id = bI b 4 ∨ id = bI b 5 ∨ id = bI b 7 ∨ id = bI b 8 ∨ id = bI b 10 ∨ id = bI b 11 ∨ (id = bI b 0 ∧ (k = 4 ∨ k = 7 ∨ k = 8 ∨ k = 12))) I I') → F none (gM I' J)) : Cl yX0_become kX0_become [.ref (bI b 0), .ref 1] (gM I J) F := by
  refine cl_s (by decide) (by decide) (Nat.le_of_ble_eq_true rfl) rt_v ?_
  show Wp _ F 0 [(0, .ref (bI b 0)), (1, .ref 1)] [] _
  refine w_aload_n dX0_become_0 rfl ?_
  refine v_callV0 dX0_become_1 lX0_61 vX0_clear (by decide) rfl rfl (sO_b hb (by decide) rfl) (by decide) rfl (Nat.le_of_ble_eq_true rfl) ?_
  refine x0_clear hb (fun I1 hc => ?_)
  refine w_iconst (v := iI 0) dX0_become_4 rfl ?_
  refine w_istore_n dX0_become_5 rfl rfl ?_
  refine w_iconst (v := iI 0) dX0_become_6 rfl ?_
  refine w_istore_n dX0_become_7 rfl rfl ?_
  refine w_iconst (v := iI 0) dX0_become_8 rfl ?_
  refine w_istore dX0_become_9 rfl rfl ?_
  obtain ⟨c1, c2, c3, c4, c5, c6, c7, c8⟩ := hc
  have pM0 : pM (fun k => rd I 2 k) 0 = 0 := rfl
  refine x0_become_l hb ht ht2 hok hy (t + 1) 0 I1 (by omega) (by omega) ⟨fun k hk => c1 k hk, ⟨c4, by omega, fun j hj => by omega, fun i j _ hj => by omega, fun k hk g => absurd rfl g⟩, ⟨fun _ => c5, fun g => ?_, fun j hj => by omega, fun g => ?_, by omega, by omega⟩, ⟨fun r hr => ⟨fun _ => ⟨(c2 r hr).1, (c2 r hr).2.1, (c2 r hr).2.2.2⟩, fun g => ?_⟩, fun c hc => ⟨fun g => ?_, fun _ => (c3 c hc).2⟩⟩, fun _ => c6⟩ ⟨fun k hk => (c2 k hk).2.2.1, fun k hk => (c3 k hk).1, c7, fun id k hk => c8 id k (by (try dsimp only at hk ⊢); omega)⟩
  · exact absurd g pC_0
  · exact absurd g pC_0
  · obtain ⟨c', -, g⟩ := g; exact absurd rfl g
  · obtain ⟨r', -, g⟩ := g; exact absurd rfl g
