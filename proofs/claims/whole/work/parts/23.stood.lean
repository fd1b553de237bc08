/-! where a BIT stood: class, and the reference's own way -/
def stI (P H : Nat → Int) (m : Nat) (p : Int) (k s : Nat) : Prop := ∃ f, f + s ≤ k ∧ s ≤ m ∧ (∀ j, j < f → P j < p) ∧ (f < k → p ≤ P f) ∧ (∀ i, i < s → P (f + i) = p + H i) ∧ ∀ j, f + s ≤ j → j < k → p + H (m - 1) < P j
section ST
variable {P H : Nat → Int} {c m h k s : Nat} {p : Int}
theorem stI_0 : stI P H m p 0 0 := ⟨0, by omega, by omega, fun j hj => by omega, fun hj => by omega, fun i hi => by omega, fun j _ hj => by omega⟩
theorem stI_a (hmo : ∀ i j, i < j → j < c → P i < P j) (hk : k < c) (hI : stI P H m p k s) (ha : P k < p) : s = 0 ∧ stI P H m p (k + 1) 0 := by
  obtain ⟨f, h1, h2, h3, h4, h5, h6⟩ := hI
  have hf : f = k := by
    rcases Nat.lt_or_ge f k with q | q
    · have := h4 q
      have := hmo f k q hk
      omega
    · omega
  subst hf
  refine ⟨by omega, f + 1, by omega, by omega, fun j hj => ?_, fun hj => by omega, fun i hi => by omega, fun j _ hj => by omega⟩
  rcases Nat.lt_succ_iff_lt_or_eq.mp hj with q | q
  · exact h3 j q
  · rw [q]; exact ha
theorem stI_b (hW : 0 ≤ H (m - 1)) (hI : stI P H m p k s) (hb : p + H (m - 1) < P k) : stI P H m p (k + 1) s := by
  obtain ⟨f, h1, h2, h3, h4, h5, h6⟩ := hI
  refine ⟨f, by omega, h2, h3, fun hj => ?_, h5, fun j g1 g2 => ?_⟩
  · rcases Nat.lt_succ_iff_lt_or_eq.mp hj with q | q
    · exact h4 q
    · rw [q]; omega
  · rcases Nat.lt_succ_iff_lt_or_eq.mp g2 with q | q
    · exact h6 j g1 q
    · rw [q]; exact hb
theorem stI_c (hmo : ∀ i j, i < j → j < c → P i < P j) (hk : k < c) (hI : stI P H m p k s) (h0 : p ≤ P k) (hb : P k ≤ p + H (m - 1)) (hs : s < m) (he : P k = p + H s) : stI P H m p (k + 1) (s + 1) := by
  obtain ⟨f, h1, h2, h3, h4, h5, h6⟩ := hI
  have hf : f + s = k := by
    rcases Nat.lt_or_ge (f + s) k with q | q
    · have := h6 (f + s) (by omega) q
      have := hmo (f + s) k q hk
      omega
    · omega
  refine ⟨f, by omega, by omega, h3, fun hj => ?_, fun i hi => ?_, fun j g1 g2 => by omega⟩
  · rcases Nat.lt_succ_iff_lt_or_eq.mp hj with q | q
    · exact h4 q
    · rw [q]; exact h0
  · rcases Nat.lt_succ_iff_lt_or_eq.mp hi with q | q
    · exact h5 i q
    · rw [q, hf]; exact he
theorem SB_first (hH0 : 0 ≤ H 0) (hmo : ∀ i j, i < j → j < c → P i < P j) (hh : h < c) (hS : SB P H c m h) {f : Nat} (hf : f < c) (h3 : ∀ j, j < f → P j < P h - H 0) (h4 : P h - H 0 ≤ P f) : f = h := by
  rcases Nat.lt_trichotomy f h with q | q | q
  · rcases hS.2.1 with r | r
    · omega
    · rcases Nat.lt_or_ge f (h - 1) with z | z
      · have := hmo f (h - 1) z (by omega)
        omega
      · have : f = h - 1 := by omega
        rw [this] at h4
        omega
  · exact q
  · have := h3 h q
    omega
theorem stI_no (hm1 : 1 ≤ m) (hH0 : 0 ≤ H 0) (hmo : ∀ i j, i < j → j < c → P i < P j) (hh : h < c) (hp : p = P h - H 0) (hk : k < c) (hI : stI P H m p k s) (h0 : p ≤ P k) (hb : P k ≤ p + H (m - 1)) (hs : s = m ∨ P k ≠ p + H s) : ¬ SB P H c m h := by
  intro hS
  obtain ⟨f, h1, h2, h3, h4, h5, h6⟩ := hI
  have hf : f + s = k := by
    rcases Nat.lt_or_ge (f + s) k with q | q
    · have := h6 (f + s) (by omega) q
      have := hmo (f + s) k q hk
      omega
    · omega
  have hfp : p ≤ P f := by
    rcases Nat.lt_or_ge f k with q | q
    · exact h4 q
    · rw [show f = k by omega]; exact h0
  have e := SB_first hH0 hmo hh hS (f := f) (by omega) (fun j hj => by rw [← hp]; exact h3 j hj) (by rw [← hp]; exact hfp)
  subst e
  rcases hs with q | q
  · have e2 := hS.2.2 (m - 1) (by omega)
    have := hmo (f + (m - 1)) k (by omega) hk
    omega
  · rcases Nat.lt_or_ge s m with r | r
    · have e2 := hS.2.2 s r
      rw [hf] at e2
      omega
    · have e2 := hS.2.2 (m - 1) (by omega)
      have := hmo (f + (m - 1)) k (by omega) hk
      omega
theorem stI_end (hm1 : 1 ≤ m) (hH0 : 0 ≤ H 0) (hHm : ∀ i, i < m → H i ≤ H (m - 1)) (hmo : ∀ i j, i < j → j < c → P i < P j) (hh : h < c) (hp : p = P h - H 0) (hI : stI P H m p c s) : (0 ≤ p ∧ s = m) ↔ SB P H c m h := by
  obtain ⟨f, h1, h2, h3, h4, h5, h6⟩ := hI
  constructor
  · rintro ⟨g1, g2⟩
    have hfc : f < c := by omega
    have e1 := h5 0 (by omega)
    have hfh : f = h := by
      rcases Nat.lt_trichotomy f h with q | q | q
      · have := hmo f h q hh
        rw [Nat.add_zero] at e1
        omega
      · exact q
      · have := hmo h f q hfc
        rw [Nat.add_zero] at e1
        omega
    subst hfh
    refine ⟨by omega, ?_, fun i hi => ⟨by omega, by rw [← hp]; exact h5 i (by omega)⟩⟩
    rcases Nat.eq_zero_or_pos f with q | q
    · exact Or.inl q
    · refine Or.inr ?_
      rw [← hp]
      exact h3 (f - 1) (by omega)
  · intro hS
    have hfc : f < c := by
      rcases Nat.lt_or_ge f c with q | q
      · exact q
      · have := h3 h (by omega)
        omega
    have e := SB_first hH0 hmo hh hS hfc (fun j hj => by rw [← hp]; exact h3 j hj) (by rw [← hp]; exact h4 hfc)
    subst e
    refine ⟨by rw [hp]; exact hS.1, ?_⟩
    rcases Nat.lt_or_ge s m with q | q
    · have e2 := hS.2.2 s q
      have e3 := h6 (f + s) (by omega) e2.1
      have := hHm s q
      omega
    · omega
end ST
theorem x12_stoodAt_l {I : Nat → Nat → Int32} {J : Nat → Nat → Int64} {F : Option Value → zM → Prop} {b : Nat} (hb : b < 10) {c m : Nat} (hc : rd I 171 25 = c) (hc40 : c ≤ 40) (hP : ∀ k, k < c → 0 ≤ rd I 188 k ∧ rd I 188 k ≤ 1000000) (hmo : ∀ i j, i < j → j < c → rd I 188 i < rd I 188 j) (hm : rd I 180 b = m) (hm1 : 1 ≤ m) (hm6 : m ≤ 6) (hH : ∀ k, k < m → 0 ≤ rd I 181 (6 * b + k) ∧ rd I 181 (6 * b + k) ≤ 2000) (hHm : ∀ i, i < m → rd I 181 (6 * b + i) ≤ rd I 181 (6 * b + (m - 1))) {h : Nat} (hh : h < c) {p : Int} (hp : p = rd I 188 h - rd I 181 (6 * b)) (hy : SB (fun k => rd I 188 k) (fun k => rd I 181 (6 * b + k)) c m h → F (some (.int (iI 1))) (gM I J)) (hn : ¬ SB (fun k => rd I 188 k) (fun k => rd I 181 (6 * b + k)) c m h → F (some (.int (iI 0))) (gM I J)) : ∀ (n : Nat) (k : Nat) (s : Nat), c - k < n → k ≤ c → stI (fun k => rd I 188 k) (fun k => rd I 181 (6 * b + k)) m p k s → Wp (sE kX12_stoodAt RX12) F 5 [(0, .ref 171), (1, .int (iI (b : Int))), (2, .int (iI p)), (3, .int (iI (s : Int))), (4, .int (iI (k : Int)))] [] (gM I J) := by
  intro n
  induction n with
  | zero =>
    intro k s hmz hk hI
    exact absurd hmz (Nat.not_lt_zero _)
  | succ n ih =>
    intro k s hmz hk hI
    have gh := hP h hh
    have g0 := hH 0 (by omega)
    have gW := hH (m - 1) (by omega)
    rw [Nat.add_zero] at g0
    have hsm : s ≤ m := by obtain ⟨f, -, h2, -⟩ := hI; exact h2
    refine w_iload dX12_stoodAt_5 rfl ?_
    refine w_aload_n dX12_stoodAt_7 rfl ?_
    refine v_getI dX12_stoodAt_8 fX12_213 ⟨by decide, rfl⟩ (Or.inl rfl) (fun z8 e8 b8 => ?_)
    have f8 : z8 = c := by rw [e8]; exact hc
    refine v_icmp_ge 102 dX12_stoodAt_11 (by decide) (by omega) (by omega) (fun c11 => ?_) (fun c11 => ?_)
    · refine w_iload_n dX12_stoodAt_102 rfl ?_
      refine v_if_lt 120 dX12_stoodAt_103 (by decide) (by omega) (fun c103 => ?_) (fun c103 => ?_)
      · refine w_iconst (v := iI 0) dX12_stoodAt_120 rfl ?_
        refine v_zret dX12_stoodAt_121 rfl ⟨rfl, rfl⟩ (by decide) ?_
        have hkc : k = c := by omega
        subst hkc
        have hE := stI_end hm1 (by (try dsimp only); rw [Nat.add_zero]; omega) (fun i hi => hHm i hi) hmo hh (by (try dsimp only); rw [Nat.add_zero]; exact hp) hI
        first | exact hy (hE.mp (by omega)) | exact hn (fun g => by have := hE.mpr g; omega)
      · refine w_iload_n dX12_stoodAt_106 rfl ?_
        refine w_aload_n dX12_stoodAt_107 rfl ?_
        refine v_getR (j := 180) dX12_stoodAt_108 fX12_35 ⟨by decide, rfl⟩ rfl rfl ?_
        refine w_iload_n dX12_stoodAt_111 rfl ?_
        refine v_iald dX12_stoodAt_112 ⟨by decide, rfl⟩ (by omega) (by omega) (by decide) (fun z112 e112 b112 => ?_)
        have f112 : z112 = m := by rw [e112]; exact hm
        refine v_icmp_ne 120 dX12_stoodAt_113 (by decide) (by omega) (by omega) (fun c113 => ?_) (fun c113 => ?_)
        · refine w_iconst (v := iI 0) dX12_stoodAt_120 rfl ?_
          refine v_zret dX12_stoodAt_121 rfl ⟨rfl, rfl⟩ (by decide) ?_
          have hkc : k = c := by omega
          subst hkc
          have hE := stI_end hm1 (by (try dsimp only); rw [Nat.add_zero]; omega) (fun i hi => hHm i hi) hmo hh (by (try dsimp only); rw [Nat.add_zero]; exact hp) hI
          first | exact hy (hE.mp (by omega)) | exact hn (fun g => by have := hE.mpr g; omega)
        · refine w_iconst (v := iI 1) dX12_stoodAt_116 rfl ?_
          refine w_goto 121 dX12_stoodAt_117 (by decide) ?_
          refine v_zret dX12_stoodAt_121 rfl ⟨rfl, rfl⟩ (by decide) ?_
          have hkc : k = c := by omega
          subst hkc
          have hE := stI_end hm1 (by (try dsimp only); rw [Nat.add_zero]; omega) (fun i hi => hHm i hi) hmo hh (by (try dsimp only); rw [Nat.add_zero]; exact hp) hI
          first | exact hy (hE.mp (by omega)) | exact hn (fun g => by have := hE.mpr g; omega)
    · refine w_aload_n dX12_stoodAt_14 rfl ?_
      refine v_getR (j := 188) dX12_stoodAt_15 fX12_59 ⟨by decide, rfl⟩ rfl rfl ?_
      refine w_iload dX12_stoodAt_18 rfl ?_
      refine v_iald dX12_stoodAt_20 ⟨by decide, rfl⟩ (by omega) (by omega) (by decide) (fun z20 e20 b20 => ?_)
      have f20 : z20 = rd I 188 k := by rw [e20]; congr 1
      have g20 := hP k (by omega)
      refine w_iload_n dX12_stoodAt_21 rfl ?_
      refine v_icmp_lt 96 dX12_stoodAt_22 (by decide) (by omega) (by omega) (fun c22 => ?_) (fun c22 => ?_)
      · refine v_iinc dX12_stoodAt_96 rfl rfl rfl ?_
        refine w_goto 5 dX12_stoodAt_99 (by decide) ?_
        rcases Int.lt_or_le (rd I 188 k) p with r | r
        · first
            | (exfalso; omega)
            | (obtain ⟨r1, r2⟩ := stI_a (c := c) hmo (by omega) hI r
               subst r1
               exact ih (k + 1) 0 (by omega) (by omega) r2)
        · rcases Int.lt_or_le (p + rd I 181 (6 * b + (m - 1))) (rd I 188 k) with r' | r'
          · first
              | (exfalso; omega)
              | exact ih (k + 1) s (by omega) (by omega) (stI_b (H := (fun k => rd I 181 (6 * b + k))) gW.1 hI r')
          · first
              | (exfalso; omega)
              | exact ih (k + 1) (s + 1) (by omega) (by omega) (stI_c (c := c) hmo (by omega) hI r r' (by omega) (by (try dsimp only); omega))
      · refine w_aload_n dX12_stoodAt_25 rfl ?_
        refine v_getR (j := 188) dX12_stoodAt_26 fX12_59 ⟨by decide, rfl⟩ rfl rfl ?_
        refine w_iload dX12_stoodAt_29 rfl ?_
        refine v_iald dX12_stoodAt_31 ⟨by decide, rfl⟩ (by omega) (by omega) (by decide) (fun z31 e31 b31 => ?_)
        have f31 : z31 = rd I 188 k := by rw [e31]; congr 1
        refine w_iload_n dX12_stoodAt_32 rfl ?_
        refine w_aload_n dX12_stoodAt_33 rfl ?_
        refine v_getR (j := 181) dX12_stoodAt_34 fX12_38 ⟨by decide, rfl⟩ rfl rfl ?_
        refine w_bipush (v := iI 6) dX12_stoodAt_37 (by decide) ?_
        refine w_iload_n dX12_stoodAt_39 rfl ?_
        refine v_imul dX12_stoodAt_40 ?_
        refine w_aload_n dX12_stoodAt_41 rfl ?_
        refine v_getR (j := 180) dX12_stoodAt_42 fX12_35 ⟨by decide, rfl⟩ rfl rfl ?_
        refine w_iload_n dX12_stoodAt_45 rfl ?_
        refine v_iald dX12_stoodAt_46 ⟨by decide, rfl⟩ (by omega) (by omega) (by decide) (fun z46 e46 b46 => ?_)
        have f46 : z46 = m := by rw [e46]; exact hm
        refine v_iadd dX12_stoodAt_47 ?_
        refine w_iconst (v := iI 1) dX12_stoodAt_48 rfl ?_
        refine v_isub dX12_stoodAt_49 ?_
        refine v_iald dX12_stoodAt_50 ⟨by decide, rfl⟩ (by omega) (by omega) (by decide) (fun z50 e50 b50 => ?_)
        have f50 : z50 = rd I 181 (6 * b + (m - 1)) := by rw [e50]; congr 1; omega
        refine v_iadd dX12_stoodAt_51 ?_
        refine v_icmp_le 58 dX12_stoodAt_52 (by decide) (by omega) (by omega) (fun c52 => ?_) (fun c52 => ?_)
        · refine w_iload_n dX12_stoodAt_58 rfl ?_
          refine w_aload_n dX12_stoodAt_59 rfl ?_
          refine v_getR (j := 180) dX12_stoodAt_60 fX12_35 ⟨by decide, rfl⟩ rfl rfl ?_
          refine w_iload_n dX12_stoodAt_63 rfl ?_
          refine v_iald dX12_stoodAt_64 ⟨by decide, rfl⟩ (by omega) (by omega) (by decide) (fun z64 e64 b64 => ?_)
          have f64 : z64 = m := by rw [e64]; exact hm
          refine v_icmp_eq 91 dX12_stoodAt_65 (by decide) (by omega) (by omega) (fun c65 => ?_) (fun c65 => ?_)
          · refine w_iconst (v := iI 0) dX12_stoodAt_91 rfl ?_
            refine v_zret dX12_stoodAt_92 rfl ⟨rfl, rfl⟩ (by decide) ?_
            refine hn (stI_no (c := c) hm1 (by (try dsimp only); rw [Nat.add_zero]; omega) hmo hh (by (try dsimp only); rw [Nat.add_zero]; exact hp) (by omega) hI (by (try dsimp only); omega) (by (try dsimp only); omega) (by (try dsimp only); omega))
          · refine w_aload_n dX12_stoodAt_68 rfl ?_
            refine v_getR (j := 188) dX12_stoodAt_69 fX12_59 ⟨by decide, rfl⟩ rfl rfl ?_
            refine w_iload dX12_stoodAt_72 rfl ?_
            refine v_iald dX12_stoodAt_74 ⟨by decide, rfl⟩ (by omega) (by omega) (by decide) (fun z74 e74 b74 => ?_)
            have f74 : z74 = rd I 188 k := by rw [e74]; congr 1
            refine w_iload_n dX12_stoodAt_75 rfl ?_
            refine w_aload_n dX12_stoodAt_76 rfl ?_
            refine v_getR (j := 181) dX12_stoodAt_77 fX12_38 ⟨by decide, rfl⟩ rfl rfl ?_
            refine w_bipush (v := iI 6) dX12_stoodAt_80 (by decide) ?_
            refine w_iload_n dX12_stoodAt_82 rfl ?_
            refine v_imul dX12_stoodAt_83 ?_
            refine w_iload_n dX12_stoodAt_84 rfl ?_
            refine v_iadd dX12_stoodAt_85 ?_
            refine v_iald dX12_stoodAt_86 ⟨by decide, rfl⟩ (by omega) (by omega) (by decide) (fun z86 e86 b86 => ?_)
            have f86 : z86 = rd I 181 (6 * b + s) := by rw [e86]; congr 1
            have g86 := hH s (by omega)
            refine v_iadd dX12_stoodAt_87 ?_
            refine v_icmp_eq 93 dX12_stoodAt_88 (by decide) (by omega) (by omega) (fun c88 => ?_) (fun c88 => ?_)
            · refine v_iinc dX12_stoodAt_93 rfl rfl rfl ?_
              refine v_iinc dX12_stoodAt_96 rfl rfl rfl ?_
              refine w_goto 5 dX12_stoodAt_99 (by decide) ?_
              rcases Int.lt_or_le (rd I 188 k) p with r | r
              · first
                  | (exfalso; omega)
                  | (obtain ⟨r1, r2⟩ := stI_a (c := c) hmo (by omega) hI r
                     subst r1
                     exact ih (k + 1) 0 (by omega) (by omega) r2)
              · rcases Int.lt_or_le (p + rd I 181 (6 * b + (m - 1))) (rd I 188 k) with r' | r'
                · first
                    | (exfalso; omega)
                    | exact ih (k + 1) s (by omega) (by omega) (stI_b (H := (fun k => rd I 181 (6 * b + k))) gW.1 hI r')
                · first
                    | (exfalso; omega)
                    | exact ih (k + 1) (s + 1) (by omega) (by omega) (stI_c (c := c) hmo (by omega) hI r r' (by omega) (by (try dsimp only); omega))
            · refine w_iconst (v := iI 0) dX12_stoodAt_91 rfl ?_
              refine v_zret dX12_stoodAt_92 rfl ⟨rfl, rfl⟩ (by decide) ?_
              refine hn (stI_no (c := c) hm1 (by (try dsimp only); rw [Nat.add_zero]; omega) hmo hh (by (try dsimp only); rw [Nat.add_zero]; exact hp) (by omega) hI (by (try dsimp only); omega) (by (try dsimp only); omega) (by (try dsimp only); omega))
        · refine w_goto 96 dX12_stoodAt_55 (by decide) ?_
          refine v_iinc dX12_stoodAt_96 rfl rfl rfl ?_
          refine w_goto 5 dX12_stoodAt_99 (by decide) ?_
          rcases Int.lt_or_le (rd I 188 k) p with r | r
          · first
              | (exfalso; omega)
              | (obtain ⟨r1, r2⟩ := stI_a (c := c) hmo (by omega) hI r
                 subst r1
                 exact ih (k + 1) 0 (by omega) (by omega) r2)
          · rcases Int.lt_or_le (p + rd I 181 (6 * b + (m - 1))) (rd I 188 k) with r' | r'
            · first
                | (exfalso; omega)
                | exact ih (k + 1) s (by omega) (by omega) (stI_b (H := (fun k => rd I 181 (6 * b + k))) gW.1 hI r')
            · first
                | (exfalso; omega)
                | exact ih (k + 1) (s + 1) (by omega) (by omega) (stI_c (c := c) hmo (by omega) hI r r' (by omega) (by (try dsimp only); omega))
theorem x12_stoodAt {I : Nat → Nat → Int32} {J : Nat → Nat → Int64} {F : Option Value → zM → Prop} {b : Nat} (hb : b < 10) {c m : Nat} (hc : rd I 171 25 = c) (hc40 : c ≤ 40) (hP : ∀ k, k < c → 0 ≤ rd I 188 k ∧ rd I 188 k ≤ 1000000) (hmo : ∀ i j, i < j → j < c → rd I 188 i < rd I 188 j) (hm : rd I 180 b = m) (hm1 : 1 ≤ m) (hm6 : m ≤ 6) (hH : ∀ k, k < m → 0 ≤ rd I 181 (6 * b + k) ∧ rd I 181 (6 * b + k) ≤ 2000) (hHm : ∀ i, i < m → rd I 181 (6 * b + i) ≤ rd I 181 (6 * b + (m - 1))) {h : Nat} (hh : h < c) {p : Int} (hp : p = rd I 188 h - rd I 181 (6 * b)) (hy : SB (fun k => rd I 188 k) (fun k => rd I 181 (6 * b + k)) c m h → F (some (.int (iI 1))) (gM I J)) (hn : ¬ SB (fun k => rd I 188 k) (fun k => rd I 181 (6 * b + k)) c m h → F (some (.int (iI 0))) (gM I J)) : Cl yX12_stoodAt kX12_stoodAt [.ref 171, .int (iI (b : Int)), .int (iI p)] (gM I J) F := by
  refine cl_s (by decide) (by decide) (Nat.le_of_ble_eq_true rfl) rt_z ?_
  show Wp _ F 0 [(0, .ref 171), (1, .int (iI (b : Int))), (2, .int (iI p))] [] _
  refine w_iconst (v := iI 0) dX12_stoodAt_0 rfl ?_
  refine w_istore_n dX12_stoodAt_1 rfl rfl ?_
  refine w_iconst (v := iI 0) dX12_stoodAt_2 rfl ?_
  refine w_istore dX12_stoodAt_3 rfl rfl ?_
  exact x12_stoodAt_l hb hc hc40 hP hmo hm hm1 hm6 hH hHm hh hp hy hn (c + 1) 0 0 (by omega) (by omega) stI_0
theorem x12_stoods_l {I : Nat → Nat → Int32} {J : Nat → Nat → Int64} {F : Option Value → zM → Prop} {b : Nat} (hb : b < 10) {c m : Nat} (hc : rd I 171 25 = c) (hc40 : c ≤ 40) (hP : ∀ k, k < c → 0 ≤ rd I 188 k ∧ rd I 188 k ≤ 1000000) (hmo : ∀ i j, i < j → j < c → rd I 188 i < rd I 188 j) (hm : rd I 180 b = m) (hm1 : 1 ≤ m) (hm6 : m ≤ 6) (hH : ∀ k, k < m → 0 ≤ rd I 181 (6 * b + k) ∧ rd I 181 (6 * b + k) ≤ 2000) (hHm : ∀ i, i < m → rd I 181 (6 * b + i) ≤ rd I 181 (6 * b + (m - 1))) {t : Int} (bt : -2147483648 ≤ t ∧ t < 2147483648) (hy : ∀ I', rd I' 171 27 = cn (fun h => decide (SB (fun k => rd I 188 k) (fun k => rd I 181 (6 * b + k)) c m h)) c → (∀ id k, ¬ (id = 171 ∧ k = 27) → rd I' id k = rd I id k) → F (some (.int (iI (kf (fun h => decide (SB (fun k => rd I 188 k) (fun k => rd I 181 (6 * b + k)) c m h)) (fun h => rd I 188 h - rd I 181 (6 * b)) t (-1) c)))) (gM I' J)) : ∀ (n : Nat) (k : Nat) (fo : Int) (I' : Nat → Nat → Int32), c - k < n → k ≤ c → rd I' 171 27 = cn (fun h => decide (SB (fun k => rd I 188 k) (fun k => rd I 181 (6 * b + k)) c m h)) k → (∀ id k, ¬ (id = 171 ∧ k = 27) → rd I' id k = rd I id k) → fo = kf (fun h => decide (SB (fun k => rd I 188 k) (fun k => rd I 181 (6 * b + k)) c m h)) (fun h => rd I 188 h - rd I 181 (6 * b)) t (-1) k → Wp (sE kX12_stoods RX12) F 10 [(0, .ref 171), (1, .int (iI (b : Int))), (2, .int (iI t)), (3, .int (iI fo)), (4, .int (iI (k : Int)))] [] (gM I' J) := by
  intro n
  induction n with
  | zero =>
    intro k fo I' hmz hk hcn hx hf
    exact absurd hmz (Nat.not_lt_zero _)
  | succ n ih =>
    intro k fo I' hmz hk hcn hx hf
    have bc := cn_bd (fun h => decide (SB (fun k => rd I 188 k) (fun k => rd I 181 (6 * b + k)) c m h)) k
    have eP : (fun k => rd I' 188 k) = (fun k => rd I 188 k) := funext fun k => hx _ _ (by omega)
    have eH : (fun k => rd I' 181 (6 * b + k)) = (fun k => rd I 181 (6 * b + k)) := funext fun k => hx _ _ (by omega)
    refine w_iload dX12_stoods_10 rfl ?_
    refine w_aload_n dX12_stoods_12 rfl ?_
    refine v_getI dX12_stoods_13 fX12_213 ⟨by decide, rfl⟩ (Or.inl rfl) (fun z13 e13 b13 => ?_)
    have f13 : z13 = c := by rw [e13, hx _ _ (by omega)]; exact hc
    refine v_icmp_ge 78 dX12_stoods_16 (by decide) (by omega) (by omega) (fun c16 => ?_) (fun c16 => ?_)
    · refine w_iload_n dX12_stoods_78 rfl ?_
      refine v_iret dX12_stoods_79 rfl ⟨rfl, rfl⟩ ?_
      have g : k = c := by omega
      subst g
      rw [hf]
      exact hy I' hcn hx
    · refine w_aload_n dX12_stoods_19 rfl ?_
      refine v_getR (j := 188) dX12_stoods_20 fX12_59 ⟨by decide, rfl⟩ rfl rfl ?_
      refine w_iload dX12_stoods_23 rfl ?_
      refine v_iald dX12_stoods_25 ⟨by decide, rfl⟩ (by omega) (by omega) (by decide) (fun z25 e25 b25 => ?_)
      have f25 : z25 = rd I 188 k := by rw [e25, hx _ _ (by omega)]; congr 1
      have g25 := hP k (by omega)
      refine w_aload_n dX12_stoods_26 rfl ?_
      refine v_getR (j := 181) dX12_stoods_27 fX12_38 ⟨by decide, rfl⟩ rfl rfl ?_
      refine w_bipush (v := iI 6) dX12_stoods_30 (by decide) ?_
      refine w_iload_n dX12_stoods_32 rfl ?_
      refine v_imul dX12_stoods_33 ?_
      refine v_iald dX12_stoods_34 ⟨by decide, rfl⟩ (by omega) (by omega) (by decide) (fun z34 e34 b34 => ?_)
      have f34 : z34 = rd I 181 (6 * b) := by rw [e34, hx _ _ (by omega)]; congr 1
      have g34 := hH 0 (by omega)
      rw [Nat.add_zero] at g34
      refine v_isub dX12_stoods_35 ?_
      refine w_istore dX12_stoods_36 rfl rfl ?_
      refine w_aload_n dX12_stoods_38 rfl ?_
      refine w_iload_n dX12_stoods_39 rfl ?_
      refine w_iload dX12_stoods_40 rfl ?_
      refine v_callV2 dX12_stoods_42 lX12_219 vX12_stoodAt (by decide) rfl rfl ⟨by decide, rfl⟩ (by decide) rfl (by decide) ?_
      refine x12_stoodAt (h := k) (c := c) (m := m) hb (by rw [hx _ _ (by omega)]; exact hc) hc40 (fun j hj => by rw [hx _ _ (by omega)]; exact hP j hj) (fun i j hi hj => by rw [hx _ _ (by omega), hx _ _ (by omega)]; exact hmo i j hi hj) (by rw [hx _ _ (by omega)]; exact hm) hm1 hm6 (fun j hj => by rw [hx _ _ (by omega)]; exact hH j hj) (fun j hj => by rw [hx _ _ (by omega), hx _ _ (by omega)]; exact hHm j hj) (by omega) (by rw [hx _ _ (by omega), hx _ _ (by omega)]; omega) (fun q42 => ?_) (fun q42 => ?_)
      all_goals (have q42' := q42; rw [eP, eH] at q42')
      · refine v_if_ne 51 dX12_stoods_45 (by decide) (by decide) (fun _ => ?_) (fun q => absurd q (by decide))
        refine w_aload_n dX12_stoods_51 rfl ?_
        refine v_getI dX12_stoods_52 fX12_216 ⟨by decide, rfl⟩ (Or.inl rfl) (fun z52 e52 b52 => ?_)
        have f52 : z52 = cn (fun h => decide (SB (fun k => rd I 188 k) (fun k => rd I 181 (6 * b + k)) c m h)) k := by rw [e52]; exact hcn
        refine w_iload_n dX12_stoods_55 rfl ?_
        refine v_icmp_ne 62 dX12_stoods_56 (by decide) (by omega) (by omega) (fun c56 => ?_) (fun c56 => ?_)
        · refine w_aload_n dX12_stoods_62 rfl ?_
          refine w_dup dX12_stoods_63 rfl ?_
          refine v_getI dX12_stoods_64 fX12_216 ⟨by decide, rfl⟩ (Or.inl rfl) (fun z64 e64 b64 => ?_)
          have f64 : z64 = cn (fun h => decide (SB (fun k => rd I 188 k) (fun k => rd I 181 (6 * b + k)) c m h)) k := by rw [e64]; exact hcn
          refine w_iconst (v := iI 1) dX12_stoods_67 rfl ?_
          refine v_iadd dX12_stoods_68 ?_
          refine v_putI dX12_stoods_69 fX12_216 ⟨by decide, rfl⟩ rfl (Or.inl rfl) ?_
          refine v_iinc dX12_stoods_72 rfl rfl rfl ?_
          refine w_goto 10 dX12_stoods_75 (by decide) ?_
          refine w_keep 5 ?_
          refine ih (k + 1) _ _ (by omega) (by omega) ?_ ?_ ?_
          · first
              | (rw [rd_wr_eq (by omega) (by omega), cn, if_pos (decide_eq_true q42'), f64]; done)
              | (rw [cn, if_neg (fun g => q42' (of_decide_eq_true g)), hcn]; omega)
          · intro id j hj
            first | (rw [rd_wr_ne hj]; exact hx id j hj) | exact hx id j hj
          · unfold kf
            first
              | (rw [if_pos ⟨decide_eq_true q42', by rw [← f52]; omega⟩]; omega)
              | (rw [if_neg (fun g => by have g2 := g.2; rw [← f52] at g2; omega)]; exact hf)
              | (rw [if_neg (fun g => q42' (of_decide_eq_true g.1))]; exact hf)
        · refine w_iload dX12_stoods_59 rfl ?_
          refine w_istore_n dX12_stoods_61 rfl rfl ?_
          refine w_aload_n dX12_stoods_62 rfl ?_
          refine w_dup dX12_stoods_63 rfl ?_
          refine v_getI dX12_stoods_64 fX12_216 ⟨by decide, rfl⟩ (Or.inl rfl) (fun z64 e64 b64 => ?_)
          have f64 : z64 = cn (fun h => decide (SB (fun k => rd I 188 k) (fun k => rd I 181 (6 * b + k)) c m h)) k := by rw [e64]; exact hcn
          refine w_iconst (v := iI 1) dX12_stoods_67 rfl ?_
          refine v_iadd dX12_stoods_68 ?_
          refine v_putI dX12_stoods_69 fX12_216 ⟨by decide, rfl⟩ rfl (Or.inl rfl) ?_
          refine v_iinc dX12_stoods_72 rfl rfl rfl ?_
          refine w_goto 10 dX12_stoods_75 (by decide) ?_
          refine w_keep 5 ?_
          refine ih (k + 1) _ _ (by omega) (by omega) ?_ ?_ ?_
          · first
              | (rw [rd_wr_eq (by omega) (by omega), cn, if_pos (decide_eq_true q42'), f64]; done)
              | (rw [cn, if_neg (fun g => q42' (of_decide_eq_true g)), hcn]; omega)
          · intro id j hj
            first | (rw [rd_wr_ne hj]; exact hx id j hj) | exact hx id j hj
          · unfold kf
            first
              | (rw [if_pos ⟨decide_eq_true q42', by rw [← f52]; omega⟩]; omega)
              | (rw [if_neg (fun g => by have g2 := g.2; rw [← f52] at g2; omega)]; exact hf)
              | (rw [if_neg (fun g => q42' (of_decide_eq_true g.1))]; exact hf)
      · refine v_if_ne 51 dX12_stoods_45 (by decide) (by decide) (fun q => absurd q (by decide)) (fun _ => ?_)
        refine w_goto 72 dX12_stoods_48 (by decide) ?_
        refine v_iinc dX12_stoods_72 rfl rfl rfl ?_
        refine w_goto 10 dX12_stoods_75 (by decide) ?_
        refine w_keep 5 ?_
        refine ih (k + 1) _ _ (by omega) (by omega) ?_ ?_ ?_
        · first
            | (rw [rd_wr_eq (by omega) (by omega), cn, if_pos (decide_eq_true q42'), f64]; done)
            | (rw [cn, if_neg (fun g => q42' (of_decide_eq_true g)), hcn]; omega)
        · intro id j hj
          first | (rw [rd_wr_ne hj]; exact hx id j hj) | exact hx id j hj
        · unfold kf
          first
            | (rw [if_pos ⟨decide_eq_true q42', by rw [← f52]; omega⟩]; omega)
            | (rw [if_neg (fun g => by have g2 := g.2; rw [← f52] at g2; omega)]; exact hf)
            | (rw [if_neg (fun g => q42' (of_decide_eq_true g.1))]; exact hf)
theorem x12_stoods {I : Nat → Nat → Int32} {J : Nat → Nat → Int64} {F : Option Value → zM → Prop} {b : Nat} (hb : b < 10) {c m : Nat} (hc : rd I 171 25 = c) (hc40 : c ≤ 40) (hP : ∀ k, k < c → 0 ≤ rd I 188 k ∧ rd I 188 k ≤ 1000000) (hmo : ∀ i j, i < j → j < c → rd I 188 i < rd I 188 j) (hm : rd I 180 b = m) (hm1 : 1 ≤ m) (hm6 : m ≤ 6) (hH : ∀ k, k < m → 0 ≤ rd I 181 (6 * b + k) ∧ rd I 181 (6 * b + k) ≤ 2000) (hHm : ∀ i, i < m → rd I 181 (6 * b + i) ≤ rd I 181 (6 * b + (m - 1))) {t : Int} (bt : -2147483648 ≤ t ∧ t < 2147483648) (hy : ∀ I', rd I' 171 27 = cn (fun h => decide (SB (fun k => rd I 188 k) (fun k => rd I 181 (6 * b + k)) c m h)) c → (∀ id k, ¬ (id = 171 ∧ k = 27) → rd I' id k = rd I id k) → F (some (.int (iI (kf (fun h => decide (SB (fun k => rd I 188 k) (fun k => rd I 181 (6 * b + k)) c m h)) (fun h => rd I 188 h - rd I 181 (6 * b)) t (-1) c)))) (gM I' J)) : Cl yX12_stoods kX12_stoods [.ref 171, .int (iI (b : Int)), .int (iI t)] (gM I J) F := by
  refine cl_s (by decide) (by decide) (Nat.le_of_ble_eq_true rfl) rt_i ?_
  show Wp _ F 0 [(0, .ref 171), (1, .int (iI (b : Int))), (2, .int (iI t))] [] _
  refine w_aload_n dX12_stoods_0 rfl ?_
  refine w_iconst (v := iI 0) dX12_stoods_1 rfl ?_
  refine v_putI dX12_stoods_2 fX12_216 ⟨by decide, rfl⟩ rfl (Or.inl rfl) ?_
  refine w_iconst (v := iI (-1)) dX12_stoods_5 rfl ?_
  refine w_istore_n dX12_stoods_6 rfl rfl ?_
  refine w_iconst (v := iI 0) dX12_stoods_7 rfl ?_
  refine w_istore dX12_stoods_8 rfl rfl ?_
  exact x12_stoods_l hb hc hc40 hP hmo hm hm1 hm6 hH hHm bt hy (c + 1) 0 (-1) _ (by omega) (by omega) (rd_wr_eq (by omega) (by omega)) (fun id k hk => rd_wr_ne hk) rfl
