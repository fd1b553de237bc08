/-! join, joins of the class -/
def wW (I : Nat → Nat → Int32) : Int := (smN (fun l => rd I 147 l * (rd I 147 l - 1)) 16 + smN (fun l => rd I 150 l * (rd I 150 l - 1)) 32) + smN (fun k => mT I ((k / 32 : Nat) : Int) ((k % 32 : Nat) : Int)) 512
/-- a BIT that may be joined, in the class -/
def loC (I : Nat → Nat → Int32) (q : Nat) : Prop := q < 10 ∧ rd I (bI q 0) 4 ≠ 0 ∧ rd I (bI q 0) 13 = 0 ∧ rd I 142 4 ≠ 0
theorem x11_joins {I : Nat → Nat → Int32} {J : Nat → Nat → Int64} {F : Option Value → zM → Prop} {ce : Nat → Nat → Int} {nn : Nat → Nat} {wn : Nat} (hK : ∀ q, q < 10 → rd I (bI q 0) 4 ≠ 0 → bK I q (ce q) (nn q)) (hs : shK I) (hL : wRL I J wn) {a : Int} (ba : -2147483648 ≤ a ∧ a < 2147483648) (hn : (∀ q : Nat, a = q → ¬ loC I q) → F (some (.int (iI (-1)))) (gM I J)) (hy : ∀ qa : Nat, a = qa → loC I qa → ∀ (I' : Nat → Nat → Int32) (J' : Nat → Nat → Int64) (m : Nat), fS I I' → (∀ id k, id ≠ 140 → id ≠ 141 → J' id k = J id k) → pE I' 152 m (plS I qa (ce qa) (nn qa) wn 1) (gnC I qa (nn qa)) (tcC I qa (nn qa)) → F (some (.int (iI (m : Int)))) (gM I' J')) : Cl yX11_joins kX11_joins [.ref 0, .int (iI a)] (gM I J) F := by
  refine cl_s (by decide) (by decide) (Nat.le_of_ble_eq_true rfl) rt_i ?_
  show Wp _ F 0 [(0, .ref 0), (1, .int (iI a))] [] _
  refine w_aload_n dX11_joins_0 rfl ?_
  refine w_iload_n dX11_joins_1 rfl ?_
  refine v_callV1 dX11_joins_2 lX11_163 vX11_looseBit (by decide) rfl rfl ⟨by decide, rfl⟩ (by decide) rfl (Nat.le_of_ble_eq_true rfl) ?_
  refine x11_looseBit (by omega) (fun na => ?_) (fun qa ea a1 a2 a3 a4 => ?_)
  · refine w_astore_nN dX11_joins_5 rfl rfl ?_
    refine w_aload_nN dX11_joins_6 rfl ?_
    refine w_ifnonnull_n dX11_joins_7 ?_
    refine w_iconst (v := iI (-1)) dX11_joins_10 rfl ?_
    refine w_goto 30 dX11_joins_11 (by decide) ?_
    refine v_iret dX11_joins_30 rfl ⟨rfl, rfl⟩ ?_
    first
      | exact hn (fun q u v => v.2.2.2 (na q u v.1 v.2.1 v.2.2.1))
      | exact hy qa ea ⟨a1, a2, a3, a4⟩ I' J' m fx j p
  · refine w_astore_n dX11_joins_5 rfl rfl ?_
    refine w_aload_n dX11_joins_6 rfl ?_
    refine w_ifnonnull_r 14 dX11_joins_7 (by decide) ?_
    refine w_aload_n dX11_joins_14 rfl ?_
    refine v_getR (j := 151) dX11_joins_15 fX11_42 ⟨by decide, rfl⟩ rfl rfl ?_
    refine w_aload_n dX11_joins_18 rfl ?_
    refine w_aload_n dX11_joins_19 rfl ?_
    refine v_getR (j := 142) dX11_joins_20 fX11_35 ⟨by decide, rfl⟩ rfl rfl ?_
    refine w_aload_n dX11_joins_23 rfl ?_
    refine v_getR (j := 134) dX11_joins_24 fX11_28 ⟨by decide, rfl⟩ rfl rfl ?_
    refine v_callV3 dX11_joins_27 lX11_177 vX7_countAlone (by decide) rfl rfl ⟨by decide, rfl⟩ (by decide) rfl (Nat.le_of_ble_eq_true rfl) ?_
    refine x7_countAlone (hK qa a1 a2) hs hL (fun I' J' m fx j p => ?_)
    refine v_iret dX11_joins_30 rfl ⟨rfl, rfl⟩ ?_
    first
      | exact hn (fun q u v => v.2.2.2 (na q u v.1 v.2.1 v.2.2.1))
      | exact hy qa ea ⟨a1, a2, a3, a4⟩ I' J' m fx j p
theorem x11_join {I : Nat → Nat → Int32} {J : Nat → Nat → Int64} {F : Option Value → zM → Prop} {ce : Nat → Nat → Int} {nn : Nat → Nat} {wn : Nat} (hK : ∀ q, q < 10 → rd I (bI q 0) 4 ≠ 0 → bK I q (ce q) (nn q)) (hs : shK I) (hL : wRL I J wn) (hf : fw I) (hnu : ∀ q, q < 10 → rd I (bI q 0) 0 = q) {a b : Int} (ba : -2147483648 ≤ a ∧ a < 2147483648) (bb : -2147483648 ≤ b ∧ b < 2147483648) (hn : ((∀ q : Nat, a = q → ¬ loC I q) ∨ (b ≠ -1 ∧ ((∀ q : Nat, b = q → ¬ loC I q) ∨ a = b))) → F (some (.int (iI (-1)))) (gM I J)) (h1n : ∀ qa : Nat, a = qa → loC I qa → b = -1 → (∀ x, ¬ (nx x ∧ plS I qa (ce qa) (nn qa) wn 1 (plR x) (plC x))) → ∀ (I' : Nat → Nat → Int32) (J' : Nat → Nat → Int64), fS I I' → (∀ id k, id ≠ 140 → id ≠ 141 → J' id k = J id k) → F (some (.int (iI (-2)))) (gM I' J')) (h1y : ∀ qa : Nat, a = qa → loC I qa → b = -1 → ∀ R C g : Int, BS g (pn R C) 0 (fun x y => (nx x ∧ plS I qa (ce qa) (nn qa) wn 1 (plR x) (plC x)) ∧ y = 0) (fun x _ => gnC I qa (nn qa) (plR x) (plC x)) → g ≠ -1 → (-5 < R ∧ R < 16 ∧ -10 < C ∧ C < 32) → ∀ (I1 I2 : Nat → Nat → Int32) (J' : Nat → Nat → Int64), fS I I1 → (∀ id k, id ≠ 140 → id ≠ 141 → J' id k = J id k) → wPut I1 I2 qa (ce qa) R C → F (some (.int (iI (wW I2)))) (gM I2 J')) (h2n : ∀ qa qb : Nat, ((a = qa ∧ b = qb) ∨ (a = qb ∧ b = qa)) → qa < qb → loC I qa → loC I qb → (∀ x y, ¬ (SP I qa qb (nn qa) (nn qb) wn (ce qa) (ce qb)) x y) → ∀ (I' : Nat → Nat → Int32) (J' : Nat → Nat → Int64), fS I I' → (∀ id k, id ≠ 140 → id ≠ 141 → J' id k = J id k) → F (some (.int (iI (-2)))) (gM I' J')) (h2y : ∀ qa qb : Nat, ((a = qa ∧ b = qb) ∨ (a = qb ∧ b = qa)) → qa < qb → loC I qa → loC I qb → ∀ R1 C1 R2 C2 g : Int, BS g (pn R1 C1) (pn R2 C2) (SP I qa qb (nn qa) (nn qb) wn (ce qa) (ce qb)) (fun x y => gW I qa qb (nn qa) (nn qb) (ce qa) (plR x) (plC x) (plR y) (plC y)) → g ≠ -1 → (-5 < R1 ∧ R1 < 16 ∧ -10 < C1 ∧ C1 < 32) → (-5 < R2 ∧ R2 < 16 ∧ -10 < C2 ∧ C2 < 32) → ∀ (I1 I2 I3 : Nat → Nat → Int32) (J' : Nat → Nat → Int64), fS I I1 → (∀ id k, id ≠ 140 → id ≠ 141 → J' id k = J id k) → wPut I1 I2 qa (ce qa) R1 C1 → wPut I2 I3 qb (ce qb) R2 C2 → F (some (.int (iI (wW I3)))) (gM I3 J')) : Cl yX11_join kX11_join [.ref 0, .int (iI a), .int (iI b)] (gM I J) F := by
  refine cl_s (by decide) (by decide) (Nat.le_of_ble_eq_true rfl) rt_i ?_
  show Wp _ F 0 [(0, .ref 0), (1, .int (iI a)), (2, .int (iI b))] [] _
  refine w_aload_n dX11_join_0 rfl ?_
  refine w_iload_n dX11_join_1 rfl ?_
  refine v_callV1 dX11_join_2 lX11_163 vX11_looseBit (by decide) rfl rfl ⟨by decide, rfl⟩ (by decide) rfl (Nat.le_of_ble_eq_true rfl) ?_
  refine x11_looseBit (by omega) (fun na => ?_) (fun qa ea a1 a2 a3 a4 => ?_)
  · refine w_astore_nN dX11_join_5 rfl rfl ?_
    refine w_iload_n dX11_join_6 rfl ?_
    refine w_iconst (v := iI (-1)) dX11_join_7 rfl ?_
    refine v_icmp_ne 15 dX11_join_8 (by decide) (by clear hn h1n h1y h2n h2y; omega) (by clear hn h1n h1y h2n h2y; omega) (fun c8 => ?_) (fun c8 => ?_)
    · refine w_aload_n dX11_join_15 rfl ?_
      refine w_iload_n dX11_join_16 rfl ?_
      refine v_callV1 dX11_join_17 lX11_163 vX11_looseBit (by decide) rfl rfl ⟨by decide, rfl⟩ (by decide) rfl (Nat.le_of_ble_eq_true rfl) ?_
      refine x11_looseBit (by omega) (fun nb => ?_) (fun qb eb b1 b2 b3 b4 => ?_)
      · refine w_astoreN dX11_join_20 rfl rfl ?_
        refine w_aload_nN dX11_join_22 rfl ?_
        refine w_ifnull_n 42 dX11_join_23 (by decide) ?_
        refine w_iconst (v := iI (-1)) dX11_join_42 rfl ?_
        refine v_iret dX11_join_43 rfl ⟨rfl, rfl⟩ ?_
        exact hn (by
          first
            | exact Or.inl (fun q u v => v.2.2.2 (na q u v.1 v.2.1 v.2.2.1))
            | exact Or.inr ⟨by clear hn h1n h1y h2n h2y; omega, Or.inl (fun q u v => v.2.2.2 (nb q u v.1 v.2.1 v.2.2.1))⟩
            | exact Or.inr ⟨by clear hn h1n h1y h2n h2y; omega, Or.inr (by have := Option.some.inj cq; unfold bI at this; clear hn h1n h1y h2n h2y; omega)⟩)
      · refine w_astore dX11_join_20 rfl rfl ?_
        refine w_aload_nN dX11_join_22 rfl ?_
        refine w_ifnull_n 42 dX11_join_23 (by decide) ?_
        refine w_iconst (v := iI (-1)) dX11_join_42 rfl ?_
        refine v_iret dX11_join_43 rfl ⟨rfl, rfl⟩ ?_
        exact hn (by
          first
            | exact Or.inl (fun q u v => v.2.2.2 (na q u v.1 v.2.1 v.2.2.1))
            | exact Or.inr ⟨by clear hn h1n h1y h2n h2y; omega, Or.inl (fun q u v => v.2.2.2 (nb q u v.1 v.2.1 v.2.2.1))⟩
            | exact Or.inr ⟨by clear hn h1n h1y h2n h2y; omega, Or.inr (by have := Option.some.inj cq; unfold bI at this; clear hn h1n h1y h2n h2y; omega)⟩)
    · refine w_null dX11_join_11 ?_
      refine w_goto 20 dX11_join_12 (by decide) ?_
      refine w_astoreN dX11_join_20 rfl rfl ?_
      refine w_aload_nN dX11_join_22 rfl ?_
      refine w_ifnull_n 42 dX11_join_23 (by decide) ?_
      refine w_iconst (v := iI (-1)) dX11_join_42 rfl ?_
      refine v_iret dX11_join_43 rfl ⟨rfl, rfl⟩ ?_
      exact hn (by
        first
          | exact Or.inl (fun q u v => v.2.2.2 (na q u v.1 v.2.1 v.2.2.1))
          | exact Or.inr ⟨by clear hn h1n h1y h2n h2y; omega, Or.inl (fun q u v => v.2.2.2 (nb q u v.1 v.2.1 v.2.2.1))⟩
          | exact Or.inr ⟨by clear hn h1n h1y h2n h2y; omega, Or.inr (by have := Option.some.inj cq; unfold bI at this; clear hn h1n h1y h2n h2y; omega)⟩)
  · refine w_astore_n dX11_join_5 rfl rfl ?_
    refine w_iload_n dX11_join_6 rfl ?_
    refine w_iconst (v := iI (-1)) dX11_join_7 rfl ?_
    refine v_icmp_ne 15 dX11_join_8 (by decide) (by clear hn h1n h1y h2n h2y; omega) (by clear hn h1n h1y h2n h2y; omega) (fun c8 => ?_) (fun c8 => ?_)
    · refine w_aload_n dX11_join_15 rfl ?_
      refine w_iload_n dX11_join_16 rfl ?_
      refine v_callV1 dX11_join_17 lX11_163 vX11_looseBit (by decide) rfl rfl ⟨by decide, rfl⟩ (by decide) rfl (Nat.le_of_ble_eq_true rfl) ?_
      refine x11_looseBit (by omega) (fun nb => ?_) (fun qb eb b1 b2 b3 b4 => ?_)
      · refine w_astoreN dX11_join_20 rfl rfl ?_
        refine w_aload_n dX11_join_22 rfl ?_
        refine w_ifnull_r dX11_join_23 ?_
        refine w_aload_n dX11_join_26 rfl ?_
        refine w_aloadN dX11_join_27 rfl ?_
        refine w_acmp_eq (rx := some (bI qa 0)) (ry := none) 42 dX11_join_29 (by decide) (fun i u => by have v := Option.some.inj u; have := bI_mod a1 (show 0 < 13 by decide); show i < 190; omega) (fun i u => by cases u) (fun q => by cases q) (fun _ => ?_)
        refine w_aloadN dX11_join_32 rfl ?_
        refine w_ifnonnull_n dX11_join_34 ?_
        refine w_iload_n dX11_join_37 rfl ?_
        refine w_iconst (v := iI (-1)) dX11_join_38 rfl ?_
        refine v_icmp_eq 44 dX11_join_39 (by decide) (by clear hn h1n h1y h2n h2y; omega) (by clear hn h1n h1y h2n h2y; omega) (fun c39 => ?_) (fun c39 => ?_)
        · refine w_iconst (v := iI 0) dX11_join_44 rfl ?_
          refine w_istore dX11_join_45 rfl rfl ?_
          refine w_aloadN dX11_join_47 rfl ?_
          refine w_ifnonnull_n dX11_join_49 ?_
          refine w_aload_n dX11_join_52 rfl ?_
          refine v_getR (j := 151) dX11_join_53 fX11_42 ⟨by decide, rfl⟩ rfl rfl ?_
          refine w_aload_n dX11_join_56 rfl ?_
          refine w_aload_n dX11_join_57 rfl ?_
          refine v_getR (j := 142) dX11_join_58 fX11_35 ⟨by decide, rfl⟩ rfl rfl ?_
          refine w_aload_n dX11_join_61 rfl ?_
          refine v_getR (j := 134) dX11_join_62 fX11_28 ⟨by decide, rfl⟩ rfl rfl ?_
          refine v_callV3 dX11_join_65 lX11_166 vX7_joinAlone (by decide) rfl rfl ⟨by decide, rfl⟩ (by decide) rfl (Nat.le_of_ble_eq_true rfl) ?_
          refine x7_joinAlone (hK qa a1 a2) hs hL hf (hnu qa a1) (fun no I' J' fx j => ?_) (fun R C g bs gn rg I1 I2 J' fx j w2 => ?_)
          · refine w_istore dX11_join_68 rfl rfl ?_
            refine w_goto 128 dX11_join_70 (by decide) ?_
            refine w_iload dX11_join_128 rfl ?_
            refine v_if_eq 143 dX11_join_130 (by decide) (by decide) (fun _ => ?_) (fun q => absurd q (by decide))
            refine w_bipush (v := iI (-2)) dX11_join_143 (by decide) ?_
            refine v_iret dX11_join_145 rfl ⟨rfl, rfl⟩ ?_
            exact h1n qa ea ⟨a1, a2, a3, a4⟩ (by clear hn h1n h1y h2n h2y; omega) no I' J' fx j
          · refine w_istore dX11_join_68 rfl rfl ?_
            refine w_goto 128 dX11_join_70 (by decide) ?_
            refine w_iload dX11_join_128 rfl ?_
            refine v_if_eq 143 dX11_join_130 (by decide) (by decide) (fun q => absurd q (by decide)) (fun _ => ?_)
            refine w_aload_n dX11_join_133 rfl ?_
            refine v_getR (j := 142) dX11_join_134 fX11_35 ⟨by decide, rfl⟩ rfl rfl ?_
            refine v_callV0 dX11_join_137 lX11_159 vX8_wholeWorth (by decide) rfl rfl ⟨by decide, rfl⟩ (by decide) rfl (Nat.le_of_ble_eq_true rfl) ?_
            refine x8_wholeWorth ?_
            refine w_goto 145 dX11_join_140 (by decide) ?_
            refine v_iret dX11_join_145 rfl ⟨rfl, rfl⟩ ?_
            exact h1y qa ea ⟨a1, a2, a3, a4⟩ (by clear hn h1n h1y h2n h2y; omega) R C g bs gn rg I1 I2 J' fx j w2
        · refine w_iconst (v := iI (-1)) dX11_join_42 rfl ?_
          refine v_iret dX11_join_43 rfl ⟨rfl, rfl⟩ ?_
          exact hn (by
            first
              | exact Or.inl (fun q u v => v.2.2.2 (na q u v.1 v.2.1 v.2.2.1))
              | exact Or.inr ⟨by clear hn h1n h1y h2n h2y; omega, Or.inl (fun q u v => v.2.2.2 (nb q u v.1 v.2.1 v.2.2.1))⟩
              | exact Or.inr ⟨by clear hn h1n h1y h2n h2y; omega, Or.inr (by have := Option.some.inj cq; unfold bI at this; clear hn h1n h1y h2n h2y; omega)⟩)
      · refine w_astore dX11_join_20 rfl rfl ?_
        refine w_aload_n dX11_join_22 rfl ?_
        refine w_ifnull_r dX11_join_23 ?_
        refine w_aload_n dX11_join_26 rfl ?_
        refine w_aload dX11_join_27 rfl ?_
        refine w_acmp_eq (rx := some (bI qa 0)) (ry := some (bI qb 0)) 42 dX11_join_29 (by decide) (fun i u => by have v := Option.some.inj u; have := bI_mod a1 (show 0 < 13 by decide); show i < 190; omega) (fun i u => by have v := Option.some.inj u; have := bI_mod b1 (show 0 < 13 by decide); show i < 190; omega) (fun cq => ?_) (fun cq => ?_)
        · refine w_iconst (v := iI (-1)) dX11_join_42 rfl ?_
          refine v_iret dX11_join_43 rfl ⟨rfl, rfl⟩ ?_
          exact hn (by
            first
              | exact Or.inl (fun q u v => v.2.2.2 (na q u v.1 v.2.1 v.2.2.1))
              | exact Or.inr ⟨by clear hn h1n h1y h2n h2y; omega, Or.inl (fun q u v => v.2.2.2 (nb q u v.1 v.2.1 v.2.2.1))⟩
              | exact Or.inr ⟨by clear hn h1n h1y h2n h2y; omega, Or.inr (by have := Option.some.inj cq; unfold bI at this; clear hn h1n h1y h2n h2y; omega)⟩)
        · refine w_aload dX11_join_32 rfl ?_
          refine w_ifnonnull_r 44 dX11_join_34 (by decide) ?_
          refine w_iconst (v := iI 0) dX11_join_44 rfl ?_
          refine w_istore dX11_join_45 rfl rfl ?_
          refine w_aload dX11_join_47 rfl ?_
          refine w_ifnonnull_r 73 dX11_join_49 (by decide) ?_
          refine w_aload_n dX11_join_73 rfl ?_
          refine v_getI dX11_join_74 fX11_170 (sO_b a1 (by decide) rfl) (Or.inl rfl) (fun z74 e74 b74 => ?_)
          have f74 : z74 = qa := by rw [e74]; exact hnu qa a1
          refine w_aload dX11_join_77 rfl ?_
          refine v_getI dX11_join_79 fX11_170 (sO_b b1 (by decide) rfl) (Or.inl rfl) (fun z79 e79 b79 => ?_)
          have f79 : z79 = qb := by rw [e79]; exact hnu qb b1
          refine v_icmp_ge 108 dX11_join_82 (by decide) (by clear hn h1n h1y h2n h2y; omega) (by clear hn h1n h1y h2n h2y; omega) (fun c82 => ?_) (fun c82 => ?_)
          · refine w_aload_n dX11_join_108 rfl ?_
            refine v_getR (j := 151) dX11_join_109 fX11_42 ⟨by decide, rfl⟩ rfl rfl ?_
            refine w_aload dX11_join_112 rfl ?_
            refine w_aload_n dX11_join_114 rfl ?_
            refine w_aload_n dX11_join_115 rfl ?_
            refine v_getR (j := 142) dX11_join_116 fX11_35 ⟨by decide, rfl⟩ rfl rfl ?_
            refine w_aload_n dX11_join_119 rfl ?_
            refine v_getR (j := 134) dX11_join_120 fX11_28 ⟨by decide, rfl⟩ rfl rfl ?_
            refine v_callV4 dX11_join_123 lX11_173 vX7_joinBoth (by decide) rfl rfl ⟨by decide, rfl⟩ (by decide) rfl (Nat.le_of_ble_eq_true rfl) ?_
            have lt : qb < qa := by
              have : qa ≠ qb := fun e => cq (by rw [e])
              clear hn h1n h1y h2n h2y; omega
            refine x7_joinBoth (hK qb b1 b2) (hK qa a1 a2) (by omega) hs hf (hnu qb b1) (hnu qa a1) hL (fun no I' J' fx j => ?_) (fun R1 C1 R2 C2 g bs gn rg1 rg2 I1 I2 I3 J' fx j w2 w3 => ?_)
            · refine w_istore dX11_join_126 rfl rfl ?_
              refine w_iload dX11_join_128 rfl ?_
              refine v_if_eq 143 dX11_join_130 (by decide) (by decide) (fun _ => ?_) (fun q => absurd q (by decide))
              refine w_bipush (v := iI (-2)) dX11_join_143 (by decide) ?_
              refine v_iret dX11_join_145 rfl ⟨rfl, rfl⟩ ?_
              exact h2n qb qa (Or.inr ⟨ea, eb⟩) lt ⟨b1, b2, b3, b4⟩ ⟨a1, a2, a3, a4⟩ no I' J' fx j
            · refine w_istore dX11_join_126 rfl rfl ?_
              refine w_iload dX11_join_128 rfl ?_
              refine v_if_eq 143 dX11_join_130 (by decide) (by decide) (fun q => absurd q (by decide)) (fun _ => ?_)
              refine w_aload_n dX11_join_133 rfl ?_
              refine v_getR (j := 142) dX11_join_134 fX11_35 ⟨by decide, rfl⟩ rfl rfl ?_
              refine v_callV0 dX11_join_137 lX11_159 vX8_wholeWorth (by decide) rfl rfl ⟨by decide, rfl⟩ (by decide) rfl (Nat.le_of_ble_eq_true rfl) ?_
              refine x8_wholeWorth ?_
              refine w_goto 145 dX11_join_140 (by decide) ?_
              refine v_iret dX11_join_145 rfl ⟨rfl, rfl⟩ ?_
              exact h2y qb qa (Or.inr ⟨ea, eb⟩) lt ⟨b1, b2, b3, b4⟩ ⟨a1, a2, a3, a4⟩ R1 C1 R2 C2 g bs gn rg1 rg2 I1 I2 I3 J' fx j w2 w3
          · refine w_aload_n dX11_join_85 rfl ?_
            refine v_getR (j := 151) dX11_join_86 fX11_42 ⟨by decide, rfl⟩ rfl rfl ?_
            refine w_aload_n dX11_join_89 rfl ?_
            refine w_aload dX11_join_90 rfl ?_
            refine w_aload_n dX11_join_92 rfl ?_
            refine v_getR (j := 142) dX11_join_93 fX11_35 ⟨by decide, rfl⟩ rfl rfl ?_
            refine w_aload_n dX11_join_96 rfl ?_
            refine v_getR (j := 134) dX11_join_97 fX11_28 ⟨by decide, rfl⟩ rfl rfl ?_
            refine v_callV4 dX11_join_100 lX11_173 vX7_joinBoth (by decide) rfl rfl ⟨by decide, rfl⟩ (by decide) rfl (Nat.le_of_ble_eq_true rfl) ?_
            have lt : qa < qb := by clear hn h1n h1y h2n h2y; omega
            refine x7_joinBoth (hK qa a1 a2) (hK qb b1 b2) (by omega) hs hf (hnu qa a1) (hnu qb b1) hL (fun no I' J' fx j => ?_) (fun R1 C1 R2 C2 g bs gn rg1 rg2 I1 I2 I3 J' fx j w2 w3 => ?_)
            · refine w_istore dX11_join_103 rfl rfl ?_
              refine w_goto 128 dX11_join_105 (by decide) ?_
              refine w_iload dX11_join_128 rfl ?_
              refine v_if_eq 143 dX11_join_130 (by decide) (by decide) (fun _ => ?_) (fun q => absurd q (by decide))
              refine w_bipush (v := iI (-2)) dX11_join_143 (by decide) ?_
              refine v_iret dX11_join_145 rfl ⟨rfl, rfl⟩ ?_
              exact h2n qa qb (Or.inl ⟨ea, eb⟩) lt ⟨a1, a2, a3, a4⟩ ⟨b1, b2, b3, b4⟩ no I' J' fx j
            · refine w_istore dX11_join_103 rfl rfl ?_
              refine w_goto 128 dX11_join_105 (by decide) ?_
              refine w_iload dX11_join_128 rfl ?_
              refine v_if_eq 143 dX11_join_130 (by decide) (by decide) (fun q => absurd q (by decide)) (fun _ => ?_)
              refine w_aload_n dX11_join_133 rfl ?_
              refine v_getR (j := 142) dX11_join_134 fX11_35 ⟨by decide, rfl⟩ rfl rfl ?_
              refine v_callV0 dX11_join_137 lX11_159 vX8_wholeWorth (by decide) rfl rfl ⟨by decide, rfl⟩ (by decide) rfl (Nat.le_of_ble_eq_true rfl) ?_
              refine x8_wholeWorth ?_
              refine w_goto 145 dX11_join_140 (by decide) ?_
              refine v_iret dX11_join_145 rfl ⟨rfl, rfl⟩ ?_
              exact h2y qa qb (Or.inl ⟨ea, eb⟩) lt ⟨a1, a2, a3, a4⟩ ⟨b1, b2, b3, b4⟩ R1 C1 R2 C2 g bs gn rg1 rg2 I1 I2 I3 J' fx j w2 w3
    · refine w_null dX11_join_11 ?_
      refine w_goto 20 dX11_join_12 (by decide) ?_
      refine w_astoreN dX11_join_20 rfl rfl ?_
      refine w_aload_n dX11_join_22 rfl ?_
      refine w_ifnull_r dX11_join_23 ?_
      refine w_aload_n dX11_join_26 rfl ?_
      refine w_aloadN dX11_join_27 rfl ?_
      refine w_acmp_eq (rx := some (bI qa 0)) (ry := none) 42 dX11_join_29 (by decide) (fun i u => by have v := Option.some.inj u; have := bI_mod a1 (show 0 < 13 by decide); show i < 190; omega) (fun i u => by cases u) (fun q => by cases q) (fun _ => ?_)
      refine w_aloadN dX11_join_32 rfl ?_
      refine w_ifnonnull_n dX11_join_34 ?_
      refine w_iload_n dX11_join_37 rfl ?_
      refine w_iconst (v := iI (-1)) dX11_join_38 rfl ?_
      refine v_icmp_eq 44 dX11_join_39 (by decide) (by clear hn h1n h1y h2n h2y; omega) (by clear hn h1n h1y h2n h2y; omega) (fun c39 => ?_) (fun c39 => ?_)
      · refine w_iconst (v := iI 0) dX11_join_44 rfl ?_
        refine w_istore dX11_join_45 rfl rfl ?_
        refine w_aloadN dX11_join_47 rfl ?_
        refine w_ifnonnull_n dX11_join_49 ?_
        refine w_aload_n dX11_join_52 rfl ?_
        refine v_getR (j := 151) dX11_join_53 fX11_42 ⟨by decide, rfl⟩ rfl rfl ?_
        refine w_aload_n dX11_join_56 rfl ?_
        refine w_aload_n dX11_join_57 rfl ?_
        refine v_getR (j := 142) dX11_join_58 fX11_35 ⟨by decide, rfl⟩ rfl rfl ?_
        refine w_aload_n dX11_join_61 rfl ?_
        refine v_getR (j := 134) dX11_join_62 fX11_28 ⟨by decide, rfl⟩ rfl rfl ?_
        refine v_callV3 dX11_join_65 lX11_166 vX7_joinAlone (by decide) rfl rfl ⟨by decide, rfl⟩ (by decide) rfl (Nat.le_of_ble_eq_true rfl) ?_
        refine x7_joinAlone (hK qa a1 a2) hs hL hf (hnu qa a1) (fun no I' J' fx j => ?_) (fun R C g bs gn rg I1 I2 J' fx j w2 => ?_)
        · refine w_istore dX11_join_68 rfl rfl ?_
          refine w_goto 128 dX11_join_70 (by decide) ?_
          refine w_iload dX11_join_128 rfl ?_
          refine v_if_eq 143 dX11_join_130 (by decide) (by decide) (fun _ => ?_) (fun q => absurd q (by decide))
          refine w_bipush (v := iI (-2)) dX11_join_143 (by decide) ?_
          refine v_iret dX11_join_145 rfl ⟨rfl, rfl⟩ ?_
          exact h1n qa ea ⟨a1, a2, a3, a4⟩ (by clear hn h1n h1y h2n h2y; omega) no I' J' fx j
        · refine w_istore dX11_join_68 rfl rfl ?_
          refine w_goto 128 dX11_join_70 (by decide) ?_
          refine w_iload dX11_join_128 rfl ?_
          refine v_if_eq 143 dX11_join_130 (by decide) (by decide) (fun q => absurd q (by decide)) (fun _ => ?_)
          refine w_aload_n dX11_join_133 rfl ?_
          refine v_getR (j := 142) dX11_join_134 fX11_35 ⟨by decide, rfl⟩ rfl rfl ?_
          refine v_callV0 dX11_join_137 lX11_159 vX8_wholeWorth (by decide) rfl rfl ⟨by decide, rfl⟩ (by decide) rfl (Nat.le_of_ble_eq_true rfl) ?_
          refine x8_wholeWorth ?_
          refine w_goto 145 dX11_join_140 (by decide) ?_
          refine v_iret dX11_join_145 rfl ⟨rfl, rfl⟩ ?_
          exact h1y qa ea ⟨a1, a2, a3, a4⟩ (by clear hn h1n h1y h2n h2y; omega) R C g bs gn rg I1 I2 J' fx j w2
      · refine w_iconst (v := iI (-1)) dX11_join_42 rfl ?_
        refine v_iret dX11_join_43 rfl ⟨rfl, rfl⟩ ?_
        exact absurd c8 c39
