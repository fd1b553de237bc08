/-! put, remove, FIBRES' worth: THE SHEET of the class -/
theorem RBc_fr {I I' : Nat → Nat → Int32} {b n : Nat} {ce : Nat → Int} (h : RBc I b ce n) (h0 : rd I' (bI b 0) 4 = rd I (bI b 0) 4) (h2 : ∀ k, rd I' (bI b 2) k = rd I (bI b 2) k) (h3 : ∀ k, rd I' (bI b 3) k = rd I (bI b 3) k) : RBc I' b ce n := by
  unfold RBc cp at *
  simp only [h0, h2, h3]
  exact h
theorem tF_cg {I I' : Nat → Nat → Int32} {u v : Nat} (h1 : ∀ k, rd I' u k = rd I u k) (h2 : ∀ k, rd I' v k = rd I v k) (n i : Int) : tF I' u v n i = tF I u v n i := by
  unfold tF; simp only [h1, h2]
theorem pnt_row {I I' : Nat → Nat → Int32} {w : Nat} {ce : Nat → Int} {R C : Int} {f : Nat → Int} (h : pnt I I' w ce R C f) {id : Nat} (g : id ≠ w) (k : Nat) : rd I' id k = rd I id k := by
  rw [h id k, if_neg (fun q => g q.1)]
theorem pnt_at {I I' : Nat → Nat → Int32} {w : Nat} {ce : Nat → Int} {R C : Int} {f : Nat → Int} (h : pnt I I' w ce R C f) (k : Nat) : rd I' w k = if k < 512 ∧ cA ce R C ((k / 32 : Nat) : Int) ((k % 32 : Nat) : Int) ≠ 95 then f k else rd I w k := by
  rw [h w k]
  by_cases g : k < 512 ∧ cA ce R C ((k / 32 : Nat) : Int) ((k % 32 : Nat) : Int) ≠ 95
  · rw [if_pos g, if_pos ⟨rfl, g⟩]
  · rw [if_neg g, if_neg (fun q => g q.2)]
abbrev laA (I : Nat → Nat → Int32) (b : Nat) (R : Int) (l : Nat) : Prop := 0 ≤ (l : Int) - R ∧ (l : Int) - R < 5 ∧ l < 16 ∧ tF I (bI b 7) (bI b 8) 5 ((l : Int) - R) ≠ 0
abbrev laD (I : Nat → Nat → Int32) (b : Nat) (C : Int) (l : Nat) : Prop := 0 ≤ (l : Int) - C ∧ (l : Int) - C < 10 ∧ l < 32 ∧ tF I (bI b 10) (bI b 11) 10 ((l : Int) - C) ≠ 0
def wPM (I : Nat → Nat → Int32) (I' : Nat → Nat → Int32) (b : Nat) (ce : Nat → Int) (R C : Int) (f : Nat → Int) (o ch li : Int) : Prop := (∀ k, rd I' 143 k = if k < 512 ∧ cA ce R C ((k / 32 : Nat) : Int) ((k % 32 : Nat) : Int) ≠ 95 then f k else rd I 143 k) ∧ (∀ k, rd I' 144 k = if k < 512 ∧ cA ce R C ((k / 32 : Nat) : Int) ((k % 32 : Nat) : Int) ≠ 95 then o else rd I 144 k) ∧ (∀ l, rd I' 146 l = if laA I b R l then tF I (bI b 7) (bI b 8) 5 ((l : Int) - R) else rd I 146 l) ∧ (∀ l, rd I' 147 l = if laA I b R l then rd I 147 l + ch else rd I 147 l) ∧ (∀ l, rd I' 149 l = if laD I b C l then tF I (bI b 10) (bI b 11) 10 ((l : Int) - C) else rd I 149 l) ∧ (∀ l, rd I' 150 l = if laD I b C l then rd I 150 l + ch else rd I 150 l) ∧ (rd I' (bI b 0) 13 = li) ∧ (rd I' (bI b 0) 14 = R) ∧ (rd I' (bI b 0) 15 = C) ∧ (rd I' 142 4 = rd I 142 4 + ch) ∧ (∀ id k, ¬ (143 ≤ id ∧ id ≤ 150) → ¬ (id = bI b 0 ∧ 13 ≤ k ∧ k ≤ 15) → ¬ (id = 142 ∧ k = 4) → rd I' id k = rd I id k)
theorem wPM_mk {I : Nat → Nat → Int32} {I' : Nat → Nat → Int32} {b : Nat} {ce : Nat → Int} {R C : Int} {f : Nat → Int} {o ch li : Int} (h : (∀ k, rd I' 143 k = if k < 512 ∧ cA ce R C ((k / 32 : Nat) : Int) ((k % 32 : Nat) : Int) ≠ 95 then f k else rd I 143 k) ∧ (∀ k, rd I' 144 k = if k < 512 ∧ cA ce R C ((k / 32 : Nat) : Int) ((k % 32 : Nat) : Int) ≠ 95 then o else rd I 144 k) ∧ (∀ l, rd I' 146 l = if laA I b R l then tF I (bI b 7) (bI b 8) 5 ((l : Int) - R) else rd I 146 l) ∧ (∀ l, rd I' 147 l = if laA I b R l then rd I 147 l + ch else rd I 147 l) ∧ (∀ l, rd I' 149 l = if laD I b C l then tF I (bI b 10) (bI b 11) 10 ((l : Int) - C) else rd I 149 l) ∧ (∀ l, rd I' 150 l = if laD I b C l then rd I 150 l + ch else rd I 150 l) ∧ (rd I' (bI b 0) 13 = li) ∧ (rd I' (bI b 0) 14 = R) ∧ (rd I' (bI b 0) 15 = C) ∧ (rd I' 142 4 = rd I 142 4 + ch) ∧ (∀ id k, ¬ (143 ≤ id ∧ id ≤ 150) → ¬ (id = bI b 0 ∧ 13 ≤ k ∧ k ≤ 15) → ¬ (id = 142 ∧ k = 4) → rd I' id k = rd I id k)) : wPM I I' b ce R C f o ch li := h
theorem wPM.sg {I : Nat → Nat → Int32} {I' : Nat → Nat → Int32} {b : Nat} {ce : Nat → Int} {R C : Int} {f : Nat → Int} {o ch li : Int} (h : wPM I I' b ce R C f o ch li) : ∀ k, rd I' 143 k = if k < 512 ∧ cA ce R C ((k / 32 : Nat) : Int) ((k % 32 : Nat) : Int) ≠ 95 then f k else rd I 143 k := h.1
theorem wPM.ow {I : Nat → Nat → Int32} {I' : Nat → Nat → Int32} {b : Nat} {ce : Nat → Int} {R C : Int} {f : Nat → Int} {o ch li : Int} (h : wPM I I' b ce R C f o ch li) : ∀ k, rd I' 144 k = if k < 512 ∧ cA ce R C ((k / 32 : Nat) : Int) ((k % 32 : Nat) : Int) ≠ 95 then o else rd I 144 k := h.2.1
theorem wPM.a1 {I : Nat → Nat → Int32} {I' : Nat → Nat → Int32} {b : Nat} {ce : Nat → Int} {R C : Int} {f : Nat → Int} {o ch li : Int} (h : wPM I I' b ce R C f o ch li) : ∀ l, rd I' 146 l = if laA I b R l then tF I (bI b 7) (bI b 8) 5 ((l : Int) - R) else rd I 146 l := h.2.2.1
theorem wPM.a2 {I : Nat → Nat → Int32} {I' : Nat → Nat → Int32} {b : Nat} {ce : Nat → Int} {R C : Int} {f : Nat → Int} {o ch li : Int} (h : wPM I I' b ce R C f o ch li) : ∀ l, rd I' 147 l = if laA I b R l then rd I 147 l + ch else rd I 147 l := h.2.2.2.1
theorem wPM.d1 {I : Nat → Nat → Int32} {I' : Nat → Nat → Int32} {b : Nat} {ce : Nat → Int} {R C : Int} {f : Nat → Int} {o ch li : Int} (h : wPM I I' b ce R C f o ch li) : ∀ l, rd I' 149 l = if laD I b C l then tF I (bI b 10) (bI b 11) 10 ((l : Int) - C) else rd I 149 l := h.2.2.2.2.1
theorem wPM.d2 {I : Nat → Nat → Int32} {I' : Nat → Nat → Int32} {b : Nat} {ce : Nat → Int} {R C : Int} {f : Nat → Int} {o ch li : Int} (h : wPM I I' b ce R C f o ch li) : ∀ l, rd I' 150 l = if laD I b C l then rd I 150 l + ch else rd I 150 l := h.2.2.2.2.2.1
theorem wPM.lie {I : Nat → Nat → Int32} {I' : Nat → Nat → Int32} {b : Nat} {ce : Nat → Int} {R C : Int} {f : Nat → Int} {o ch li : Int} (h : wPM I I' b ce R C f o ch li) : rd I' (bI b 0) 13 = li := h.2.2.2.2.2.2.1
theorem wPM.ro {I : Nat → Nat → Int32} {I' : Nat → Nat → Int32} {b : Nat} {ce : Nat → Int} {R C : Int} {f : Nat → Int} {o ch li : Int} (h : wPM I I' b ce R C f o ch li) : rd I' (bI b 0) 14 = R := h.2.2.2.2.2.2.2.1
theorem wPM.co {I : Nat → Nat → Int32} {I' : Nat → Nat → Int32} {b : Nat} {ce : Nat → Int} {R C : Int} {f : Nat → Int} {o ch li : Int} (h : wPM I I' b ce R C f o ch li) : rd I' (bI b 0) 15 = C := h.2.2.2.2.2.2.2.2.1
theorem wPM.ly {I : Nat → Nat → Int32} {I' : Nat → Nat → Int32} {b : Nat} {ce : Nat → Int} {R C : Int} {f : Nat → Int} {o ch li : Int} (h : wPM I I' b ce R C f o ch li) : rd I' 142 4 = rd I 142 4 + ch := h.2.2.2.2.2.2.2.2.2.1
theorem wPM.fr {I : Nat → Nat → Int32} {I' : Nat → Nat → Int32} {b : Nat} {ce : Nat → Int} {R C : Int} {f : Nat → Int} {o ch li : Int} (h : wPM I I' b ce R C f o ch li) : ∀ id k, ¬ (143 ≤ id ∧ id ≤ 150) → ¬ (id = bI b 0 ∧ 13 ≤ k ∧ k ≤ 15) → ¬ (id = 142 ∧ k = 4) → rd I' id k = rd I id k := h.2.2.2.2.2.2.2.2.2.2
theorem x8_put {I : Nat → Nat → Int32} {J : Nat → Nat → Int64} {F : Option Value → zM → Prop} {b : Nat} (hb : b < 10) {ce : Nat → Int} {n : Nat} (hS : ∀ k, k < 50 → rd I (bI b 1) k = ce k) (hB : RBc I b ce n) (hta : ∀ l : Nat, l < 16 → 0 ≤ rd I 147 l ∧ rd I 147 l ≤ 1000) (htd : ∀ l : Nat, l < 32 → 0 ≤ rd I 150 l ∧ rd I 150 l ≤ 1000) (hly : 0 ≤ rd I 142 4 ∧ rd I 142 4 ≤ 1000) {R C : Int} (hR : -1000 ≤ R ∧ R ≤ 1000) (hC : -1000 ≤ C ∧ C ≤ 1000) (hnu : rd I (bI b 0) 0 = b) (h : ∀ I', wPM I I' b ce R C (fun k => cA ce R C ((k / 32 : Nat) : Int) ((k % 32 : Nat) : Int)) b 1 1 → F none (gM I' J)) : Cl yX8_put kX8_put [.ref 142, .ref (bI b 0), .int (iI R), .int (iI C)] (gM I J) F := by
  refine cl_s (by decide) (by decide) (Nat.le_of_ble_eq_true rfl) rt_v ?_
  show Wp _ F 0 [(0, .ref 142), (1, .ref (bI b 0)), (2, .int (iI R)), (3, .int (iI C))] [] _
  refine w_aload_n dX8_put_0 rfl ?_
  refine w_aload_n dX8_put_1 rfl ?_
  refine w_iload_n dX8_put_2 rfl ?_
  refine w_iload_n dX8_put_3 rfl ?_
  refine v_callV3 dX8_put_4 lX8_71 vX8_write (by decide) rfl rfl ⟨by decide, rfl⟩ (by decide) rfl (Nat.le_of_ble_eq_true rfl) ?_
  refine x8_write hb hS hB hR hC (fun I1 p1 => ?_)
  refine w_aload_n dX8_put_7 rfl ?_
  refine w_aload_n dX8_put_8 rfl ?_
  refine w_iload_n dX8_put_9 rfl ?_
  refine w_iload_n dX8_put_10 rfl ?_
  refine w_aload_n dX8_put_11 rfl ?_
  refine v_getI dX8_put_12 fX8_116 (sO_b hb (by decide) rfl) (Or.inl rfl) (fun z12 e12 b12 => ?_)
  have f12 : z12 = b := by rw [e12, pnt_row p1 (by unfold bI; omega)]; exact hnu
  refine v_callV4 dX8_put_15 lX8_119 vX8_own (by decide) rfl rfl ⟨by decide, rfl⟩ (by decide) rfl (Nat.le_of_ble_eq_true rfl) ?_
  refine x8_own hb (fun k hk => by rw [pnt_row p1 (by unfold bI; omega)]; exact hS k hk) (RBc_fr hB (pnt_row p1 (by unfold bI; omega) _) (fun k => (pnt_row p1 (by unfold bI; omega) k)) (fun k => (pnt_row p1 (by unfold bI; omega) k))) (by omega) (by omega) (by omega) (fun I2 p2 => ?_)
  refine w_aload_n dX8_put_18 rfl ?_
  refine v_getR (j := 145) dX8_put_19 fX8_23 ⟨by decide, rfl⟩ rfl rfl ?_
  refine w_aload_n dX8_put_22 rfl ?_
  refine v_getR (j := bI b 6) dX8_put_23 fX8_46 (sO_b hb (by decide) rfl) rfl (r0_b hb (by decide)) ?_
  refine w_iload_n dX8_put_26 rfl ?_
  refine w_iconst (v := iI 1) dX8_put_27 rfl ?_
  refine v_callV3 dX8_put_28 lX8_123 vX3_change (by decide) rfl rfl ⟨by decide, rfl⟩ (by decide) rfl (Nat.le_of_ble_eq_true rfl) ?_
  refine x3_change_a hb (by omega) (by omega) (fun l g => by rw [pnt_row p2 (by decide), pnt_row p1 (by decide)]; exact hta l g) (fun I3 p3 => ?_)
  refine w_aload_n dX8_put_31 rfl ?_
  refine v_getR (j := 148) dX8_put_32 fX8_27 ⟨by decide, rfl⟩ rfl rfl ?_
  refine w_aload_n dX8_put_35 rfl ?_
  refine v_getR (j := bI b 9) dX8_put_36 fX8_53 (sO_b hb (by decide) rfl) rfl (r0_b hb (by decide)) ?_
  refine w_iload_n dX8_put_39 rfl ?_
  refine w_iconst (v := iI 1) dX8_put_40 rfl ?_
  refine v_callV3 dX8_put_41 lX8_123 vX3_change (by decide) rfl rfl ⟨by decide, rfl⟩ (by decide) rfl (Nat.le_of_ble_eq_true rfl) ?_
  refine x3_change_d hb (by omega) (by omega) (fun l g => by rw [p3 _ _, if_neg (by omega), if_neg (by omega), pnt_row p2 (by decide), pnt_row p1 (by decide)]; exact htd l g) (fun I4 p4 => ?_)
  refine w_aload_n dX8_put_44 rfl ?_
  refine w_iconst (v := iI 1) dX8_put_45 rfl ?_
  refine v_putI dX8_put_46 fX8_127 (sO_b hb (by decide) rfl) rfl (Or.inr ⟨rfl, by decide⟩) ?_
  refine w_aload_n dX8_put_49 rfl ?_
  refine w_iload_n dX8_put_50 rfl ?_
  refine v_putI dX8_put_51 fX8_131 (sO_b hb (by decide) rfl) rfl (Or.inl rfl) ?_
  refine w_aload_n dX8_put_54 rfl ?_
  refine w_iload_n dX8_put_55 rfl ?_
  refine v_putI dX8_put_56 fX8_134 (sO_b hb (by decide) rfl) rfl (Or.inl rfl) ?_
  refine w_aload_n dX8_put_59 rfl ?_
  refine w_dup dX8_put_60 rfl ?_
  refine v_getI dX8_put_61 fX8_137 ⟨by decide, rfl⟩ (Or.inl rfl) (fun z61 e61 b61 => ?_)
  have f61 : z61 = rd I 142 4 := by
    rw [e61, rd_wr_ne (by (try unfold bI); omega), rd_wr_ne (by (try unfold bI); omega), rd_wr_ne (by (try unfold bI); omega), p4 _ _, if_neg (by omega), if_neg (by omega), p3 _ _, if_neg (by omega), if_neg (by omega), pnt_row p2 (by decide), pnt_row p1 (by decide)]
  refine w_iconst (v := iI 1) dX8_put_64 rfl ?_
  refine v_iadd dX8_put_65 ?_
  refine v_putI dX8_put_66 fX8_137 ⟨by decide, rfl⟩ rfl (Or.inl rfl) ?_
  refine v_vret dX8_put_69 rfl ⟨rfl, rfl⟩ ?_
  have r12 : ∀ id k, id ≠ 143 → id ≠ 144 → rd I2 id k = rd I id k := fun id k g1 g2 => by
    rw [pnt_row p2 g2, pnt_row p1 g1]
  have ta : ∀ i, tF I2 (bI b 7) (bI b 8) 5 i = tF I (bI b 7) (bI b 8) 5 i := tF_cg (fun k => r12 _ _ (by unfold bI; omega) (by unfold bI; omega)) (fun k => r12 _ _ (by unfold bI; omega) (by unfold bI; omega)) 5
  have r3 : ∀ id k, id ≠ 146 → id ≠ 147 → rd I3 id k = rd I2 id k := fun id k g1 g2 => by
    rw [p3 id k, if_neg (fun q => g1 q.1), if_neg (fun q => g2 q.1)]
  have td : ∀ i, tF I3 (bI b 10) (bI b 11) 10 i = tF I (bI b 10) (bI b 11) 10 i := fun i => by
    rw [tF_cg (fun k => r3 (bI b 10) k (by unfold bI; omega) (by unfold bI; omega)) (fun k => r3 (bI b 11) k (by unfold bI; omega) (by unfold bI; omega))]
    exact tF_cg (fun k => r12 _ _ (by unfold bI; omega) (by unfold bI; omega)) (fun k => r12 _ _ (by unfold bI; omega) (by unfold bI; omega)) 10 i
  have r4 : ∀ id k, id ≠ 149 → id ≠ 150 → rd I4 id k = rd I3 id k := fun id k g1 g2 => by
    rw [p4 id k, if_neg (fun q => g1 q.1), if_neg (fun q => g2 q.1)]
  have k3a : ∀ l, rd I3 146 l = if laA I b R l then tF I (bI b 7) (bI b 8) 5 ((l : Int) - R) else rd I 146 l := fun l => by
    rw [p3 146 l]
    simp only [ta, true_and, show ¬ (146 = 147) by decide, false_and, if_false, r12 146 l (by decide) (by decide)]
  have k3b : ∀ l, rd I3 147 l = if laA I b R l then rd I 147 l + 1 else rd I 147 l := fun l => by
    rw [p3 147 l]
    simp only [ta, true_and, show ¬ (147 = 146) by decide, false_and, if_false, r12 147 l (by decide) (by decide)]
  have k4a : ∀ l, rd I4 149 l = if laD I b C l then tF I (bI b 10) (bI b 11) 10 ((l : Int) - C) else rd I 149 l := fun l => by
    rw [p4 149 l]
    simp only [td, true_and, show ¬ (149 = 150) by decide, false_and, if_false, r3 149 l (by decide) (by decide), r12 149 l (by decide) (by decide)]
  have k4b : ∀ l, rd I4 150 l = if laD I b C l then rd I 150 l + 1 else rd I 150 l := fun l => by
    rw [p4 150 l]
    simp only [td, true_and, show ¬ (150 = 149) by decide, false_and, if_false, r3 150 l (by decide) (by decide), r12 150 l (by decide) (by decide)]
  have s4 : ∀ k, rd I4 143 k = rd I1 143 k := fun k => by rw [r4 _ _ (by decide) (by decide), r3 _ _ (by decide) (by decide), pnt_row p2 (by decide)]
  have o4 : ∀ k, rd I4 144 k = rd I2 144 k := fun k => by rw [r4 _ _ (by decide) (by decide), r3 _ _ (by decide) (by decide)]
  have fr4 : ∀ id k, ¬ (143 ≤ id ∧ id ≤ 150) → rd I4 id k = rd I id k := fun id k g => by rw [r4 _ _ (by omega) (by omega), r3 _ _ (by omega) (by omega), r12 _ _ (by omega) (by omega)]
  refine h _ (wPM_mk ⟨fun k => ?_, fun k => ?_, fun k => ?_, fun k => ?_, fun k => ?_, fun k => ?_, ?_, ?_, ?_, ?_, fun id k g1 g2 g3 => ?_⟩)
  · rw [rd_wr_ne (by (try unfold bI); omega), rd_wr_ne (by (try unfold bI); omega), rd_wr_ne (by (try unfold bI); omega), rd_wr_ne (by (try unfold bI); omega), s4 k, pnt_at p1 k]
  · rw [rd_wr_ne (by (try unfold bI); omega), rd_wr_ne (by (try unfold bI); omega), rd_wr_ne (by (try unfold bI); omega), rd_wr_ne (by (try unfold bI); omega), o4 k, pnt_at p2 k, pnt_row p1 (by decide), f12]
  · rw [rd_wr_ne (by (try unfold bI); omega), rd_wr_ne (by (try unfold bI); omega), rd_wr_ne (by (try unfold bI); omega), rd_wr_ne (by (try unfold bI); omega), r4 _ _ (by decide) (by decide)]; exact k3a k
  · rw [rd_wr_ne (by (try unfold bI); omega), rd_wr_ne (by (try unfold bI); omega), rd_wr_ne (by (try unfold bI); omega), rd_wr_ne (by (try unfold bI); omega), r4 _ _ (by decide) (by decide)]; exact k3b k
  · rw [rd_wr_ne (by (try unfold bI); omega), rd_wr_ne (by (try unfold bI); omega), rd_wr_ne (by (try unfold bI); omega), rd_wr_ne (by (try unfold bI); omega)]; exact k4a k
  · rw [rd_wr_ne (by (try unfold bI); omega), rd_wr_ne (by (try unfold bI); omega), rd_wr_ne (by (try unfold bI); omega), rd_wr_ne (by (try unfold bI); omega)]; exact k4b k
  · rw [rd_wr_ne (by (try unfold bI); omega), rd_wr_ne (by (try unfold bI); omega), rd_wr_ne (by (try unfold bI); omega), rd_wr_eq (by omega) (by omega)]
  · rw [rd_wr_ne (by (try unfold bI); omega), rd_wr_ne (by (try unfold bI); omega), rd_wr_eq (by omega) (by omega)]
  · rw [rd_wr_ne (by (try unfold bI); omega), rd_wr_eq (by omega) (by omega)]
  · rw [rd_wr_eq (by omega) (by omega), f61]
  · rw [rd_wr_ne (by omega), rd_wr_ne (by omega), rd_wr_ne (by omega), rd_wr_ne (by omega)]; exact fr4 id k g1
theorem x8_remove {I : Nat → Nat → Int32} {J : Nat → Nat → Int64} {F : Option Value → zM → Prop} {b : Nat} (hb : b < 10) {ce : Nat → Int} {n : Nat} (hS : ∀ k, k < 50 → rd I (bI b 1) k = ce k) (hB : RBc I b ce n) (hta : ∀ l : Nat, l < 16 → 0 ≤ rd I 147 l ∧ rd I 147 l ≤ 1000) (htd : ∀ l : Nat, l < 32 → 0 ≤ rd I 150 l ∧ rd I 150 l ≤ 1000) (hly : 0 ≤ rd I 142 4 ∧ rd I 142 4 ≤ 1000) {R C : Int} (hR : -1000 ≤ R ∧ R ≤ 1000) (hC : -1000 ≤ C ∧ C ≤ 1000) (hro : rd I (bI b 0) 14 = R) (hco : rd I (bI b 0) 15 = C) (h : ∀ I', wPM I I' b ce R C (fun _ => 95) (-1) (-1) 0 → F none (gM I' J)) : Cl yX8_remove kX8_remove [.ref 142, .ref (bI b 0)] (gM I J) F := by
  refine cl_s (by decide) (by decide) (Nat.le_of_ble_eq_true rfl) rt_v ?_
  show Wp _ F 0 [(0, .ref 142), (1, .ref (bI b 0))] [] _
  refine w_aload_n dX8_remove_0 rfl ?_
  refine w_aload_n dX8_remove_1 rfl ?_
  refine w_aload_n dX8_remove_2 rfl ?_
  refine v_getI dX8_remove_3 fX8_131 (sO_b hb (by decide) rfl) (Or.inl rfl) (fun z3 e3 b3 => ?_)
  have f3 : z3 = R := by rw [e3]; exact hro
  rw [f3]
  refine w_aload_n dX8_remove_6 rfl ?_
  refine v_getI dX8_remove_7 fX8_134 (sO_b hb (by decide) rfl) (Or.inl rfl) (fun z7 e7 b7 => ?_)
  have f7 : z7 = C := by rw [e7]; exact hco
  rw [f7]
  refine v_callV3 dX8_remove_10 lX8_81 vX8_wipe (by decide) rfl rfl ⟨by decide, rfl⟩ (by decide) rfl (Nat.le_of_ble_eq_true rfl) ?_
  refine x8_wipe hb hS hB (by omega) (by omega) (fun I1 p1 => ?_)
  refine w_aload_n dX8_remove_13 rfl ?_
  refine w_aload_n dX8_remove_14 rfl ?_
  refine w_aload_n dX8_remove_15 rfl ?_
  refine v_getI dX8_remove_16 fX8_131 (sO_b hb (by decide) rfl) (Or.inl rfl) (fun z16 e16 b16 => ?_)
  have f16 : z16 = R := by rw [e16, pnt_row p1 (by unfold bI; omega)]; exact hro
  rw [f16]
  refine w_aload_n dX8_remove_19 rfl ?_
  refine v_getI dX8_remove_20 fX8_134 (sO_b hb (by decide) rfl) (Or.inl rfl) (fun z20 e20 b20 => ?_)
  have f20 : z20 = C := by rw [e20, pnt_row p1 (by unfold bI; omega)]; exact hco
  rw [f20]
  refine w_iconst (v := iI (-1)) dX8_remove_23 rfl ?_
  refine v_callV4 dX8_remove_24 lX8_119 vX8_own (by decide) rfl rfl ⟨by decide, rfl⟩ (by decide) rfl (Nat.le_of_ble_eq_true rfl) ?_
  refine x8_own hb (fun k hk => by rw [pnt_row p1 (by unfold bI; omega)]; exact hS k hk) (RBc_fr hB (pnt_row p1 (by unfold bI; omega) _) (fun k => (pnt_row p1 (by unfold bI; omega) k)) (fun k => (pnt_row p1 (by unfold bI; omega) k))) (by omega) (by omega) (by omega) (fun I2 p2 => ?_)
  refine w_aload_n dX8_remove_27 rfl ?_
  refine v_getR (j := 145) dX8_remove_28 fX8_23 ⟨by decide, rfl⟩ rfl rfl ?_
  refine w_aload_n dX8_remove_31 rfl ?_
  refine v_getR (j := bI b 6) dX8_remove_32 fX8_46 (sO_b hb (by decide) rfl) rfl (r0_b hb (by decide)) ?_
  refine w_aload_n dX8_remove_35 rfl ?_
  refine v_getI dX8_remove_36 fX8_131 (sO_b hb (by decide) rfl) (Or.inl rfl) (fun z36 e36 b36 => ?_)
  have f36 : z36 = R := by rw [e36, pnt_row p2 (by unfold bI; omega), pnt_row p1 (by unfold bI; omega)]; exact hro
  rw [f36]
  refine w_iconst (v := iI (-1)) dX8_remove_39 rfl ?_
  refine v_callV3 dX8_remove_40 lX8_123 vX3_change (by decide) rfl rfl ⟨by decide, rfl⟩ (by decide) rfl (Nat.le_of_ble_eq_true rfl) ?_
  refine x3_change_a hb (by omega) (by omega) (fun l g => by rw [pnt_row p2 (by decide), pnt_row p1 (by decide)]; exact hta l g) (fun I3 p3 => ?_)
  refine w_aload_n dX8_remove_43 rfl ?_
  refine v_getR (j := 148) dX8_remove_44 fX8_27 ⟨by decide, rfl⟩ rfl rfl ?_
  refine w_aload_n dX8_remove_47 rfl ?_
  refine v_getR (j := bI b 9) dX8_remove_48 fX8_53 (sO_b hb (by decide) rfl) rfl (r0_b hb (by decide)) ?_
  refine w_aload_n dX8_remove_51 rfl ?_
  refine v_getI dX8_remove_52 fX8_134 (sO_b hb (by decide) rfl) (Or.inl rfl) (fun z52 e52 b52 => ?_)
  have f52 : z52 = C := by rw [e52, p3 _ _, if_neg (by unfold bI; omega), if_neg (by unfold bI; omega), pnt_row p2 (by unfold bI; omega), pnt_row p1 (by unfold bI; omega)]; exact hco
  rw [f52]
  refine w_iconst (v := iI (-1)) dX8_remove_55 rfl ?_
  refine v_callV3 dX8_remove_56 lX8_123 vX3_change (by decide) rfl rfl ⟨by decide, rfl⟩ (by decide) rfl (Nat.le_of_ble_eq_true rfl) ?_
  refine x3_change_d hb (by omega) (by omega) (fun l g => by rw [p3 _ _, if_neg (by omega), if_neg (by omega), pnt_row p2 (by decide), pnt_row p1 (by decide)]; exact htd l g) (fun I4 p4 => ?_)
  refine w_aload_n dX8_remove_59 rfl ?_
  refine w_iconst (v := iI 0) dX8_remove_60 rfl ?_
  refine v_putI dX8_remove_61 fX8_127 (sO_b hb (by decide) rfl) rfl (Or.inr ⟨rfl, by decide⟩) ?_
  refine w_aload_n dX8_remove_64 rfl ?_
  refine w_dup dX8_remove_65 rfl ?_
  refine v_getI dX8_remove_66 fX8_137 ⟨by decide, rfl⟩ (Or.inl rfl) (fun z66 e66 b66 => ?_)
  have f66 : z66 = rd I 142 4 := by
    rw [e66, rd_wr_ne (by (try unfold bI); omega), p4 _ _, if_neg (by omega), if_neg (by omega), p3 _ _, if_neg (by omega), if_neg (by omega), pnt_row p2 (by decide), pnt_row p1 (by decide)]
  refine w_iconst (v := iI 1) dX8_remove_69 rfl ?_
  refine v_isub dX8_remove_70 ?_
  refine v_putI dX8_remove_71 fX8_137 ⟨by decide, rfl⟩ rfl (Or.inl rfl) ?_
  refine v_vret dX8_remove_74 rfl ⟨rfl, rfl⟩ ?_
  have r12 : ∀ id k, id ≠ 143 → id ≠ 144 → rd I2 id k = rd I id k := fun id k g1 g2 => by
    rw [pnt_row p2 g2, pnt_row p1 g1]
  have ta : ∀ i, tF I2 (bI b 7) (bI b 8) 5 i = tF I (bI b 7) (bI b 8) 5 i := tF_cg (fun k => r12 _ _ (by unfold bI; omega) (by unfold bI; omega)) (fun k => r12 _ _ (by unfold bI; omega) (by unfold bI; omega)) 5
  have r3 : ∀ id k, id ≠ 146 → id ≠ 147 → rd I3 id k = rd I2 id k := fun id k g1 g2 => by
    rw [p3 id k, if_neg (fun q => g1 q.1), if_neg (fun q => g2 q.1)]
  have td : ∀ i, tF I3 (bI b 10) (bI b 11) 10 i = tF I (bI b 10) (bI b 11) 10 i := fun i => by
    rw [tF_cg (fun k => r3 (bI b 10) k (by unfold bI; omega) (by unfold bI; omega)) (fun k => r3 (bI b 11) k (by unfold bI; omega) (by unfold bI; omega))]
    exact tF_cg (fun k => r12 _ _ (by unfold bI; omega) (by unfold bI; omega)) (fun k => r12 _ _ (by unfold bI; omega) (by unfold bI; omega)) 10 i
  have r4 : ∀ id k, id ≠ 149 → id ≠ 150 → rd I4 id k = rd I3 id k := fun id k g1 g2 => by
    rw [p4 id k, if_neg (fun q => g1 q.1), if_neg (fun q => g2 q.1)]
  have k3a : ∀ l, rd I3 146 l = if laA I b R l then tF I (bI b 7) (bI b 8) 5 ((l : Int) - R) else rd I 146 l := fun l => by
    rw [p3 146 l]
    simp only [ta, true_and, show ¬ (146 = 147) by decide, false_and, if_false, r12 146 l (by decide) (by decide)]
  have k3b : ∀ l, rd I3 147 l = if laA I b R l then rd I 147 l + -1 else rd I 147 l := fun l => by
    rw [p3 147 l]
    simp only [ta, true_and, show ¬ (147 = 146) by decide, false_and, if_false, r12 147 l (by decide) (by decide)]
  have k4a : ∀ l, rd I4 149 l = if laD I b C l then tF I (bI b 10) (bI b 11) 10 ((l : Int) - C) else rd I 149 l := fun l => by
    rw [p4 149 l]
    simp only [td, true_and, show ¬ (149 = 150) by decide, false_and, if_false, r3 149 l (by decide) (by decide), r12 149 l (by decide) (by decide)]
  have k4b : ∀ l, rd I4 150 l = if laD I b C l then rd I 150 l + -1 else rd I 150 l := fun l => by
    rw [p4 150 l]
    simp only [td, true_and, show ¬ (150 = 149) by decide, false_and, if_false, r3 150 l (by decide) (by decide), r12 150 l (by decide) (by decide)]
  have s4 : ∀ k, rd I4 143 k = rd I1 143 k := fun k => by rw [r4 _ _ (by decide) (by decide), r3 _ _ (by decide) (by decide), pnt_row p2 (by decide)]
  have o4 : ∀ k, rd I4 144 k = rd I2 144 k := fun k => by rw [r4 _ _ (by decide) (by decide), r3 _ _ (by decide) (by decide)]
  have fr4 : ∀ id k, ¬ (143 ≤ id ∧ id ≤ 150) → rd I4 id k = rd I id k := fun id k g => by rw [r4 _ _ (by omega) (by omega), r3 _ _ (by omega) (by omega), r12 _ _ (by omega) (by omega)]
  refine h _ (wPM_mk ⟨fun k => ?_, fun k => ?_, fun k => ?_, fun k => ?_, fun k => ?_, fun k => ?_, ?_, ?_, ?_, ?_, fun id k g1 g2 g3 => ?_⟩)
  · rw [rd_wr_ne (by (try unfold bI); omega), rd_wr_ne (by (try unfold bI); omega), s4 k, pnt_at p1 k]
  · rw [rd_wr_ne (by (try unfold bI); omega), rd_wr_ne (by (try unfold bI); omega), o4 k, pnt_at p2 k, pnt_row p1 (by decide)]
  · rw [rd_wr_ne (by (try unfold bI); omega), rd_wr_ne (by (try unfold bI); omega), r4 _ _ (by decide) (by decide)]; exact k3a k
  · rw [rd_wr_ne (by (try unfold bI); omega), rd_wr_ne (by (try unfold bI); omega), r4 _ _ (by decide) (by decide)]; exact k3b k
  · rw [rd_wr_ne (by (try unfold bI); omega), rd_wr_ne (by (try unfold bI); omega)]; exact k4a k
  · rw [rd_wr_ne (by (try unfold bI); omega), rd_wr_ne (by (try unfold bI); omega)]; exact k4b k
  · rw [rd_wr_ne (by (try unfold bI); omega), rd_wr_eq (by omega) (by omega)]
  · rw [rd_wr_ne (by (try unfold bI); omega), rd_wr_ne (by (try unfold bI); omega), fr4 _ _ (by unfold bI; omega)]; exact hro
  · rw [rd_wr_ne (by (try unfold bI); omega), rd_wr_ne (by (try unfold bI); omega), fr4 _ _ (by unfold bI; omega)]; exact hco
  · rw [rd_wr_eq (by omega) (by omega), f66]; omega
  · rw [rd_wr_ne (by omega), rd_wr_ne (by omega)]; exact fr4 id k g1
theorem wLs_bd {I : Nat → Nat → Int32} {q N : Nat} {f : Int → Int} {fm : Int} (h : ∀ l : Nat, l < N → 0 ≤ rd I q l ∧ rd I q l ≤ 1000) : ∀ n : Nat, 0 ≤ wLs I q N f fm n ∧ wLs I q N f fm n ≤ 2000 * n
  | 0 => by simp [wLs]
  | n + 1 => by
    have ih := wLs_bd (f := f) (fm := fm) h n
    rw [wLs]
    split
    · rename_i g
      have := h (fm + n).toNat (by omega)
      omega
    · omega
abbrev qLa (I : Nat → Nat → Int32) (b : Nat) (R : Int) : Prop := ∃ j : Nat, j < 5 ∧ (wLc I 147 16 (fun i : Int => tF I (bI b 7) (bI b 8) 5 i) R j ∧ rd I 146 (R + j).toNat ≠ tF I (bI b 7) (bI b 8) 5 (j : Int))
abbrev qLd (I : Nat → Nat → Int32) (b : Nat) (C : Int) : Prop := ∃ j : Nat, j < 10 ∧ (wLc I 150 32 (fun i : Int => tF I (bI b 10) (bI b 11) 10 i) C j ∧ rd I 149 (C + j).toNat ≠ tF I (bI b 10) (bI b 11) 10 (j : Int))
theorem x8_fibreWorth {I : Nat → Nat → Int32} {J : Nat → Nat → Int64} {F : Option Value → zM → Prop} {b : Nat} (hb : b < 10) (hta : ∀ l : Nat, l < 16 → 0 ≤ rd I 147 l ∧ rd I 147 l ≤ 1000) (htd : ∀ l : Nat, l < 32 → 0 ≤ rd I 150 l ∧ rd I 150 l ≤ 1000) {R C : Int} (hR : -1000 ≤ R ∧ R ≤ 1000) (hC : -1000 ≤ C ∧ C ≤ 1000) (hq : qLa I b R ∨ qLd I b C → F (some (.int (iI (-1)))) (gM I J)) (hs : ¬ (qLa I b R ∨ qLd I b C) → F (some (.int (iI (wLs I 147 16 (fun i : Int => tF I (bI b 7) (bI b 8) 5 i) R 5 + wLs I 150 32 (fun i : Int => tF I (bI b 10) (bI b 11) 10 i) C 10)))) (gM I J)) : Cl yX8_fibreWorth kX8_fibreWorth [.ref 142, .ref (bI b 0), .int (iI R), .int (iI C)] (gM I J) F := by
  refine cl_s (by decide) (by decide) (Nat.le_of_ble_eq_true rfl) rt_i ?_
  show Wp _ F 0 [(0, .ref 142), (1, .ref (bI b 0)), (2, .int (iI R)), (3, .int (iI C))] [] _
  refine w_aload_n dX8_fibreWorth_0 rfl ?_
  refine v_getR (j := 145) dX8_fibreWorth_1 fX8_23 ⟨by decide, rfl⟩ rfl rfl ?_
  refine w_aload_n dX8_fibreWorth_4 rfl ?_
  refine v_getR (j := bI b 6) dX8_fibreWorth_5 fX8_46 (sO_b hb (by decide) rfl) rfl (r0_b hb (by decide)) ?_
  refine w_iload_n dX8_fibreWorth_8 rfl ?_
  refine v_callV2 dX8_fibreWorth_9 lX8_49 vX3_worthOf (by decide) rfl rfl ⟨by decide, rfl⟩ (by decide) rfl (Nat.le_of_ble_eq_true rfl) ?_
  have w1 : 0 ≤ wLs I 147 16 (fun i : Int => tF I (bI b 7) (bI b 8) 5 i) R 5 ∧ wLs I 147 16 (fun i : Int => tF I (bI b 7) (bI b 8) 5 i) R 5 ≤ 2000 * ((5 : Nat) : Int) := wLs_bd (q := 147) (N := 16) (f := (fun i : Int => tF I (bI b 7) (bI b 8) 5 i)) (fm := R) hta 5
  have w2 : 0 ≤ wLs I 150 32 (fun i : Int => tF I (bI b 10) (bI b 11) 10 i) C 10 ∧ wLs I 150 32 (fun i : Int => tF I (bI b 10) (bI b 11) 10 i) C 10 ≤ 2000 * ((10 : Nat) : Int) := wLs_bd (q := 150) (N := 32) (f := (fun i : Int => tF I (bI b 10) (bI b 11) 10 i)) (fm := C) htd 10
  refine x3_worthOf_a hb hR (fun qa => ?_) (fun qa => ?_)
  · refine w_istore dX8_fibreWorth_12 rfl rfl ?_
    refine w_aload_n dX8_fibreWorth_14 rfl ?_
    refine v_getR (j := 148) dX8_fibreWorth_15 fX8_27 ⟨by decide, rfl⟩ rfl rfl ?_
    refine w_aload_n dX8_fibreWorth_18 rfl ?_
    refine v_getR (j := bI b 9) dX8_fibreWorth_19 fX8_53 (sO_b hb (by decide) rfl) rfl (r0_b hb (by decide)) ?_
    refine w_iload_n dX8_fibreWorth_22 rfl ?_
    refine v_callV2 dX8_fibreWorth_23 lX8_49 vX3_worthOf (by decide) rfl rfl ⟨by decide, rfl⟩ (by decide) rfl (Nat.le_of_ble_eq_true rfl) ?_
    refine x3_worthOf_d hb hC (fun qd => ?_) (fun qd => ?_)
    · refine w_istore dX8_fibreWorth_26 rfl rfl ?_
      refine w_iload dX8_fibreWorth_28 rfl ?_
      refine w_iconst (v := iI (-1)) dX8_fibreWorth_30 rfl ?_
      refine v_icmp_eq 40 dX8_fibreWorth_31 (by decide) (by decide) (by decide) (fun _ => ?_) (fun q => absurd q (by decide))
      refine w_iconst (v := iI (-1)) dX8_fibreWorth_40 rfl ?_
      refine v_iret dX8_fibreWorth_41 rfl ⟨rfl, rfl⟩ ?_
      first
        | exact hq (Or.inl qa)
        | exact hq (Or.inr qd)
        | exact hs (fun g => by
            rcases g with ⟨j, g1, g2⟩ | ⟨j, g1, g2⟩
            · exact qa j g1 g2
            · exact qd j g1 g2)
        | (exfalso; clear qa qd hq hs; omega)
    · refine w_istore dX8_fibreWorth_26 rfl rfl ?_
      refine w_iload dX8_fibreWorth_28 rfl ?_
      refine w_iconst (v := iI (-1)) dX8_fibreWorth_30 rfl ?_
      refine v_icmp_eq 40 dX8_fibreWorth_31 (by decide) (by decide) (by decide) (fun _ => ?_) (fun q => absurd q (by decide))
      refine w_iconst (v := iI (-1)) dX8_fibreWorth_40 rfl ?_
      refine v_iret dX8_fibreWorth_41 rfl ⟨rfl, rfl⟩ ?_
      first
        | exact hq (Or.inl qa)
        | exact hq (Or.inr qd)
        | exact hs (fun g => by
            rcases g with ⟨j, g1, g2⟩ | ⟨j, g1, g2⟩
            · exact qa j g1 g2
            · exact qd j g1 g2)
        | (exfalso; clear qa qd hq hs; omega)
  · refine w_istore dX8_fibreWorth_12 rfl rfl ?_
    refine w_aload_n dX8_fibreWorth_14 rfl ?_
    refine v_getR (j := 148) dX8_fibreWorth_15 fX8_27 ⟨by decide, rfl⟩ rfl rfl ?_
    refine w_aload_n dX8_fibreWorth_18 rfl ?_
    refine v_getR (j := bI b 9) dX8_fibreWorth_19 fX8_53 (sO_b hb (by decide) rfl) rfl (r0_b hb (by decide)) ?_
    refine w_iload_n dX8_fibreWorth_22 rfl ?_
    refine v_callV2 dX8_fibreWorth_23 lX8_49 vX3_worthOf (by decide) rfl rfl ⟨by decide, rfl⟩ (by decide) rfl (Nat.le_of_ble_eq_true rfl) ?_
    refine x3_worthOf_d hb hC (fun qd => ?_) (fun qd => ?_)
    · refine w_istore dX8_fibreWorth_26 rfl rfl ?_
      refine w_iload dX8_fibreWorth_28 rfl ?_
      refine w_iconst (v := iI (-1)) dX8_fibreWorth_30 rfl ?_
      refine v_icmp_eq 40 dX8_fibreWorth_31 (by decide) (by clear qa qd hq hs; omega) (by clear qa qd hq hs; omega) (fun c31 => ?_) (fun c31 => ?_)
      · refine w_iconst (v := iI (-1)) dX8_fibreWorth_40 rfl ?_
        refine v_iret dX8_fibreWorth_41 rfl ⟨rfl, rfl⟩ ?_
        first
          | exact hq (Or.inl qa)
          | exact hq (Or.inr qd)
          | exact hs (fun g => by
              rcases g with ⟨j, g1, g2⟩ | ⟨j, g1, g2⟩
              · exact qa j g1 g2
              · exact qd j g1 g2)
          | (exfalso; clear qa qd hq hs; omega)
      · refine w_iload dX8_fibreWorth_34 rfl ?_
        refine w_iconst (v := iI (-1)) dX8_fibreWorth_36 rfl ?_
        refine v_icmp_ne 42 dX8_fibreWorth_37 (by decide) (by decide) (by decide) (fun q => absurd q (by decide)) (fun _ => ?_)
        refine w_iconst (v := iI (-1)) dX8_fibreWorth_40 rfl ?_
        refine v_iret dX8_fibreWorth_41 rfl ⟨rfl, rfl⟩ ?_
        first
          | exact hq (Or.inl qa)
          | exact hq (Or.inr qd)
          | exact hs (fun g => by
              rcases g with ⟨j, g1, g2⟩ | ⟨j, g1, g2⟩
              · exact qa j g1 g2
              · exact qd j g1 g2)
          | (exfalso; clear qa qd hq hs; omega)
    · refine w_istore dX8_fibreWorth_26 rfl rfl ?_
      refine w_iload dX8_fibreWorth_28 rfl ?_
      refine w_iconst (v := iI (-1)) dX8_fibreWorth_30 rfl ?_
      refine v_icmp_eq 40 dX8_fibreWorth_31 (by decide) (by clear qa qd hq hs; omega) (by clear qa qd hq hs; omega) (fun c31 => ?_) (fun c31 => ?_)
      · refine w_iconst (v := iI (-1)) dX8_fibreWorth_40 rfl ?_
        refine v_iret dX8_fibreWorth_41 rfl ⟨rfl, rfl⟩ ?_
        first
          | exact hq (Or.inl qa)
          | exact hq (Or.inr qd)
          | exact hs (fun g => by
              rcases g with ⟨j, g1, g2⟩ | ⟨j, g1, g2⟩
              · exact qa j g1 g2
              · exact qd j g1 g2)
          | (exfalso; clear qa qd hq hs; omega)
      · refine w_iload dX8_fibreWorth_34 rfl ?_
        refine w_iconst (v := iI (-1)) dX8_fibreWorth_36 rfl ?_
        refine v_icmp_ne 42 dX8_fibreWorth_37 (by decide) (by clear qa qd hq hs; omega) (by clear qa qd hq hs; omega) (fun c37 => ?_) (fun c37 => ?_)
        · refine w_iload dX8_fibreWorth_42 rfl ?_
          refine w_iload dX8_fibreWorth_44 rfl ?_
          refine v_iadd dX8_fibreWorth_46 ?_
          refine v_iret dX8_fibreWorth_47 rfl ⟨rfl, rfl⟩ ?_
          first
            | exact hq (Or.inl qa)
            | exact hq (Or.inr qd)
            | exact hs (fun g => by
                rcases g with ⟨j, g1, g2⟩ | ⟨j, g1, g2⟩
                · exact qa j g1 g2
                · exact qd j g1 g2)
            | (exfalso; clear qa qd hq hs; omega)
        · refine w_iconst (v := iI (-1)) dX8_fibreWorth_40 rfl ?_
          refine v_iret dX8_fibreWorth_41 rfl ⟨rfl, rfl⟩ ?_
          first
            | exact hq (Or.inl qa)
            | exact hq (Or.inr qd)
            | exact hs (fun g => by
                rcases g with ⟨j, g1, g2⟩ | ⟨j, g1, g2⟩
                · exact qa j g1 g2
                · exact qd j g1 g2)
            | (exfalso; clear qa qd hq hs; omega)
