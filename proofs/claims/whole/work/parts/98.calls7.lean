/-! a BIT told anew: both -/
theorem bt_no {q id k : Nat} (u : ¬ bt q id k) : ¬ (id = bI q 1 ∨ id = bI q 2 ∨ id = bI q 3 ∨ id = bI q 4 ∨ id = bI q 5 ∨ id = bI q 7 ∨ id = bI q 8 ∨ id = bI q 10 ∨ id = bI q 11 ∨ (id = bI q 0 ∧ (k = 4 ∨ k = 7 ∨ k = 8 ∨ k = 12))) ∧ ¬ ((id = 173 ∨ id = 177 ∨ id = 180) ∧ k = q) ∧ ¬ (id = 174 ∧ 50 * q ≤ k ∧ k < 50 * q + 50) ∧ ¬ (id = 175 ∧ 5 * q ≤ k ∧ k < 5 * q + 5) ∧ ¬ (id = 176 ∧ 10 * q ≤ k ∧ k < 10 * q + 10) := by
  unfold bt at u
  unfold bI at *
  omega
section CG
variable {I : Nat → Nat → Int32} {J : Nat → Nat → Int64}
theorem pp_cg {tp tp' : Nat → Int} {t : Nat} (he : ∀ k, k < t → tp k = tp' k) : ∀ n, n ≤ t → (pR tp n = pR tp' n ∧ pK tp n = pK tp' n ∧ pM tp n = pM tp' n ∧ ∀ k, pC tp n k = pC tp' n k)
  | 0, _ => ⟨rfl, rfl, rfl, fun _ => rfl⟩
  | n + 1, hn => by
    obtain ⟨i1, i2, i3, i4⟩ := pp_cg he n (by omega)
    have e := he n (by omega)
    refine ⟨?_, ?_, ?_, fun k => ?_⟩
    · unfold pR; rw [e, i1]
    · unfold pK; rw [e, i2]
    · unfold pM; rw [e, i3]
    · unfold pC; rw [e, i1, i2, i4]
theorem pB_cg {tp tp' : Nat → Int} {t : Nat} (he : ∀ k, k < t → tp k = tp' k) : (∀ j, j < t → pB tp j) ↔ ∀ j, j < t → pB tp' j := by
  have k : ∀ j, j < t → (pB tp j ↔ pB tp' j) := fun j hj => by
    have p := pp_cg he j (by omega)
    unfold pB
    rw [he j hj, p.1, p.2.1]
  exact ⟨fun u j hj => (k j hj).mp (u j hj), fun u j hj => (k j hj).mpr (u j hj)⟩
set_option maxHeartbeats 4000000 in
theorem cal_bit (h : Inv I J) {b : Int} (bb : -2147483648 ≤ b ∧ b < 2147483648) : both yX11_bit kX11_bit yX12_bit kX12_bit [.int (iI b)] I J := by
  have H := h.2.1
  have sk := shK_of h
  obtain ⟨t, t2, t1, t3, te⟩ := id h.1
  have pb := pB_cg (tp := fun k => rd I 2 k) (tp' := fun k => rd I 172 k) te
  have pm := (pp_cg (tp := fun k => rd I 2 k) (tp' := fun k => rd I 172 k) te t (Nat.le_refl _))
  refine x11_bit bb t1 t2 (fun q hq u => ?_) (hS_of h) (hB_of h) sk.1 sk.2.1 (by have := (lan_bd h).2.2; omega) (hrc_of h) (fun g => ?_) (fun q e1 e2 e3 e4 I1 hI I' hBB ⟨r1, r2, r3, r4⟩ => ?_)
  · exact (H q hq).1.2.1.mpr ((H q hq).2.1.2.2 (by unfold lyB; rw [← (H q hq).2.1.1]; exact u)).1
  · have e172 : (fun k => rd (wr I 1 1 0) 172 k) = (fun k => rd I 172 k) := funext fun k => rd_wr_row (by decide)
    refine x12_bit (t := t) bb (by rw [rd_wr_row (by decide)]; exact t3) t2 (fun _ I2 d1 d2 => sameA_mk (Inv_cf h (fun id k u => ?_) ⟨0, by omega, ?_, d1, fun k hk => by omega⟩ (rol_of h (fun id k u => ?_)) (txt_of h (fun id k u => ?_)) (lis_of h (fun id k u => ?_)))) (fun q e1 e2 e3 e4 => ?_)
    · rw [d2 id k (by unfold tp at u; omega), rd_wr_ne (by unfold tp at u; omega)]
    · rw [d2 _ _ (by omega), rd_wr_eq (by decide) (by decide)]; rfl
    · rw [d2 id k (by unfold rl at u; omega), rd_wr_ne (by unfold rl at u; omega)]
    · rw [d2 id k (by unfold tx at u; omega), rd_wr_ne (by unfold tx at u; omega)]
    · rw [d2 id k (by omega), rd_wr_ne (by omega)]
    · rw [e172] at e3 e4
      exact absurd ⟨by omega, pb.mpr e3, by rw [pm.2.2.1]; exact e4⟩ g
  · have bq := bI_ne e2 (show 0 < 13 by decide)
    have fr1 : ∀ id k, 151 ≤ id → rd I1 id k = rd I id k := fun id k u => by
      rcases hI with ⟨_, v⟩ | ⟨_, v⟩
      · rw [v]
      · exact v.fr id k (by omega) (by omega) (by omega)
    have frb : ∀ id k, 151 ≤ id → rd I' id k = rd I1 id k := fun id k u => r4 id k (by unfold bI; omega)
    have frc : ∀ id k, 151 ≤ id → rd (wr I' 1 1 0) id k = rd I id k := fun id k u => by rw [rd_wr_row (by omega), frb id k u, fr1 id k u]
    have e172 : (fun k => rd (wr I' 1 1 0) 172 k) = (fun k => rd I 172 k) := funext fun k => frc _ _ (by omega)
    refine x12_bit (t := t) bb (by rw [frc _ _ (by omega)]; exact t3) t2 (fun g => ?_) (fun q' f1 f2 f3 f4 I2 ⟨d1, d2, d3, d4, d5, d6, d7, d8⟩ => ?_)
    · rw [e172] at g
      exact absurd ⟨by omega, pb.mp e3, by rw [← pm.2.2.1]; exact e4⟩ g
    · have eq : q' = q := by omega
      subst eq
      rw [e172] at d5 f4 ⊢
      refine sameA_mk2 (by rw [pm.2.2.1]) ?_
      have base : ∃ Im, Inv Im J ∧ ¬ lyB Im q' ∧ (∀ id k, ¬ (id = 177 ∧ k = q') → rd Im id k = rd I1 id k) ∧ rd I1 (bI q' 0) 13 = 0 ∧ (rd I1 (bI q' 0) 14 = rd I (bI q' 0) 14 ∧ rd I1 (bI q' 0) 15 = rd I (bI q' 0) 15) ∧ rd I1 (bI q' 0) 0 = rd I (bI q' 0) 0 := by
        rcases hI with ⟨u, v⟩ | ⟨u, v⟩
        · subst v
          exact ⟨I1, h, lyZ (by rw [← (H q' e2).2.1.1]; exact u), fun _ _ _ => rfl, u, ⟨rfl, rfl⟩, rfl⟩
        · have l1 : lyB I q' := by unfold lyB; rw [← (H q' e2).2.1.1]; exact u
          exact ⟨un I1 q', Inv_del h e2 l1 v, fun w => (ly_un.mp w).1 rfl, fun id k w => by rw [un_rd, if_neg w], v.lie, ⟨v.ro, v.co⟩, v.fr _ _ (by omega) (by omega) (by omega)⟩
      obtain ⟨Im, hi, hl, hx, b13, ⟨b14, b15⟩, b0⟩ := base
      have c0 : ∀ k, ¬ (k = 4 ∨ k = 7 ∨ k = 8 ∨ k = 12) → rd I2 (bI q' 0) k = rd I1 (bI q' 0) k := fun k u => by
        rw [d8 _ _ (by omega), rd_wr_row (by omega), r4 _ _ (by unfold bI; omega)]
      have cI : ∀ r k, r < 13 → rd I2 (bI q' r) k = rd I' (bI q' r) k := fun r k hr => by
        have := bI_ne e2 hr
        rw [d8 _ _ (by omega), rd_wr_row (by omega)]
      obtain ⟨s1, s2, s3, s4, s5⟩ := hBB
      have pce : ∀ k, k < 50 → pC (fun k => rd I 2 k) t k = rce I2 q' k := fun k hk => by
        show _ = rd I2 174 (50 * q' + k)
        rw [d5 k hk]; exact pm.2.2.2 k
      have v4 : rd I2 (bI q' 0) 4 = pM (fun k => rd I 2 k) t := by rw [cI 0 _ (by omega)]; exact s2.1
      refine Inv_bit hi e2 hl (lyZ d3) (fun id k u => ?_) ⟨0, by omega, ?_, d1, fun k hk => by omega⟩ ⟨?_, ?_, fun _ => ?_, fun k hk => ?_, fun k hk => ?_⟩ ⟨?_, ?_, fun w => absurd d3 w⟩ ⟨?_, ?_, fun k hk => ?_, fun i j hij hj => ?_⟩ ?_
      · have u1 : ¬ bt q' id k := fun w => u (Or.inl w)
        have u2 : ¬ tp id k := fun w => u (Or.inr (Or.inl w))
        have u3 : id ≠ 182 := fun w => u (Or.inr (Or.inr w))
        obtain ⟨n1, n2, n3, n4, n5⟩ := bt_no u1
        have n6 : ¬ (id = 177 ∧ k = q') := fun w => n2 ⟨Or.inr (Or.inl w.1), w.2⟩
        have n7 : ¬ (id = 1 ∧ k = 1) := fun w => u2 (Or.inl w)
        have n8 : ¬ (id = 171 ∧ k = 1) := fun w => u2 (Or.inr (Or.inr (Or.inl w)))
        rw [d8 id k (fun w => by
          rcases w with w | w | w | w | w | w
          · exact u3 w
          · exact n8 w
          · exact n2 w
          · exact n3 w
          · exact n4 w
          · exact n5 w), rd_wr_ne n7, r4 id k n1, hx id k n6]
      · rw [d8 _ _ (by omega), rd_wr_eq (by decide) (by decide)]; rfl
      · rw [c0 0 (by omega), b0]; exact (H q' e2).1.1
      · rw [v4, d2]
        exact ⟨fun _ => by decide, fun _ => by omega⟩
      · refine RB_cg (ce := pC (fun k => rd I 2 k) t) (RB_fr (I := I') ⟨s1, fun k _ => pC_sg e3 k, _, s2, s3, s4⟩ (fun k hk => cI 0 k (by omega)) (fun r k hr => cI r k (by omega))) pce
      · rw [cI 7 _ (by omega), r1 k hk, d6 k hk]
      · rw [cI 10 _ (by omega), r2 k hk, d7 k hk]
      · rw [c0 13 (by omega), b13, d3]
      · rw [c0 14 (by omega), c0 15 (by omega), b14, b15]; exact (H q' e2).2.1.2.1
      · rw [cI 0 _ (by omega), r3, d4]
      · rw [d4]; omega
      · rw [d4] at hk; omega
      · rw [d4] at hj; omega
      · exact rg_cg h.2.2.1 (fun k => by rw [d8 _ _ (by omega)]; exact frc _ _ (by omega)) (fun k => by rw [d8 _ _ (by omega)]; exact frc _ _ (by omega))
end CG
