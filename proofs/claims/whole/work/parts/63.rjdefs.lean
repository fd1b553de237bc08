/-! tries from its start, join, joins: the reference -/
/-- as sF, and the early owners too -/
def sJ (Y : Nat → Prop) (I I' : Nat → Nat → Int32) : Prop := ∀ id k, ¬ (S3 id k ∨ (id = 171 ∧ 21 ≤ k ∧ k ≤ 23) ∨ id = 187 ∨ ((id = 178 ∨ id = 179) ∧ Y k)) → rd I' id k = rd I id k
theorem sJ_F {Y : Nat → Prop} {I I1 I' : Nat → Nat → Int32} (h : sJ (fun _ => False) I I1) (h2 : sF Y I1 I') : sJ Y I I' := fun id k g => by
  rw [h2 id k (fun q => g (by
    rcases q with q | q | q
    · exact Or.inl q
    · exact Or.inr (Or.inl q)
    · exact Or.inr (Or.inr (Or.inr q))))]
  exact h id k (fun q => g (by
    rcases q with q | q | q | q
    · exact Or.inl q
    · exact Or.inr (Or.inl q)
    · exact Or.inr (Or.inr (Or.inl q))
    · exact q.2.elim))
theorem sJ_R {I I' : Nat → Nat → Int32} (h : sJ (fun _ => False) I I') : fR I I' := fun id k g => h id k (fun q => by
  rcases q with q | q | q | q
  · unfold S3 at q; omega
  · omega
  · omega
  · exact q.2)
theorem sJ_pl {Y : Nat → Prop} {I I' : Nat → Nat → Int32} {b : Nat} {q : Int} (h : sJ Y I I') (hq : 0 ≤ q ∧ q < 100000) : sJ (fun k => Y k ∧ k ≠ b) (pl I b q) (pl I' b q) := fun id k g => by
  rw [pl_rd hq, pl_rd hq]
  by_cases g1 : id = 179 ∧ k = b
  · rw [if_pos g1, if_pos g1]
  · rw [if_neg g1, if_neg g1]
    by_cases g2 : id = 178 ∧ k = b
    · rw [if_pos g2, if_pos g2]
    · rw [if_neg g2, if_neg g2]
      by_cases g3 : id = 177 ∧ k = b
      · rw [if_pos g3, if_pos g3]
      · rw [if_neg g3, if_neg g3]
        refine h id k (fun u => g ?_)
        rcases u with u | u | u | u
        · exact Or.inl u
        · exact Or.inr (Or.inl u)
        · exact Or.inr (Or.inr (Or.inl u))
        · exact Or.inr (Or.inr (Or.inr ⟨u.1, u.2, by omega⟩))
theorem rg_pl {I : Nat → Nat → Int32} {a : Nat} {p : Int} (h : rg I) (hp : nx p) : rg (pl I a p) := fun d hd => by
  have nq : -4 ≤ (p : Int) / 64 - 5 ∧ (p : Int) / 64 - 5 ≤ 15 ∧ -9 ≤ (p : Int) % 64 - 10 ∧ (p : Int) % 64 - 10 ≤ 31 := hp
  have b := nx_bd hp
  have := h d hd
  rw [pl_rd (by omega), pl_rd (by omega), if_neg (by omega), if_neg (show ¬ (178 = 177 ∧ d = a) by omega), if_neg (show ¬ (179 = 178 ∧ d = a) by omega), if_neg (show ¬ (179 = 177 ∧ d = a) by omega)]
  constructor
  · split <;> omega
  · split <;> omega
theorem sJ_mono {Y Z : Nat → Prop} {I I' : Nat → Nat → Int32} (h : sJ Y I I') (hz : ∀ k, Y k → Z k) : sJ Z I I' := fun id k g => h id k (fun q => g (by
  rcases q with q | q | q | q
  · exact Or.inl q
  · exact Or.inr (Or.inl q)
  · exact Or.inr (Or.inr (Or.inl q))
  · exact Or.inr (Or.inr (Or.inr ⟨q.1, hz k q.2⟩))))
theorem BS_w {bw bA bB : Int} {S : Int → Int → Prop} {w w' : Int → Int → Int} (h : BS bw bA bB S w) (hw : ∀ x y, S x y → w x y = w' x y) : BS bw bA bB S w' := by
  obtain ⟨h0, h1, h2⟩ := h
  refine ⟨h0, h1, fun g => ⟨(h2 g).1, by rw [← hw _ _ (h2 g).1]; exact (h2 g).2.1, fun x y u => ?_⟩⟩
  rw [← hw _ _ u]
  exact (h2 g).2.2 x y u
theorem sF_of_R {Y : Nat → Prop} {I I' : Nat → Nat → Int32} (h : sJ (fun _ => False) I I') (id k : Nat) (g : 173 ≤ id ∧ id ≤ 179 ∨ id = 183 ∨ id = 184) : rd I' id k = rd I id k := sJ_R h id k g
theorem fzB_R {M M' : Nat → Nat → Int32} {e e' : Nat → Int} {a b wn : Nat} {t t' : Prop} {q : Int} (h : ∀ k, k < 512 → e k = e' k) (hm : fR M M') (ht : t' ↔ t) : fzB M' e' a b wn t' q ↔ fzB M e a b wn t q := by
  unfold fzB rmP tcP
  rw [rce_R hm, ht]
  constructor
  · rintro ⟨g1, g2, g3, g4, g5⟩
    have u := (rmO_cg h).mpr g2
    have r := pl_fR (b := b) (q := q) hm (by have := nx_bd g1; omega)
    rw [← tcB_cg h u] at g3 g4
    rw [sdA_R r] at g4
    rw [mL_R r] at g5
    exact ⟨g1, u, g3, g4, g5⟩
  · rintro ⟨g1, u, g3, g4, g5⟩
    have r := pl_fR (b := b) (q := q) hm (by have := nx_bd g1; omega)
    rw [tcB_cg h u] at g3 g4
    rw [← sdA_R r] at g4
    rw [← mL_R r] at g5
    exact ⟨g1, (rmO_cg h).mp u, g3, g4, g5⟩
theorem fz2_cg {M M' : Nat → Nat → Int32} {e e' : Nat → Int} {a b wn : Nat} {p q : Int} (h : ∀ k, k < 512 → e k = e' k) (hm : fR M M') : fz2 M' e' a b wn p q ↔ fz2 M e a b wn p q := by
  unfold fz2
  rw [rce_R hm]
  constructor
  · rintro ⟨g1, g2, g3⟩
    have u : rmP e (rce M a) p := (rmO_cg h).mpr g2
    exact ⟨g1, u, (fzB_R h (pl_fR hm (by have := nx_bd g1; omega)) (tcB_cg h u).symm).mp g3⟩
  · rintro ⟨g1, u, g3⟩
    exact ⟨g1, (rmO_cg h).mp u, (fzB_R h (pl_fR hm (by have := nx_bd g1; omega)) (tcB_cg h u).symm).mpr g3⟩
theorem F2_nx {I : Nat → Nat → Int32} {qa qb wn : Nat} {e : Nat → Int} {x y : Int} (h : ∃ p' q' : Int, fz2 I e qa qb wn p' q' ∧ x = xx qa qb p' q' ∧ y = yy qa qb p' q') : nx x ∧ nx y := by
  obtain ⟨p1, q1, u1, u2, u3⟩ := h
  by_cases g : (qa : Int) < qb
  · rw [show xx (qa : Int) qb p1 q1 = p1 from if_pos (Or.inr g)] at u2
    rw [show yy (qa : Int) qb p1 q1 = q1 from if_pos (Or.inr g)] at u3
    rw [u2, u3]
    exact ⟨u1.1, u1.2.2.1⟩
  · rw [show xx (qa : Int) qb p1 q1 = q1 from if_neg (by omega)] at u2
    rw [show yy (qa : Int) qb p1 q1 = p1 from if_neg (by omega)] at u3
    rw [u2, u3]
    exact ⟨u1.2.2.1, u1.1⟩
theorem F2_w {I : Nat → Nat → Int32} {qa qb : Nat} (p q : Int) : (fun x y => if (qa : Int) < qb then wA (pl (pl I qa x) qb y) else wA (pl (pl I qa y) qb x)) (xx qa qb p q) (yy qa qb p q) = wA (pl (pl I qa p) qb q) := by
  by_cases g : (qa : Int) < qb
  · rw [show xx (qa : Int) qb p q = p from if_pos (Or.inr g), show yy (qa : Int) qb p q = q from if_pos (Or.inr g)]
    simp only [if_pos g]
  · rw [show xx (qa : Int) qb p q = q from if_neg (by omega), show yy (qa : Int) qb p q = p from if_neg (by omega)]
    simp only [if_neg g]
