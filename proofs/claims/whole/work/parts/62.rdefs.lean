/-! tries, join, joins: the reference -/
theorem rmO_cg {e e' ce : Nat → Int} (h : ∀ k, k < 512 → e k = e' k) {R C : Int} : rmO e ce R C ↔ rmO e' ce R C := by
  unfold rmO
  constructor
  · intro g y x u
    have v := g y x u
    have v2 : 0 ≤ y ∧ y < 16 ∧ 0 ≤ x ∧ x < 32 := v.1
    exact ⟨v.1, by rw [← h _ (by omega)]; exact v.2⟩
  · intro g y x u
    have v := g y x u
    have v2 : 0 ≤ y ∧ y < 16 ∧ 0 ≤ x ∧ x < 32 := v.1
    exact ⟨v.1, by rw [h _ (by omega)]; exact v.2⟩
theorem tcE_cg {e e' : Nat → Int} (h : ∀ k, k < 512 → e k = e' k) {y x : Int} (v : inS y x) : tcE e y x → tcE e' y x := by
  have v2 : 0 ≤ y ∧ y < 16 ∧ 0 ≤ x ∧ x < 32 := v
  unfold tcE
  rintro (⟨g1, g2⟩ | ⟨g1, g2⟩ | ⟨g1, g2⟩ | ⟨g1, g2⟩)
  · exact Or.inl ⟨g1, by rw [← h _ (by omega)]; exact g2⟩
  · exact Or.inr (Or.inl ⟨g1, by rw [← h _ (by omega)]; exact g2⟩)
  · exact Or.inr (Or.inr (Or.inl ⟨g1, by rw [← h _ (by omega)]; exact g2⟩))
  · exact Or.inr (Or.inr (Or.inr ⟨g1, by rw [← h _ (by omega)]; exact g2⟩))
theorem tcB_cg {e e' ce : Nat → Int} (h : ∀ k, k < 512 → e k = e' k) {R C : Int} (hr : rmO e ce R C) : tcB e ce R C ↔ tcB e' ce R C := by
  unfold tcB
  constructor
  · rintro ⟨y, x, g1, g2⟩
    exact ⟨y, x, g1, tcE_cg h (hr y x g1).1 g2⟩
  · rintro ⟨y, x, g1, g2⟩
    exact ⟨y, x, g1, tcE_cg (fun k hk => (h k hk).symm) (hr y x g1).1 g2⟩
theorem fzA_cg {M M' : Nat → Nat → Int32} {e e' : Nat → Int} {a wn : Nat} {p : Int} (h : ∀ k, k < 512 → e k = e' k) (hm : fR M M') : fzA M' e' a wn p ↔ fzA M e a wn p := by
  unfold fzA rmP tcP
  rw [rce_R hm]
  constructor
  · rintro ⟨g1, g2, g3, g4⟩
    have u := (rmO_cg h).mpr g2
    exact ⟨g1, u, (tcB_cg h u).mpr g3, (mL_R (pl_fR hm (by have := nx_bd g1; omega)) wn).mp g4⟩
  · rintro ⟨g1, g2, g3, g4⟩
    exact ⟨g1, (rmO_cg h).mp g2, (tcB_cg h g2).mp g3, (mL_R (pl_fR hm (by have := nx_bd g1; omega)) wn).mpr g4⟩
theorem fzB_cg {M M' : Nat → Nat → Int32} {Y : Nat → Prop} {e e' : Nat → Int} {a b wn : Nat} {t t' : Prop} {q : Int} (h : ∀ k, k < 512 → e k = e' k) (hm : sF Y M M') (hy : ∀ k, Y k → k = b) (ht : t' ↔ t) : fzB M' e' a b wn t' q ↔ fzB M e a b wn t q := by
  have hc : rce M' b = rce M b := funext fun k => hm 174 _ (by unfold S3; omega)
  unfold fzB rmP tcP
  rw [hc, ht]
  constructor
  · rintro ⟨g1, g2, g3, g4, g5⟩
    have u := (rmO_cg h).mpr g2
    have r := sF_Rpl (q := q) hm hy (by have := nx_bd g1; omega)
    rw [← tcB_cg h u] at g3 g4
    rw [sdA_R r] at g4
    rw [mL_R r] at g5
    exact ⟨g1, u, g3, g4, g5⟩
  · rintro ⟨g1, u, g3, g4, g5⟩
    have r := sF_Rpl (q := q) hm hy (by have := nx_bd g1; omega)
    rw [tcB_cg h u] at g3 g4
    rw [← sdA_R r] at g4
    rw [← mL_R r] at g5
    exact ⟨g1, (rmO_cg h).mp u, g3, g4, g5⟩
def fz2 (M : Nat → Nat → Int32) (e : Nat → Int) (a b wn : Nat) (p q : Int) : Prop := nx p ∧ rmP e (rce M a) p ∧ fzB (pl M a p) e a b wn (tcP e (rce M a) p) q
