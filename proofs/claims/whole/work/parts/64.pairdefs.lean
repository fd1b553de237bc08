/-! Pairing of the class -/
def hcI (ce : Nat → Int) (r c : Int) : Int := if cA ce 0 0 r c ≠ 95 then 1 else 0
theorem hcI_bd (ce : Nat → Int) (r c : Int) : 0 ≤ hcI ce r c ∧ hcI ce r c ≤ 1 := by unfold hcI; split <;> omega
def h4I (ce : Nat → Int) (r c : Int) : Int := hcI ce (r - 1) c + hcI ce (r + 1) c + hcI ce r (c - 1) + hcI ce r (c + 1)
theorem h4I_bd (ce : Nat → Int) (r c : Int) : 0 ≤ h4I ce r c ∧ h4I ce r c ≤ 4 := by
  have h1 := hcI_bd ce (r - 1) c
  have h2 := hcI_bd ce (r + 1) c
  have h3 := hcI_bd ce r (c - 1)
  have h4 := hcI_bd ce r (c + 1)
  unfold h4I; omega
def ovl (I : Nat → Nat → Int32) (ce : Nat → Int) (b n : Nat) (rs cs : Int) : Prop := ∃ j, j < n ∧ cA ce 0 0 (rd I (bI b 2) j + rs) (rd I (bI b 3) j + cs) ≠ 95
noncomputable def csV (I : Nat → Nat → Int32) (ce : Nat → Int) (b n : Nat) (rs cs : Int) : Int := @ite _ (ovl I ce b n rs cs) (Classical.propDecidable _) (-1) (smN (fun j => h4I ce (rd I (bI b 2) j + rs) (rd I (bI b 3) j + cs)) n)
abbrev wqA (I : Nat → Nat → Int32) (b g : Nat) (sh : Int) : Prop := ∃ j : Nat, j < 5 ∧ (tF I (bI b 7) (bI b 8) 5 (j : Int) ≠ 0 ∧ tF I (bI g 7) (bI g 8) 5 ((j : Int) - sh) ≠ 0 ∧ tF I (bI b 7) (bI b 8) 5 (j : Int) ≠ tF I (bI g 7) (bI g 8) 5 ((j : Int) - sh))
abbrev wqD (I : Nat → Nat → Int32) (b g : Nat) (sh : Int) : Prop := ∃ j : Nat, j < 10 ∧ (tF I (bI b 10) (bI b 11) 10 (j : Int) ≠ 0 ∧ tF I (bI g 10) (bI g 11) 10 ((j : Int) - sh) ≠ 0 ∧ tF I (bI b 10) (bI b 11) 10 (j : Int) ≠ tF I (bI g 10) (bI g 11) 10 ((j : Int) - sh))
noncomputable def waV (I : Nat → Nat → Int32) (b g : Nat) (sh : Int) : Int := @ite _ (wqA I b g sh) (Classical.propDecidable _) (-1) (wbC (fun j : Nat => tF I (bI b 7) (bI b 8) 5 (j : Int)) (fun j : Nat => tF I (bI g 7) (bI g 8) 5 ((j : Int) - sh)) 5)
noncomputable def wdV (I : Nat → Nat → Int32) (b g : Nat) (sh : Int) : Int := @ite _ (wqD I b g sh) (Classical.propDecidable _) (-1) (wbC (fun j : Nat => tF I (bI b 10) (bI b 11) 10 (j : Int)) (fun j : Nat => tF I (bI g 10) (bI g 11) 10 ((j : Int) - sh)) 10)
theorem wbC_bd (f g : Nat → Int) : ∀ n : Nat, 0 ≤ wbC f g n ∧ wbC f g n ≤ 2 * n
  | 0 => by simp [wbC]
  | n + 1 => by
    have := wbC_bd f g n
    rw [wbC]
    split <;> omega
theorem waV_bd (I : Nat → Nat → Int32) (b g : Nat) (sh : Int) : -1 ≤ waV I b g sh ∧ waV I b g sh ≤ 10 := by
  have h := wbC_bd (fun j : Nat => tF I (bI b 7) (bI b 8) 5 (j : Int)) (fun j : Nat => tF I (bI g 7) (bI g 8) 5 ((j : Int) - sh)) 5
  unfold waV
  by_cases q : wqA I b g sh
  · rw [if_pos q]; decide
  · rw [if_neg q]; omega
theorem wdV_bd (I : Nat → Nat → Int32) (b g : Nat) (sh : Int) : -1 ≤ wdV I b g sh ∧ wdV I b g sh ≤ 20 := by
  have h := wbC_bd (fun j : Nat => tF I (bI b 10) (bI b 11) 10 (j : Int)) (fun j : Nat => tF I (bI g 10) (bI g 11) 10 ((j : Int) - sh)) 10
  unfold wdV
  by_cases q : wqD I b g sh
  · rw [if_pos q]; decide
  · rw [if_neg q]; omega
theorem csV_bd (I : Nat → Nat → Int32) (ce : Nat → Int) (b : Nat) {n : Nat} (hn : n ≤ 50) (rs cs : Int) : -1 ≤ csV I ce b n rs cs ∧ csV I ce b n rs cs ≤ 200 := by
  have h := smN_bd (f := fun j => h4I ce (rd I (bI b 2) j + rs) (rd I (bI b 3) j + cs)) (m := 4) n (fun j _ => h4I_bd _ _ _)
  unfold csV
  by_cases q : ovl I ce b n rs cs
  · rw [if_pos q]; decide
  · rw [if_neg q]; omega
theorem csV_S {I I' : Nat → Nat → Int32} {b : Nat} (hb : b < 10) (h : fS I I') (ce : Nat → Int) (n : Nat) (rs cs : Int) : csV I' ce b n rs cs = csV I ce b n rs cs := by
  have h2 : ∀ k, rd I' (bI b 2) k = rd I (bI b 2) k := fun k => h _ _ (bI_lt hb (by decide))
  have h3 : ∀ k, rd I' (bI b 3) k = rd I (bI b 3) k := fun k => h _ _ (bI_lt hb (by decide))
  have e : ovl I' ce b n rs cs ↔ ovl I ce b n rs cs := by
    unfold ovl
    simp only [h2, h3]
  unfold csV
  by_cases g : ovl I ce b n rs cs
  · rw [if_pos g, if_pos (e.mpr g)]
  · rw [if_neg g, if_neg (fun u => g (e.mp u))]
    simp only [h2, h3]
theorem waV_S {I I' : Nat → Nat → Int32} {b g : Nat} (hb : b < 10) (hg : g < 10) (h : fS I I') (sh : Int) : waV I' b g sh = waV I b g sh := by
  have e : wqA I' b g sh ↔ wqA I b g sh := by
    unfold wqA
    simp only [tFa_S hb h, tFa_S hg h]
  unfold waV
  by_cases q : wqA I b g sh
  · rw [if_pos q, if_pos (e.mpr q)]
  · rw [if_neg q, if_neg (fun u => q (e.mp u))]
    simp only [tFa_S hb h, tFa_S hg h]
theorem wdV_S {I I' : Nat → Nat → Int32} {b g : Nat} (hb : b < 10) (hg : g < 10) (h : fS I I') (sh : Int) : wdV I' b g sh = wdV I b g sh := by
  have e : wqD I' b g sh ↔ wqD I b g sh := by
    unfold wqD
    simp only [tFd_S hb h, tFd_S hg h]
  unfold wdV
  by_cases q : wqD I b g sh
  · rw [if_pos q, if_pos (e.mpr q)]
  · rw [if_neg q, if_neg (fun u => q (e.mp u))]
    simp only [tFd_S hb h, tFd_S hg h]
/-- the rows of the Pairing -/
def pR3 (I I' : Nat → Nat → Int32) (a b n : Nat) (ca : Nat → Int) : Prop := (∀ i : Nat, i < 11 → rd I' 165 i = waV I a b ((i : Int) - 5)) ∧ (∀ k : Nat, k < 21 → rd I' 166 k = wdV I a b ((k : Int) - 10)) ∧ ∀ i k : Nat, i < 11 → k < 21 → rd I' 164 (i * 21 + k) = csV I ca b n ((i : Int) - 5) ((k : Int) - 10)
