/-! an array of arrays of longs -/
theorem zm_al_of {args : Array Value} {s : State} (h : (Cond.arrayOver (.array .long)).before args s = true) : zm_AL s := by
  sorry
def z_mna (m : zM) : zM := z_uR (z_uR (z_new (z_new (z_new m))) m.2.2.2 0 (m.2.2.2 + 1)) m.2.2.2 1 (m.2.2.2 + 2)
theorem w_mna {E : zE} {Q : Option Value → zM → Prop} {pc : Nat} {lv : List (Nat × Value)} {st : List Value} {m : zM} {idx : Nat} (hdg : decode (ze_cc E) pc = .ok (.multianewarray idx 2, 4)) (hl : Cond.classLink (ze_own E) idx "[[J" ∈ zm_g) (harr : Cond.arrayClass .long ∈ zm_g) (hs0 : zm_sh m.2.2.2 = .inr (.array .long, 2)) (hs1 : zm_sh (m.2.2.2 + 1) = .inr (.long, 27)) (hs2 : zm_sh (m.2.2.2 + 2) = .inr (.long, 27)) (hn : m.2.2.2 + 3 ≤ ze_n0 E + ze_mc E) (h190 : m.2.2.2 + 2 < 190) (k : Wp E Q (pc + 4) lv (.ref m.2.2.2 :: st) (z_mna m)) : Wp E Q pc lv (.int (iI 27) :: .int (iI 2) :: st) m := by
  sorry
theorem c_mna {E : zE} {Q : Option Value → zM → Prop} {pc : Nat} {lv : List (Nat × Value)} {st : List Value} {m : zM} {F : Nat → Nat → Int32} {G : Nat → Nat → Option Nat} {d idx : Nat} (id : Nat) (hid : m.2.2.2 + d = id) (hdg : decode (ze_cc E) pc = .ok (.multianewarray idx 2, 4)) (hl : Cond.classLink (ze_own E) idx "[[J" ∈ zm_g) (harr : Cond.arrayClass .long ∈ zm_g) (hs0 : zm_sh id = .inr (.array .long, 2)) (hs1 : zm_sh (id + 1) = .inr (.long, 27)) (hs2 : zm_sh (id + 2) = .inr (.long, 27)) (hn : id + 1 + 2 ≤ ze_n0 E + ze_mc E) (h190 : id + 2 < 190) (hF : ∀ k, F id k = 0 ∧ F (id + 1) k = 0 ∧ F (id + 2) k = 0) (hG : ∀ k, G id k = z_f (z_f (fun _ => none) 0 (id + 1)) 1 (id + 2) k) (hG2 : ∀ k, G (id + 1) k = none ∧ G (id + 2) k = none) (k : Wp E Q (pc + 4) lv (.ref id :: st) (mk m F G (d + 3))) : Wp E Q pc lv (.int (iI 27) :: .int (iI 2) :: st) (mk m F G d) := by
  have e : z_mna (mk m F G d) = mk m F G (d + 3) := by
    have e1 : mk m F G d = mk m F (gA2 id (fun _ => none) G) d := mk_cg (fun i h1 h2 k => ⟨rfl, by unfold gA2; rw [if_neg (by omega)]⟩)
    have e2 : z_new (z_new (z_new (mk m F G d))) = mk m F (gA2 id (fun _ => none) G) (d + 1 + 1 + 1) := by
      rw [e1, mk_new hid (fun k => (hF k).1) (fun k => if_pos rfl), mk_new (id := id + 1) (by omega) (fun k => (hF k).2.1) (fun k => by unfold gA2; rw [if_neg (by omega)]; exact (hG2 k).1), mk_new (id := id + 2) (by omega) (fun k => (hF k).2.2) (fun k => by unfold gA2; rw [if_neg (by omega)]; exact (hG2 k).2)]
    unfold z_mna
    rw [e2, show (mk m F G d).2.2.2 = id from hid, mk_uR (by omega) (by omega), mk_uR (by omega) (by omega)]
    refine mk_cg (fun i h1 h2 q => ⟨rfl, ?_⟩)
    unfold z_u gA2
    by_cases e : i = id
    · subst e
      rw [hG q, if_pos rfl]
      unfold z_f
      by_cases k1 : q = 1
      · rw [if_pos ⟨rfl, k1⟩, if_pos k1]
      · rw [if_neg (fun u => k1 u.2), if_neg k1]
        by_cases k0 : q = 0
        · rw [if_pos ⟨rfl, k0⟩, if_pos k0]
        · rw [if_neg (fun u => k0 u.2), if_neg k0]
    · rw [if_neg (fun u => e u.1), if_neg (fun u => e u.1), if_neg e]
  refine w_mna hdg hl harr (show zm_sh (m.2.2.2 + d) = _ by rw [hid]; exact hs0) (show zm_sh (m.2.2.2 + d + 1) = _ by rw [hid]; exact hs1) (show zm_sh (m.2.2.2 + d + 2) = _ by rw [hid]; exact hs2) (show m.2.2.2 + d + 3 ≤ _ by rw [hid]; omega) (show m.2.2.2 + d + 2 < 190 by rw [hid]; exact h190) ?_
  rw [e, show (mk m F G d).2.2.2 = id from hid]
  exact k
theorem n10_mna : Cond.classLink RX10 11 "[[J" ∈ zm_g := zm_in (by decide +kernel) (by decide +kernel)
theorem rmna {k : Nat} : R0 135 k = z_f (z_f (fun _ => none) 0 (135 + 1)) 1 (135 + 2) k := match k with
  | 0 => rfl
  | 1 => rfl
  | q + 2 => rfl
