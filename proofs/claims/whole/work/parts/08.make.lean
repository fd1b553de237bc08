/-! making cells -/
def z_nx {α : Type} (f : Nat → Nat → α) (n : Nat) (v : α) : Nat → Nat → α := fun i j => if i = n then v else f i j
def z_new (m : zM) : zM := (z_nx m.1 m.2.2.2 0, z_nx m.2.1 m.2.2.2 0, z_nx m.2.2.1 m.2.2.2 none, m.2.2.2 + 1)
theorem z_nx_ne {α : Type} {f : Nat → Nat → α} {n i : Nat} {v : α} (h : i ≠ n) : z_nx f n v i = f i := funext fun j => if_neg h
theorem z_nx_eq {α : Type} {f : Nat → Nat → α} {n : Nat} {v : α} (j : Nat) : z_nx f n v n j = v := if_pos rfl
theorem zm_E_ad {ad ad' : Nat → Nat} {ca : FieldType → Nat} {m : zM} {id : Nat} (h : ∀ k j, m.2.2.1 id k = some j → ad' j = ad j) : zm_E ad' ca m id = zm_E ad ca m id := by
  have key : ∀ k, (m.2.2.1 id k).map ad' = (m.2.2.1 id k).map ad := fun k => by
    cases e : m.2.2.1 id k with
    | none => rfl
    | some j => exact congrArg some (h k j e)
  unfold zm_E
  cases zm_sh id with
  | inl ci =>
    simp only
    congr 2
    apply List.map_congr_left
    intro k _
    unfold zm_f
    rw [key]
  | inr q =>
    simp only
    congr 2
    unfold zm_a
    simp only [key]
def z_ad (ad : Nat → Nat) (n q : Nat) : Nat → Nat := fun k => if k = n then q else ad k
theorem zm_push {ad : Nat → Nat} {ca : FieldType → Nat} {m : zM} {q : Nat} {e : va_E} (hwf : zm_wf m) (he : zm_E (z_ad ad m.2.2.2 q) ca (z_new m) m.2.2.2 = e) : zm_W ad ca m ++ [(q, e)] = zm_W (z_ad ad m.2.2.2 q) ca (z_new m) := by
  unfold zm_W
  show _ = List.map _ (List.range (m.2.2.2 + 1))
  rw [List.range_succ, List.map_append]
  congr 1
  · apply List.map_congr_left
    intro id hid
    have hlt := List.mem_range.mp hid
    have hne : id ≠ m.2.2.2 := Nat.ne_of_lt hlt
    have e1 : z_ad ad m.2.2.2 q id = ad id := if_neg hne
    rw [e1, zm_E_cong (m := m) (m' := z_new m) (z_nx_ne hne) (z_nx_ne hne) (z_nx_ne hne), zm_E_ad (ad := ad) (ad' := z_ad ad m.2.2.2 q)]
    intro k j hj
    exact if_neg (Nat.ne_of_lt (hwf.1 _ _ _ hj))
  · show [(q, e)] = [(z_ad ad m.2.2.2 q m.2.2.2, zm_E (z_ad ad m.2.2.2 q) ca (z_new m) m.2.2.2)]
    rw [he]
    have e1 : z_ad ad m.2.2.2 q m.2.2.2 = q := if_pos rfl
    rw [e1]
theorem zm_wf_new {m : zM} (h : zm_wf m) (hn : m.2.2.2 < 190) : zm_wf (z_new m) := by
  refine ⟨fun i k j e => ?_, hn⟩
  show j < m.2.2.2 + 1
  have e' : (if i = m.2.2.2 then none else m.2.2.1 i k) = some j := e
  by_cases hc : i = m.2.2.2
  · rw [if_pos hc] at e'
    cases e'
  · rw [if_neg hc] at e'
    exact Nat.lt_succ_of_lt (h.1 _ _ _ e')
theorem z_ad_eq {ad : Nat → Nat} {n q : Nat} (h : n ≤ 190) : z_eq n ad (z_ad ad n q) := fun k hk => if_neg (by omega)
def zm_okT (t : FieldType) : Bool := match t with
  | .int => true
  | .boolean => true
  | .long => true
  | .object _ => true
  | .array _ => true
  | _ => false
theorem zm_Tok : ∀ ci, ci < 13 → ∀ k, k < zm_N ci → zm_okT (zm_T ci k) = true := by decide +kernel
section WM
variable {E : zE} {Q : Option Value → zM → Prop} {pc : Nat} {lv : List (Nat × Value)} {st : List Value} {m : zM}
theorem zm_made {p : Program} {l : Launch} {e : Env} {R : Room} {s : State} {mi : MethodId} {args : Array Value} {below : List Frame} {meth : Method} {c : Code} {D : va_G} {ca : FieldType → Nat} {A : Nat → Prop} {b : Nat → Nat} {Z : State → Prop} {ad : Nat → Nat} {H1 : Heap} {locs : List Loc} {ls : Array Slot} {q pc' : Nat} {en : va_E}
    (hA : zm_A E Q p l e R s mi args below meth c D ca A b Z) (h1 : z_eq (ze_n0 E) b ad) (h4 : z_wl m.2.2.2 lv) (h5 : z_ws m.2.2.2 st) (h6 : ze_n0 E ≤ m.2.2.2) (h7 : lv_has ls (ze_nL E) (z_l ad lv)) (hwf : zm_wf m) (hn : m.2.2.2 < 190)
    (he : zm_E (z_ad ad m.2.2.2 q) ca (z_new m) m.2.2.2 = en) (q1 : va_P D vwCl (zm_W ad ca m ++ [(q, en)]) H1) (q2 : va_D A (zm_W ad ca m ++ [(q, en)])) (q3 : va_S A s.heap H1 locs)
    (k : Wp E Q pc' lv (.ref m.2.2.2 :: st) (z_new m)) : W p l e R s mi args below meth c H1 locs (zm_cs E m + 1) (zm_sl E m + zm_sz m.2.2.2) Z (F0 mi pc' ls (.ref q :: z_s ad st)) := by
  rw [zm_push hwf he] at q1 q2
  have hq := z_ad_eq (ad := ad) (q := q) hwf.2
  have k2 := k p l e R s mi args below meth c D ca A b Z hA (z_ad ad m.2.2.2 q) H1 locs ls (fun j hj => (hq j (hj.imp (fun g => Nat.lt_of_lt_of_le g h6) id)).trans (h1 j hj)) ⟨q1, q2, zm_wf_new hwf hn⟩ q3 (fun x hx => z_w_mono (Nat.le_succ _) (h4 x hx)) (z_ws_cons (Or.inl (Nat.lt_succ_self _)) (fun x hx => z_w_mono (Nat.le_succ _) (h5 x hx))) (Nat.le_succ_of_le h6) (by rw [z_l_eq hq h4]; exact h7)
  have c1 : zm_cs E (z_new m) = zm_cs E m + 1 := by show m.2.2.2 + 1 - ze_n0 E = m.2.2.2 - ze_n0 E + 1; omega
  have c2 : zm_sl E (z_new m) = zm_sl E m + zm_sz m.2.2.2 := by
    show zm_ss m.2.2.2 + zm_sz m.2.2.2 - zm_ss (ze_n0 E) = zm_ss m.2.2.2 - zm_ss (ze_n0 E) + zm_sz m.2.2.2
    have := zm_ss_le h6
    omega
  have c3 : z_s (z_ad ad m.2.2.2 q) (.ref m.2.2.2 :: st) = .ref q :: z_s ad st := by
    show .ref (z_ad ad m.2.2.2 q m.2.2.2) :: z_s (z_ad ad m.2.2.2 q) st = _
    rw [z_s_eq hq h5]
    congr 2
    exact if_pos rfl
  rw [c1, c2, c3] at k2
  exact k2
theorem zm_fit1 {p : Program} {l : Launch} {e : Env} {R : Room} {s : State} {mi : MethodId} {args : Array Value} {below : List Frame} {meth : Method} {c : Code} {D : va_G} {ca : FieldType → Nat} {A : Nat → Prop} {b : Nat → Nat} {Z : State → Prop} (hA : zm_A E Q p l e R s mi args below meth c D ca A b Z) (h6 : ze_n0 E ≤ m.2.2.2) (hn : m.2.2.2 + 1 ≤ ze_n0 E + ze_mc E) : zm_cs E m + 1 ≤ R.cells ∧ zm_sl E m + zm_sz m.2.2.2 ≤ R.slots := by
  obtain ⟨a1, a2, a3, a4, a5, a6, a7, a8, a9, a10, ⟨r1, r2, r3, r4⟩, a12⟩ := hA
  unfold zm_cs zm_sl
  have g1 := zm_ss_le h6
  have g3 := zm_ss_le hn
  have g4 : zm_ss (m.2.2.2 + 1) = zm_ss m.2.2.2 + zm_sz m.2.2.2 := rfl
  omega
theorem w_objInit {idx id : Nat} (hdg : decode (ze_cc E) pc = .ok (.invokespecial idx, 3)) (hl : Cond.methodLink (ze_own E) idx Lib.objectInit ∈ zm_g) (hi : Cond.instanceMethod Lib.objectInit ∈ zm_g) (hc : Cond.code Lib.objectInit ⟨#[0xb1]⟩ 1 none ∈ zm_g) (hh : 1 ≤ ze_h E) (hw : (st.map fun v => v.category).sum ≤ 8) (k : Wp E Q (pc + 3) lv st m) : Wp E Q pc lv (.ref id :: st) m := by
  intro p l e R s mi args below meth c D ca A b Z hA ad H locs ls h1 h2 h3 h4 h5 h6 h7
  have hx := hA.1
  have hb := hA.2.1
  have hts := hA.2.2.2.2.1
  obtain ⟨r1, r2, r3, r4⟩ := hA.2.2.2.2.2.2.2.2.2.2.1
  refine W.objInit hx hb hA.2.2.2.1 (hts _ hl) (hts _ hi) (hts _ hc) (g := F0 mi pc ls (z_s ad (.ref id :: st))) rfl (h7.1.trans hA.2.2.1.symm) (a := ad id) (rest := z_s ad st) rfl hdg (Nat.le_trans hh r1) ?_ (k p l e R s mi args below meth c D ca A b Z hA ad H locs ls h1 h2 h3 h4 (z_ws_tail h5) h6 h7)
  have := zm_stk (ad := ad) hw
  show 2 * 0 + _ + 12 ≤ _
  omega
theorem w_new {idx ci : Nat} (hdg : decode (ze_cc E) pc = .ok (.new idx, 3)) (hci : ci < 13) (hl : Cond.classLink (ze_own E) idx (zm_C ci) ∈ zm_g) (hi : Cond.instantiable (zm_C ci) (zm_N ci) ∈ zm_g) (hini : Cond.initialized (zm_C ci) ∈ zm_g) (hs : zm_sh m.2.2.2 = .inl ci) (hn : m.2.2.2 + 1 ≤ ze_n0 E + ze_mc E) (h190 : m.2.2.2 < 190) (k : Wp E Q (pc + 3) lv (.ref m.2.2.2 :: st) (z_new m)) : Wp E Q pc lv st m := by
  intro p l e R s mi args below meth c D ca A b Z hA ad H locs ls h1 h2 h3 h4 h5 h6 h7
  have hx := hA.1
  have hb := hA.2.1
  have hts := hA.2.2.2.2.1
  obtain ⟨f1, f2⟩ := zm_fit1 hA h6 hn
  have hsz : zm_sz m.2.2.2 = zm_N ci := by unfold zm_sz; rw [hs]
  rw [hsz] at f2
  refine va_new (ci := ci) (fs := (List.range (zm_N ci)).map (fun j => defaultValue (zm_T ci j))) hx hb hts (zm_lays hci) (zm_T ci) (zm_tyok hci) hA.2.2.2.1 (hts _ hl) (hts _ hi) (hts _ hini) hA.2.2.2.2.2.2.2.2.1 h2.1 h2.2.1 h3 hA.2.2.2.2.2.2.2.2.2.1 (zm_cl hci) (fun j hj => ?_) f1 f2 hdg (fun q H1 q1 q2 q3 => ?_)
  · unfold vp_V
    rw [List.getD_eq_getElem?_getD, List.getElem?_map, List.getElem?_range hj]
    rfl
  · have := zm_made hA h1 h4 h5 h6 h7 h2.2.2 h190 (q := q) (by
      unfold zm_E
      rw [hs]
      simp only
      congr 2
      apply List.map_congr_left
      intro j hj
      have hok := zm_Tok ci hci j (List.mem_range.mp hj)
      unfold zm_f z_new
      simp only [z_nx_eq]
      cases ht : zm_T ci j <;> rw [ht] at hok <;> first | (cases hok; done) | rfl) q1 q2 q3 k
    rw [hsz] at this
    exact this
theorem zm_ca {s : State} {D : va_G} {ca : FieldType → Nat} {cA : ClassId} {ty : FieldType} (h : va_K D vwCl (zm_t ca ++ [(cA, ty)]) s) (hin : ∃ t0 : Nat, (zm_t ca)[t0]? = some (ca ty, ty)) : cA = ca ty := by
  obtain ⟨t0, h0⟩ := hin
  have g1 := (h.2 t0 (ca ty, ty) (by rw [List.getElem?_append_left (List.getElem?_eq_some_iff.mp h0).1]; exact h0)).2
  have g2 := (h.2 5 (cA, ty) rfl).2
  cases ty with
  | object C =>
    obtain ⟨k1, c1, -, -, -, e1⟩ := g1
    obtain ⟨k2, c2, -, -, -, e2⟩ := g2
    exact Option.some.inj (e2.symm.trans e1)
  | _ => exact Option.some.inj (g2.symm.trans g1)
theorem w_newarr {atype : ArrayType} {ty : FieldType} {n : Int32} {N : Nat} (hdg : decode (ze_cc E) pc = .ok (.newarray atype, 2)) (hty : newarray.typeOf atype = ty) (h3t : ty = .int ∨ ty = .boolean ∨ ty = .long) (harr : Cond.arrayClass ty ∈ zm_g) (hs : zm_sh m.2.2.2 = .inr (ty, N)) (hn0 : ¬ n < 0) (hN : n.toNatClampNeg = N) (hby : N ≤ 512) (hn : m.2.2.2 + 1 ≤ ze_n0 E + ze_mc E) (h190 : m.2.2.2 < 190) (k : Wp E Q (pc + 2) lv (.ref m.2.2.2 :: st) (z_new m)) : Wp E Q pc lv (.int n :: st) m := by
  intro p l e R s mi args below meth c D ca A b Z hA ad H locs ls h1 h2 h3 h4 h5 h6 h7
  have hx := hA.1
  have hb := hA.2.1
  have hts := hA.2.2.2.2.1
  obtain ⟨f1, f2⟩ := zm_fit1 hA h6 hn
  have hsz : zm_sz m.2.2.2 = N := by unfold zm_sz; rw [hs]
  rw [hsz] at f2
  refine va_newa (a0 := zm_a ad (z_new m) m.2.2.2 N ty) hx hb (by rw [hty]; exact hts _ harr) hty hA.2.2.2.2.2.2.2.2.1 h2.1 h2.2.1 h3 hA.2.2.2.2.2.2.2.2.2.1 (fun cA => ?_) hn0 hN ?_ f1 f2 hdg (fun q cA H1 q0 q1 q2 q3 => ?_)
  · rcases h3t with rfl | rfl | rfl <;> simp only [zm_a, z_new] <;> unfold vp_cell <;> simp only [z_nx_eq] <;> rfl
  · rcases h3t with rfl | rfl | rfl <;> simp only [componentBytes] <;> omega
  · have hca : cA = ca ty := zm_ca q0 (by rcases h3t with rfl | rfl | rfl <;> first | exact ⟨0, rfl⟩ | exact ⟨1, rfl⟩ | exact ⟨2, rfl⟩)
    subst hca
    have := zm_made hA h1 h4 (z_ws_tail h5) h6 h7 h2.2.2 h190 (q := q) (by
      unfold zm_E
      rw [hs]
      simp only
      congr 2
      rcases h3t with rfl | rfl | rfl <;> rfl) q1 q2 q3 k
    rw [hsz] at this
    exact this
theorem w_anew {idx : Nat} {n : Int32} {N : Nat} (hdg : decode (ze_cc E) pc = .ok (.anewarray idx, 3)) (hl : Cond.classLink (ze_own E) idx "TornReeds$Bit" ∈ zm_g) (hs : zm_sh m.2.2.2 = .inr (.object "TornReeds$Bit", N)) (hn0 : ¬ n < 0) (hN : n.toNatClampNeg = N) (hby : N ≤ 512) (hn : m.2.2.2 + 1 ≤ ze_n0 E + ze_mc E) (h190 : m.2.2.2 < 190) (k : Wp E Q (pc + 3) lv (.ref m.2.2.2 :: st) (z_new m)) : Wp E Q pc lv (.int n :: st) m := by
  intro p l e R s mi args below meth c D ca A b Z hA ad H locs ls h1 h2 h3 h4 h5 h6 h7
  have hx := hA.1
  have hb := hA.2.1
  have hts := hA.2.2.2.2.1
  obtain ⟨f1, f2⟩ := zm_fit1 hA h6 hn
  have hsz : zm_sz m.2.2.2 = N := by unfold zm_sz; rw [hs]
  rw [hsz] at f2
  refine va_newq hx hb hA.2.2.2.1 (hts _ hl) hA.2.2.2.2.2.2.1 hA.2.2.2.2.2.2.2.2.1 h2.1 h2.2.1 h3 hA.2.2.2.2.2.2.2.2.2.1 hn0 hN (by omega) f1 f2 hdg (fun q cA H1 q0 q1 q2 q3 => ?_)
  have hca : cA = ca (.object "TornReeds$Bit") := zm_ca q0 ⟨3, rfl⟩
  subst hca
  have := zm_made hA h1 h4 (z_ws_tail h5) h6 h7 h2.2.2 h190 (q := q) (by
    unfold zm_E
    rw [hs]
    simp only [zm_a, z_new, z_nx_eq]
    rfl) q1 q2 q3 k
  rw [hsz] at this
  exact this
/-- copying ints from one array to another -/
theorem w_copyi {idx id0 id1 n0 n1 : Nat} {sp dp n : Int32} (hdg : decode (ze_cc E) pc = .ok (.invokestatic idx, 3)) (hl : Cond.methodLink (ze_own E) idx arraycopyName ∈ zm_g) (hnat : Cond.native arraycopyName ∈ zm_g) (hstt : Cond.static arraycopyName ∈ zm_g) (hini : Cond.initialized "java/lang/System" ∈ zm_g) (h0 : id0 < m.2.2.2) (hs0 : zm_sh id0 = .inr (.int, n0)) (h1' : id1 < m.2.2.2) (hs1 : zm_sh id1 = .inr (.int, n1)) (g1 : ¬ sp < 0) (g2 : ¬ dp < 0) (g3 : ¬ n < 0) (g4 : sp.toNatClampNeg + n.toNatClampNeg ≤ n0) (g5 : dp.toNatClampNeg + n.toNatClampNeg ≤ n1) (hh : 2 ≤ ze_h E) (hw : (st.map fun v => v.category).sum ≤ 8)
    (k : Wp E Q (pc + 3) lv st (fun i => if i = id1 then va_cpy (m.1 id0) (m.1 id1) sp.toNatClampNeg dp.toNatClampNeg n.toNatClampNeg else m.1 i, m.2)) : Wp E Q pc lv (.int n :: .int dp :: .ref id1 :: .int sp :: .ref id0 :: st) m := by
  intro p l e R s mi args below meth c D ca A b Z hA ad H locs ls h1 h2 h3 h4 h5 h6 h7
  have hx := hA.1
  have hb := hA.2.1
  have hts := hA.2.2.2.2.1
  obtain ⟨r1, r2, r3, r4⟩ := hA.2.2.2.2.2.2.2.2.2.2.1
  refine va_copyi hx hb (hA.2.2.1.trans h7.1.symm) hA.2.2.2.1 (hts _ hl) (hts _ hnat) (hts _ hstt) (hts _ hini) hA.2.2.2.2.2.2.2.2.1 h2.1 h2.2.1 h3 id0 id1 0 0 (zm_W_arr ad ca m h0 hs0) (zm_W_arr ad ca m h1' hs1) rfl rfl rfl g1 g2 g3 g4 g5 (fun _ _ => rfl) (by omega) ?_ hdg (fun H1 locs1 q1 q2 q3 => ?_)
  · have := zm_stk (ad := ad) hw
    have e1 : nativeFrameWords "java/lang/System" "arraycopy" 5 ≤ 40 := by decide +kernel
    show ((z_s ad st).map fun v => v.category).sum + _ ≤ _
    omega
  · have ee : (zm_W ad ca m).set id1 (ad id1, .inl (ca .int, n1, .inl (va_cpy (m.1 id0) (m.1 id1) sp.toNatClampNeg dp.toNatClampNeg n.toNatClampNeg))) = zm_W ad ca (fun i => if i = id1 then va_cpy (m.1 id0) (m.1 id1) sp.toNatClampNeg dp.toNatClampNeg n.toNatClampNeg else m.1 i, m.2) := by
      rw [← zm_W_set ad ca (m := m) (m' := (fun i => if i = id1 then va_cpy (m.1 id0) (m.1 id1) sp.toNatClampNeg dp.toNatClampNeg n.toNatClampNeg else m.1 i, m.2)) (id := id1) rfl (fun j hj => zm_E_cong (by show (if j = id1 then _ else _) = _; rw [if_neg hj]) rfl rfl)]
      congr 3
      unfold zm_E
      rw [hs1]
      simp only [zm_a]
      rw [if_pos trivial]
    rw [ee] at q1 q2
    exact k p l e R s mi args below meth c D ca A b Z hA ad H1 locs1 ls h1 ⟨q1, q2, h2.2.2⟩ q3 h4 (z_ws_tail (z_ws_tail (z_ws_tail (z_ws_tail (z_ws_tail h5))))) h6 h7
end WM
