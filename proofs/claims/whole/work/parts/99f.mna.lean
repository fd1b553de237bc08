/-! an array of arrays of longs -/
theorem zm_al_of {args : Array Value} {s : State} (h : (Cond.arrayOver (.array .long)).before args s = true) : zm_AL s := by
  unfold Cond.before Cond.holds at h
  simp only [Cond.value] at h
  cases hc : s.vm.findClass (FieldType.array .long).toString with
  | none => rw [hc] at h; simp at h
  | some comp =>
    rw [hc] at h
    simp only [Option.bind_some, beq_iff_eq, Option.bind_eq_some_iff, Option.map_eq_some_iff] at h
    obtain ⟨c, h1, k, h2, h3⟩ := h
    have h4 := (Array.findIdx?_eq_some_iff_getElem.mp h1).2.1
    rw [(Array.getElem?_eq_some_iff.mp h2).2] at h4
    cases hk : k.kind with
    | array co ty =>
      rw [hk] at h3 h4
      simp only [Bool.and_eq_true, decide_eq_true_eq, beq_iff_eq] at h3 h4
      exact ⟨comp, c, k, hc, h1, h2, by rw [hk, h4, h3.1], h3.2⟩
    | _ => rw [hk] at h3; cases h3
def gM2 (n : Nat) : Nat → Nat → Option Nat := gA2 n (z_f (z_f (fun _ => none) 0 (n + 1)) 1 (n + 2)) (fun _ _ => none)
def z_mna (m : zM) : zM := mk m (fun _ _ => 0) (gM2 m.2.2.2) 3
def z_ad3 (ad : Nat → Nat) (n q : Nat) : Nat → Nat := fun k => if k = n then q else if k = n + 1 then q + 1 else if k = n + 2 then q + 2 else ad k
theorem cell_ext {a b : Cell} (h1 : a.cls = b.cls) (h2 : a.slots = b.slots) (h3 : a.vm = b.vm) (h4 : a.monitor = b.monitor) (h5 : a.hash = b.hash) : a = b := by
  cases a
  cases b
  simp only at h1 h2 h3 h4 h5
  subst h1 h2 h3 h4 h5
  rfl
theorem zm_W_inv {ad : Nat → Nat} {ca : FieldType → Nat} {m : zM} {i : Nat} {q : Nat × va_E} (h : (zm_W ad ca m)[i]? = some q) : i < m.2.2.2 ∧ q = (ad i, zm_E ad ca m i) := by
  have hi : i < m.2.2.2 := by
    have := (List.getElem?_eq_some_iff.mp h).1
    rwa [zm_W_len] at this
  rw [zm_W_at ad ca m hi] at h
  exact ⟨hi, (Option.some.inj h).symm⟩
/-! the model's own making of new long[2][27], step by step -/
def mnO (c : ClassId) (v w : Value) : Cell := { cls := c, slots := #[v, w], vm := .none }
def mnI (c : ClassId) : Cell := { cls := c, slots := Array.replicate 27 (.long 0), vm := .none }
def mnT (t : State) (c comp : ClassId) : State := ((((t.pushCell (mnO c .null .null)).pushCell (mnI comp)).setCell t.heap.size (mnO c (.ref (t.heap.size + 1)) .null)).pushCell (mnI comp)).setCell t.heap.size (mnO c (.ref (t.heap.size + 1)) (.ref (t.heap.size + 2)))
theorem mnO_1 (c : ClassId) (v w x : Value) : (mnO c v w).setSlot 0 x = mnO c x w := rfl
theorem mnO_2 (c : ClassId) (v w x : Value) : (mnO c v w).setSlot 1 x = mnO c v x := rfl
theorem mnT_size (t : State) (c comp : ClassId) : (mnT t c comp).heap.size = t.heap.size + 3 := by
  unfold mnT
  simp [State.pushCell, State.setCell]
theorem mnT_top (t : State) (c comp : ClassId) : (mnT t c comp).heap[t.heap.size]? = some (mnO c (.ref (t.heap.size + 1)) (.ref (t.heap.size + 2))) := by
  unfold mnT
  simp only [State.pushCell, State.setCell, Array.getElem?_setIfInBounds, Array.size_setIfInBounds, Array.size_push]
  rw [if_pos trivial, if_pos (by omega)]
theorem mnT_old (t : State) (c comp : ClassId) {a : Nat} (h : a < t.heap.size) : (mnT t c comp).heap[a]? = t.heap[a]? := by
  unfold mnT
  simp [State.pushCell, State.setCell, Array.getElem?_setIfInBounds, Array.getElem?_push, Nat.ne_of_gt h, Nat.ne_of_lt h, show ¬ a = t.heap.size + 1 by omega, show ¬ a = t.heap.size + 2 by omega]
theorem mnT_in (t : State) (c comp : ClassId) {j : Nat} (h : j < 2) : (mnT t c comp).heap[t.heap.size + 1 + j]? = some (mnI comp) := by
  unfold mnT
  simp only [State.pushCell, State.setCell, Array.getElem?_setIfInBounds, Array.getElem?_push, Array.size_setIfInBounds, Array.size_push]
  rcases (show j = 0 ∨ j = 1 by omega) with rfl | rfl
  · rw [if_neg (by omega), if_neg (by omega), if_neg (by omega), if_pos (by omega)]
  · rw [if_neg (by omega), if_pos (by omega)]
theorem mnT_setTop (t : State) (f : JFrame) (c comp : ClassId) : mnT (t.setTop f) c comp = (mnT t c comp).setTop f := rfl
theorem mn_c1 (t : State) (c comp : ClassId) : ((t.pushCell (mnO c .null .null)).pushCell (mnI comp)).heap[t.heap.size]? = some (mnO c .null .null) := by
  simp only [State.pushCell, Array.getElem?_push, Array.size_push]
  rw [if_neg (by omega), if_pos trivial]
theorem mn_c2 (t : State) (c comp : ClassId) : ((((t.pushCell (mnO c .null .null)).pushCell (mnI comp)).setCell t.heap.size ((mnO c .null .null).setSlot 0 (.ref (t.heap.size + 1)))).pushCell (mnI comp)).heap[t.heap.size]? = some (mnO c (.ref (t.heap.size + 1)) .null) := by
  simp only [State.pushCell, State.setCell, Array.getElem?_push, Array.size_push, Array.getElem?_setIfInBounds, Array.size_setIfInBounds]
  rw [if_neg (by omega), if_pos trivial, if_pos (by omega)]
  rfl
section MN
variable {EE : CtlPost} {e : Env} {d : Bool} {acts : List Action} {t : State}
theorem mn_in {comp cc : ClassId} {kc : Class} (hkc : t.vm.classes[comp]? = some kc) (hk : kc.kind = .array cc .long) (hl : ¬ 27 > e.platform.arrayLengthLimit) (hh : ¬ 27 * componentBytes .long > e.platform.maxHeapBytes) (h1 : t.heap.size < e.platform.maxCells) (h2 : t.slotsUsed + 27 ≤ e.platform.maxSlots) {Q : Addr → Pre} (hq : ∀ acts', Q t.heap.size d acts' (t.pushCell (mnI comp))) : wp (multianewarray.make comp [iI 27]) Q EE e d acts t := by
  rw [multianewarray.make]
  simp only [wp_bind', W.ite, show ¬ iI 27 < 0 by decide, if_false, wp_pure', W.theClass, hkc, hk, Option.some.injEq, exists_eq_left', show (iI 27).toNatClampNeg = 27 by decide]
  exact W.newArray_of hkc hk hl hh h1 h2 rfl hq
theorem mn_all {c comp cc : ClassId} {k kc : Class} (hk : t.vm.classes[c]? = some k) (hkind : k.kind = .array comp (.array .long)) (hkc : t.vm.classes[comp]? = some kc) (hkindc : kc.kind = .array cc .long) (hl : 27 ≤ e.platform.arrayLengthLimit) (hh : 27 * componentBytes .long ≤ e.platform.maxHeapBytes) (h1 : t.heap.size + 3 ≤ e.platform.maxCells) (h2 : t.slotsUsed + 56 ≤ e.platform.maxSlots) {Q : Addr → Pre} (hq : ∀ d' acts', Q t.heap.size d' acts' (mnT t c comp)) : wp (multianewarray.make c [iI 2, iI 27]) Q EE e d acts t := by
  have hb8 : componentBytes .long = 8 := rfl
  have hb4 : componentBytes (.array .long) = 4 := rfl
  rw [multianewarray.make]
  simp only [wp_bind', W.ite, show ¬ iI 2 < 0 by decide, if_false, wp_pure', W.theClass, hk, hkind, Option.some.injEq, exists_eq_left', show (iI 2).toNatClampNeg = 2 by decide]
  refine W.newArray_of hk hkind (by omega) (by rw [hb4]; omega) (by omega) (by omega) rfl (fun acts1 => ?_)
  simp only [show (iI 2 == 0) = false by decide, Bool.false_eq_true, if_false, wp_bind', wp_pure', Std.Legacy.Range.forIn_eq_forIn_range']
  show wp (forIn [0, 1] PUnit.unit _) _ EE e d acts1 _
  simp only [List.forIn_cons, List.forIn_nil, wp_bind', wp_pure']
  have s1 : (t.pushCell (mnO c .null .null)).heap.size = t.heap.size + 1 := by simp [State.pushCell]
  show wp (multianewarray.make comp [iI 27]) _ EE e d acts1 (t.pushCell (mnO c .null .null))
  refine mn_in (e := e) (t := t.pushCell (mnO c .null .null)) hkc hkindc (by omega) (by rw [hb8]; omega) (by rw [s1]; omega) (by show t.slotsUsed + 2 + 27 ≤ _; omega) (fun acts2 => ?_)
  rw [s1]
  simp only [wp_bind', W.writeLoc, wp_pure']
  refine ⟨mnO c .null .null, mn_c1 t c comp, fun h => (by cases h), (show 0 < 2 by decide), ?_, ?_⟩
  · simp [State.fitsSlot, State.slotType?, mnO, hk, hkind]
    rfl
  · have s2 : (((t.pushCell (mnO c .null .null)).pushCell (mnI comp)).setCell t.heap.size ((mnO c .null .null).setSlot 0 (.ref (t.heap.size + 1)))).heap.size = t.heap.size + 2 := by simp [State.pushCell, State.setCell]
    refine mn_in (e := e) (t := ((t.pushCell (mnO c .null .null)).pushCell (mnI comp)).setCell t.heap.size ((mnO c .null .null).setSlot 0 (.ref (t.heap.size + 1)))) hkc hkindc (by omega) (by rw [hb8]; omega) (by rw [s2]; omega) (by show t.slotsUsed + 2 + (Array.replicate 27 (Value.long 0)).size + 27 ≤ _; rw [Array.size_replicate]; omega) (fun acts3 => ?_)
    rw [s2]
    simp only [wp_bind', W.writeLoc, wp_pure']
    refine ⟨mnO c (.ref (t.heap.size + 1)) .null, mn_c2 t c comp, fun h => (by cases h), (show 1 < 2 by decide), ?_, ?_⟩
    · simp [State.fitsSlot, State.slotType?, mnO, hk, hkind]
      rfl
    · exact hq _ _
end MN
theorem mna_out {cA h n : Nat} {ad : Nat → Nat} : mnO cA (.ref (h + 1)) (.ref (h + 2)) = vp_cell cA (2, .inr (.inr (.inr (.inr (fun k => (gM2 n n k).map (z_ad3 ad n h)))))) := by
  rw [vp_cell_q]
  have e1 : z_ad3 ad n h (n + 1) = h + 1 := by unfold z_ad3; rw [if_neg (by omega), if_pos rfl]
  have e2 : z_ad3 ad n h (n + 2) = h + 2 := by unfold z_ad3; rw [if_neg (by omega), if_neg (by omega), if_pos rfl]
  have g0 : gM2 n n 0 = some (n + 1) := by unfold gM2 gA2 z_f; simp
  have g1 : gM2 n n 1 = some (n + 2) := by unfold gM2 gA2 z_f; simp
  refine cell_ext rfl ?_ rfl rfl rfl
  apply Array.ext_getElem?
  intro j
  by_cases hj : j < 2
  · rw [arrV_read _ _ hj]
    rcases (show j = 0 ∨ j = 1 by omega) with rfl | rfl
    · rw [g0, Option.map_some, e1]
      rfl
    · rw [g1, Option.map_some, e2]
      rfl
  · rw [Array.getElem?_eq_none (show 2 ≤ j by omega), Array.getElem?_eq_none (by rw [arrV_size]; omega)]
theorem w_mna {E : zE} {Q : Option Value → zM → Prop} {pc : Nat} {lv : List (Nat × Value)} {st : List Value} {m : zM} {idx : Nat} (hdg : decode (ze_cc E) pc = .ok (.multianewarray idx 2, 4)) (hl : Cond.classLink (ze_own E) idx "[[J" ∈ zm_g) (harr : Cond.arrayClass .long ∈ zm_g) (hs0 : zm_sh m.2.2.2 = .inr (.array .long, 2)) (hs1 : zm_sh (m.2.2.2 + 1) = .inr (.long, 27)) (hs2 : zm_sh (m.2.2.2 + 2) = .inr (.long, 27)) (hn : m.2.2.2 + 3 ≤ ze_n0 E + ze_mc E) (h190 : m.2.2.2 + 2 < 190) (k : Wp E Q (pc + 4) lv (.ref m.2.2.2 :: st) (z_mna m)) : Wp E Q pc lv (.int (iI 27) :: .int (iI 2) :: st) m := by
  intro p l e R s mi args below meth c D ca A b Z hA ad H locs ls h1 h2 h3 h4 h5 h6 h7
  intro T hT X
  subst hT
  have hx := hA.1
  have hb := hA.2.1
  have hts := hA.2.2.2.2.1
  have hAL : zm_AL s := hA.2.2.2.2.2.2.2.1
  have hK := hA.2.2.2.2.2.2.2.2.1
  have hAq := hA.2.2.2.2.2.2.2.2.2.1
  obtain ⟨r1, r2, r3, r4⟩ := hA.2.2.2.2.2.2.2.2.2.2.1
  have z0 : zm_sz m.2.2.2 = 2 := by unfold zm_sz; rw [hs0]
  have z1 : zm_sz (m.2.2.2 + 1) = 27 := by unfold zm_sz; rw [hs1]
  have z2 : zm_sz (m.2.2.2 + 2) = 27 := by unfold zm_sz; rw [hs2]
  have zz : zm_ss (m.2.2.2 + 3) = zm_ss m.2.2.2 + 56 := by
    show zm_ss m.2.2.2 + zm_sz m.2.2.2 + zm_sz (m.2.2.2 + 1) + zm_sz (m.2.2.2 + 2) = _
    rw [z0, z1, z2]
  have g1 := zm_ss_le h6
  have g3 := zm_ss_le hn
  obtain ⟨comp, cA, kA, w1, w2, w3, w4, w5⟩ := hAL
  obtain ⟨comp', kC, cc, v1, v2, v3⟩ := Cond.arrayClass_spec (hts _ harr)
  have ecomp : comp' = comp := Option.some.inj (v1.symm.trans w1)
  subst ecomp
  have hpl : e.platform.magicAccessors = ({} : Platform).magicAccessors := by rw [X.admits.platform]
  obtain ⟨c0, x1, x2⟩ := Cond.classLink_spec hA.2.2.2.1 (hts _ hl) e.platform hpl
  cases w5.symm.trans x1
  obtain ⟨y1, y2, y3⟩ := State.classEntry (e := e) X.warmed x2
  generalize T.vm.noted mi.cls idx (.cls cA) = vm₁ at y1 y2 y3
  obtain ⟨kA₁, u1, u2⟩ := y2.alike.2.2 _ _ w3
  obtain ⟨kC₁, u3, u4⟩ := y2.alike.2.2 _ _ v2
  have hcA : cA = ca (.array .long) := Option.some.inj (w5.symm.trans (hK.2 4 _ rfl).2)
  have hcc : comp' = ca .long := Option.some.inj (w1.symm.trans (hK.2 2 _ rfl).2)
  obtain ⟨hr1, hr2⟩ := X.roomAbove (a := 3) (b := 56) (show m.2.2.2 - ze_n0 E + 3 ≤ R.cells by omega) (show zm_ss m.2.2.2 - zm_ss (ze_n0 E) + 56 ≤ R.slots by omega)
  have X1 : Stand p l e R s mi args below meth c (mnT (T.setVm vm₁) cA comp') locs (zm_cs E m + 1 + 2) (zm_sl E m + 2 + 2 * 27) := by
    have Xb := ((X.noted y2).pushed (mnO cA .null .null)).pushed (mnI comp')
    have Xc := Xb.stored (a := T.heap.size) (cell := mnO cA .null .null) (mn_c1 (T.setVm vm₁) cA comp') 0 (.ref (T.heap.size + 1))
    have Xe := (Xc.pushed (mnI comp')).stored (a := T.heap.size) (cell := mnO cA (.ref (T.heap.size + 1)) .null) (mn_c2 (T.setVm vm₁) cA comp') 1 (.ref (T.heap.size + 2))
    have Xf := Stand.forget (Stand.forget Xe (fun y hy => by rw [List.mem_singleton.mp hy]; exact h3.1)) (fun y hy => by rw [List.mem_singleton.mp hy]; exact h3.1)
    have eI : (mnI comp').slots.size = 27 := Array.size_replicate
    rw [eI] at Xf
    exact Xf
  have step : ∀ target, Steps p.tables e below ((mnT (T.setVm vm₁) cA comp').setTop (F0 mi (pc + 4) ls (.ref T.heap.size :: z_s ad st))) target → Steps p.tables e below (T.setTop (F0 mi pc ls (z_s ad (.int (iI 27) :: .int (iI 2) :: st)))) target := by
    intro target hrest
    have hlim : 27 ≤ e.platform.arrayLengthLimit := by rw [Launch.admits_arrayLengthLimit X.admits]; omega
    have hhp : 27 * componentBytes .long ≤ e.platform.maxHeapBytes := by rw [Launch.admits_maxHeapBytes X.admits]; show 27 * 8 ≤ 536870912; omega
    jvm_step X.here [hx, hb, hdg]
    simp only [multianewarray.sem, wp_bind', W.resolveClassAt_links (State.method?_setTop (F0 mi pc ls (z_s ad (.int (iI 27) :: .int (iI 2) :: st))) X.here.top) y1]
    rw [W.popN, if_neg (by decide)]
    refine ⟨F0 mi pc ls (z_s ad (.int (iI 27) :: .int (iI 2) :: st)), State.topJava?_setTop' (s := T.setVm vm₁) _ X.here.top, [.int (iI 2), .int (iI 27)], z_s ad st, rfl, rfl, ?_⟩
    simp only [List.mapM_cons, List.mapM_nil, wp_bind', wp_pure']
    refine mn_all (t := ((T.setTop (F0 mi pc ls (z_s ad (.int (iI 27) :: .int (iI 2) :: st)))).setVm vm₁).setTop (F0 mi pc ls (z_s ad st))) (k := kA₁) (kc := kC₁) (comp := comp') (cc := cc) u1 (by rw [u2]; exact w4) u3 (by rw [u4]; exact v3) hlim hhp (show T.heap.size + 3 ≤ _ by omega) (show T.slotsUsed + 56 ≤ _ by omega) (fun d' acts' => ?_)
    have eS : ((T.setTop (F0 mi pc ls (z_s ad (.int (iI 27) :: .int (iI 2) :: st)))).setVm vm₁).setTop (F0 mi pc ls (z_s ad st)) = (T.setVm vm₁).setTop (F0 mi pc ls (z_s ad st)) := by
      show ((T.setVm vm₁).setTop _).setTop _ = _
      rw [State.setTop_setTop]
    rw [eS, mnT_setTop]
    simp only [wp_bind', W.mark, W.pushRef, State.topJava?_setTop' _ X1.here.top, Option.some.injEq, exists_eq_left', State.setTop_setTop, State.heap_setTop]
    intro acts
    simp [jvm, X1.here.top]
    exact hrest
  have f1' : (mnT (T.setVm vm₁) cA comp').heap.size = T.heap.size + 1 + 2 := mnT_size (T.setVm vm₁) cA comp'
  have f2' : (mnT (T.setVm vm₁) cA comp').heap[T.heap.size]? = some (mnO cA (.ref (T.heap.size + 1)) (.ref (T.heap.size + 2))) := mnT_top (T.setVm vm₁) cA comp'
  have f5 : ∀ j, j < 2 → (mnT (T.setVm vm₁) cA comp').heap[T.heap.size + 1 + j]? = some (mnI comp') := fun j hj => mnT_in (T.setVm vm₁) cA comp' hj
  have f6 : ∀ a, a < T.heap.size → (mnT (T.setVm vm₁) cA comp').heap[a]? = T.heap[a]? := fun a ha => mnT_old (T.setVm vm₁) cA comp' ha
  generalize hTf : mnT (T.setVm vm₁) cA comp' = Tf at X1 step f1' f2' f5 f6
  have aO : ∀ i, i < m.2.2.2 → z_ad3 ad m.2.2.2 T.heap.size i = ad i := fun i hi => by
    unfold z_ad3
    rw [if_neg (by omega), if_neg (by omega), if_neg (by omega)]
  have a0 : z_ad3 ad m.2.2.2 T.heap.size m.2.2.2 = T.heap.size := if_pos rfl
  have a1 : z_ad3 ad m.2.2.2 T.heap.size (m.2.2.2 + 1) = T.heap.size + 1 := by unfold z_ad3; rw [if_neg (by omega), if_pos rfl]
  have a2 : z_ad3 ad m.2.2.2 T.heap.size (m.2.2.2 + 2) = T.heap.size + 2 := by unfold z_ad3; rw [if_neg (by omega), if_neg (by omega), if_pos rfl]
  have hold : ∀ i, i < m.2.2.2 → zm_E (z_ad3 ad m.2.2.2 T.heap.size) ca (z_mna m) i = zm_E ad ca m i := fun i hi => by
    rw [zm_E_cong (m := m) (m' := z_mna m) (funext fun q => if_neg (by omega)) (funext fun q => if_neg (by omega)) (funext fun q => if_neg (by omega)), zm_E_ad (ad := ad)]
    intro q j hj
    exact aO j (h2.2.2.1 _ _ _ hj)
  have hin : ∀ i, m.2.2.2 ≤ i ∧ i < m.2.2.2 + 3 → (z_mna m).2.1 i = fun _ => 0 := fun i hi => funext fun q => if_pos hi
  have hlt : ∀ i, i < m.2.2.2 → ad i < T.heap.size := fun i hi => (h2.1 i _ (zm_W_at ad ca m hi)).lt
  have hinj : ∀ i j, i < m.2.2.2 → j < m.2.2.2 → ad i = ad j → i = j := fun i j hi hj he => h2.2.1.1 i j _ _ (zm_W_at ad ca m hi) (zm_W_at ad ca m hj) he
  have hz3 : z_eq m.2.2.2 ad (z_ad3 ad m.2.2.2 T.heap.size) := fun i hi => by
    rcases hi with hi | hi
    · exact aO i hi
    · unfold z_ad3
      rw [if_neg (by omega), if_neg (by omega), if_neg (by omega)]
  have hP : va_P D vwCl (zm_W (z_ad3 ad m.2.2.2 T.heap.size) ca (z_mna m)) Tf.heap := by
    intro i q hq
    obtain ⟨hi, rfl⟩ := zm_W_inv hq
    have hi3 : i < m.2.2.2 + 3 := hi
    by_cases c0 : i < m.2.2.2
    · rw [hold i c0, aO i c0]
      exact (h2.1 i _ (zm_W_at ad ca m c0)).kept (f6 _ (hlt i c0))
    · rcases (show i = m.2.2.2 ∨ i = m.2.2.2 + 1 ∨ i = m.2.2.2 + 2 by omega) with rfl | rfl | rfl
      · rw [a0]
        unfold zm_E
        rw [hs0]
        show Tf.heap[T.heap.size]? = some (vp_cell (ca (.array .long)) (zm_a (z_ad3 ad m.2.2.2 T.heap.size) (z_mna m) m.2.2.2 2 (.array .long)))
        rw [f2', hcA, mna_out (n := m.2.2.2) (ad := ad)]
        congr 1
        show vp_cell _ (2, _) = vp_cell _ (2, .inr (.inr (.inr (.inr (fun k => ((z_mna m).2.2.1 m.2.2.2 k).map (z_ad3 ad m.2.2.2 T.heap.size))))))
        have er : (z_mna m).2.2.1 m.2.2.2 = gM2 m.2.2.2 m.2.2.2 := funext fun q => if_pos (by omega)
        rw [er]
      · rw [a1]
        unfold zm_E
        rw [hs1]
        show Tf.heap[T.heap.size + 1]? = some (vp_cell (ca .long) (27, .inr (.inl ((z_mna m).2.1 (m.2.2.2 + 1)))))
        rw [hin _ (by omega), vp_cell_l, ← arrV_new, ← hcc]
        exact f5 0 (by decide)
      · rw [a2]
        unfold zm_E
        rw [hs2]
        show Tf.heap[T.heap.size + 2]? = some (vp_cell (ca .long) (27, .inr (.inl ((z_mna m).2.1 (m.2.2.2 + 2)))))
        rw [hin _ (by omega), vp_cell_l, ← arrV_new, ← hcc]
        exact f5 1 (by decide)
  have hA3 : ∀ i, i < m.2.2.2 + 3 → A (z_ad3 ad m.2.2.2 T.heap.size i) := fun i hi => by
    by_cases c0 : i < m.2.2.2
    · rw [aO i c0]
      exact h2.2.1.2 i _ (zm_W_at ad ca m c0)
    · have hs := h3.1
      rcases (show i = m.2.2.2 ∨ i = m.2.2.2 + 1 ∨ i = m.2.2.2 + 2 by omega) with rfl | rfl | rfl
      · rw [a0]; exact hAq _ (by omega)
      · rw [a1]; exact hAq _ (by omega)
      · rw [a2]; exact hAq _ (by omega)
  have hval : ∀ i, i < m.2.2.2 + 3 → (i < m.2.2.2 ∧ z_ad3 ad m.2.2.2 T.heap.size i = ad i ∧ ad i < T.heap.size) ∨ (m.2.2.2 ≤ i ∧ z_ad3 ad m.2.2.2 T.heap.size i = T.heap.size + (i - m.2.2.2)) := fun i hi => by
    by_cases c0 : i < m.2.2.2
    · exact Or.inl ⟨c0, aO i c0, hlt i c0⟩
    · refine Or.inr ⟨by omega, ?_⟩
      rcases (show i = m.2.2.2 ∨ i = m.2.2.2 + 1 ∨ i = m.2.2.2 + 2 by omega) with rfl | rfl | rfl
      · rw [a0]; omega
      · rw [a1]; omega
      · rw [a2]; omega
  have hDD : va_D A (zm_W (z_ad3 ad m.2.2.2 T.heap.size) ca (z_mna m)) := by
    refine ⟨fun i j p q hp hq he => ?_, fun i q hq => ?_⟩
    · obtain ⟨hi, rfl⟩ := zm_W_inv hp
      obtain ⟨hj, rfl⟩ := zm_W_inv hq
      have he2 : z_ad3 ad m.2.2.2 T.heap.size i = z_ad3 ad m.2.2.2 T.heap.size j := he
      rcases hval i hi with ⟨u1, u2, u3⟩ | ⟨u1, u2⟩ <;> rcases hval j hj with ⟨v1, v2, v3⟩ | ⟨v1, v2⟩
      · exact hinj i j u1 v1 (by omega)
      · omega
      · omega
      · omega
    · obtain ⟨hi, rfl⟩ := zm_W_inv hq
      exact hA3 i hi
  have hwf : zm_wf (z_mna m) := by
    refine ⟨fun i q j he => ?_, by show m.2.2.2 + 3 ≤ 190; omega⟩
    show j < m.2.2.2 + 3
    have he2 : (if m.2.2.2 ≤ i ∧ i < m.2.2.2 + 3 then gM2 m.2.2.2 i q else m.2.2.1 i q) = some j := he
    by_cases c0 : m.2.2.2 ≤ i ∧ i < m.2.2.2 + 3
    · rw [if_pos c0] at he2
      unfold gM2 gA2 z_f at he2
      by_cases c1 : i = m.2.2.2
      · rw [if_pos c1] at he2
        by_cases c2 : q = 1
        · rw [if_pos c2] at he2
          have := Option.some.inj he2
          omega
        · rw [if_neg c2] at he2
          by_cases c3 : q = 0
          · rw [if_pos c3] at he2
            have := Option.some.inj he2
            omega
          · rw [if_neg c3] at he2
            cases he2
      · rw [if_neg c1] at he2
        cases he2
    · rw [if_neg c0] at he2
      have := h2.2.2.1 _ _ _ he2
      omega
  have k2 := k p l e R s mi args below meth c D ca A b Z hA (z_ad3 ad m.2.2.2 T.heap.size) Tf.heap locs ls (fun j hj => (hz3 j (hj.imp (fun g => Nat.lt_of_lt_of_le g h6) id)).trans (h1 j hj)) ⟨hP, hDD, hwf⟩ ⟨Nat.le_trans h3.1 (by omega), fun q u1 u2 => (f6 q (Nat.lt_of_lt_of_le u1 h3.1)).trans (h3.2.1 q u1 u2), h3.2.2⟩ (fun x hx => z_w_mono (Nat.le_add_right _ 3) (h4 x hx)) (z_ws_cons (Or.inl (show m.2.2.2 < m.2.2.2 + 3 by omega)) (fun x hx => z_w_mono (Nat.le_add_right _ 3) (z_ws_tail (z_ws_tail h5) x hx))) (Nat.le_trans h6 (Nat.le_add_right _ 3)) (by rw [z_l_eq hz3 h4]; exact h7)
  have c1 : zm_cs E (z_mna m) = zm_cs E m + 1 + 2 := by show m.2.2.2 + 3 - ze_n0 E = m.2.2.2 - ze_n0 E + 1 + 2; omega
  have c2 : zm_sl E (z_mna m) = zm_sl E m + 2 + 2 * 27 := by
    show zm_ss (m.2.2.2 + 3) - zm_ss (ze_n0 E) = zm_ss m.2.2.2 - zm_ss (ze_n0 E) + 2 + 2 * 27
    omega
  have c3 : z_s (z_ad3 ad m.2.2.2 T.heap.size) (.ref m.2.2.2 :: st) = .ref T.heap.size :: z_s ad st := by
    show .ref (z_ad3 ad m.2.2.2 T.heap.size m.2.2.2) :: z_s (z_ad3 ad m.2.2.2 T.heap.size) st = _
    rw [z_s_eq hz3 (z_ws_tail (z_ws_tail h5)), a0]
  rw [c1, c2, c3] at k2
  obtain ⟨t, q1, q2⟩ := k2 Tf rfl X1
  exact ⟨t, step t q1, q2⟩
theorem c_mna {E : zE} {Q : Option Value → zM → Prop} {pc : Nat} {lv : List (Nat × Value)} {st : List Value} {m : zM} {F : Nat → Nat → Int32} {G : Nat → Nat → Option Nat} {d idx : Nat} (id : Nat) (hid : m.2.2.2 + d = id) (hdg : decode (ze_cc E) pc = .ok (.multianewarray idx 2, 4)) (hl : Cond.classLink (ze_own E) idx "[[J" ∈ zm_g) (harr : Cond.arrayClass .long ∈ zm_g) (hs0 : zm_sh id = .inr (.array .long, 2)) (hs1 : zm_sh (id + 1) = .inr (.long, 27)) (hs2 : zm_sh (id + 2) = .inr (.long, 27)) (hn : id + 1 + 2 ≤ ze_n0 E + ze_mc E) (h190 : id + 2 < 190) (hF : ∀ k, F id k = 0 ∧ F (id + 1) k = 0 ∧ F (id + 2) k = 0) (hG : ∀ k, G id k = z_f (z_f (fun _ => none) 0 (id + 1)) 1 (id + 2) k) (hG2 : ∀ k, G (id + 1) k = none ∧ G (id + 2) k = none) (k : Wp E Q (pc + 4) lv (.ref id :: st) (mk m F G (d + 3))) : Wp E Q pc lv (.int (iI 27) :: .int (iI 2) :: st) (mk m F G d) := by
  have e : z_mna (mk m F G d) = mk m F G (d + 3) := by
    unfold z_mna
    rw [show (mk m F G d).2.2.2 = id from hid]
    refine mk_mk (fun i g1 g2 q => ?_)
    unfold gM2 gA2
    rcases (show i = id ∨ i = id + 1 ∨ i = id + 2 by omega) with e | e | e
    · rw [e, if_pos rfl]
      exact ⟨(hF q).1, hG q⟩
    · rw [e, if_neg (by omega)]
      exact ⟨(hF q).2.1, (hG2 q).1⟩
    · rw [e, if_neg (by omega)]
      exact ⟨(hF q).2.2, (hG2 q).2⟩
  refine w_mna hdg hl harr (show zm_sh (m.2.2.2 + d) = _ by rw [hid]; exact hs0) (show zm_sh (m.2.2.2 + d + 1) = _ by rw [hid]; exact hs1) (show zm_sh (m.2.2.2 + d + 2) = _ by rw [hid]; exact hs2) (show m.2.2.2 + d + 3 ≤ _ by rw [hid]; omega) (show m.2.2.2 + d + 2 < 190 by rw [hid]; exact h190) ?_
  rw [e, show (mk m F G d).2.2.2 = id from hid]
  exact k
theorem n10_mna : Cond.classLink RX10 11 "[[J" ∈ zm_g := zm_in (by decide +kernel) (by decide +kernel)
theorem rmna {k : Nat} : R0 135 k = z_f (z_f (fun _ => none) 0 (135 + 1)) 1 (135 + 2) k := match k with
  | 0 => rfl
  | 1 => rfl
  | q + 2 => rfl
