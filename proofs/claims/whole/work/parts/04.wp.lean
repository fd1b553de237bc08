/-- the class of arrays of long[] -/
def zm_AL (U : State) : Prop := ∃ (comp c : ClassId) (k : Class), U.vm.findClass "[J" = some comp ∧ (U.vm.classes.findIdx? fun (x : Class) => match x.kind with | .array component _ => component == comp | _ => false) = some c ∧ U.vm.classes[c]? = some k ∧ k.kind = .array comp (.array .long) ∧ U.vm.findClass "[[J" = some c
theorem zm_AL.moved {u U : State} (hvm : u.vm.Alike U.vm) (h : zm_AL u) : zm_AL U := by
  obtain ⟨comp, c, k, h1, h2, h3, h4, h5⟩ := h
  obtain ⟨k', hk', he⟩ := hvm.2.2 _ _ h3
  refine ⟨comp, c, k', by rw [hvm.findClass]; exact h1, ?_, hk', by rw [he]; exact h4, by rw [hvm.findClass]; exact h5⟩
  have e1 := va_idx_bare u.vm comp
  have e2 := va_idx_bare U.vm comp
  have e3 : u.vm.bare = U.vm.bare := by first | exact hvm.bare_eq | exact hvm.bare_eq.symm
  rw [e3] at e1
  exact (e2.symm.trans e1).trans h2
/-! what a method's walk rests on: code, class, locals' count, answer's type, height, first cell, cells made, constructor, script -/
abbrev zE : Type := ByteArray × String × Nat × Option FieldType × Nat × Nat × Nat × Bool × Option (Nat × (Nat → Int32))
def ze_cc (E : zE) : ByteArray := E.1
def ze_own (E : zE) : String := E.2.1
def ze_nL (E : zE) : Nat := E.2.2.1
def ze_ret (E : zE) : Option FieldType := E.2.2.2.1
def ze_h (E : zE) : Nat := E.2.2.2.2.1
def ze_n0 (E : zE) : Nat := E.2.2.2.2.2.1
def ze_mc (E : zE) : Nat := E.2.2.2.2.2.2.1
def ze_ini (E : zE) : Bool := E.2.2.2.2.2.2.2.1
def ze_scr (E : zE) : Option (Nat × (Nat → Int32)) := E.2.2.2.2.2.2.2.2
/-- an answer of the type -/
def z_ok (t : Option FieldType) (r : Option Value) : Prop := match t, r with
  | none, none => True
  | some .int, some (.int _) => True
  | some .boolean, some (.int v) => v = 0 ∨ v = 1
  | some (.object _), some (.ref _) => True
  | some (.object _), some .null => True
  | _, _ => False
def z_ri (r : Option Value) : Instr := match r with
  | none => .return_
  | some (.int _) => .ireturn
  | _ => .areturn
def zm_cs (E : zE) (m : zM) : Nat := m.2.2.2 - ze_n0 E
def zm_sl (E : zE) (m : zM) : Nat := zm_ss m.2.2.2 - zm_ss (ze_n0 E)
def zm_A (E : zE) (Q : Option Value → zM → Prop) (p : Program) (l : Launch) (e : Env) (R : Room) (s : State) (mi : MethodId) (args : Array Value) (below : List Frame) (meth : Method) (c : Code) (D : va_G) (ca : FieldType → Nat) (A : Nat → Prop) (b : Nat → Nat) (Z : State → Prop) : Prop :=
  p.tables.exec = Jvm.exec ∧ c.code = ze_cc E ∧ c.maxLocals = ze_nL E ∧ s.vm.findClass (ze_own E) = some mi.cls ∧ (∀ w ∈ zm_g, w.before args s = true) ∧
  (∀ w ∈ zm_nest, va_Nw w s) ∧ va_AO "TornReeds$Bit" s ∧ zm_AL s ∧
  va_K D vwCl (zm_t ca) s ∧ (∀ q, s.heap.size ≤ q → A q) ∧
  (ze_h E ≤ R.frames ∧ 40 * ze_h E ≤ R.locals ∧ ze_mc E ≤ R.cells ∧ zm_ss (ze_n0 E + ze_mc E) - zm_ss (ze_n0 E) ≤ R.slots) ∧
  (ze_ini E = true → meth.name = "<init>") ∧
  (∀ q, ze_scr E = some q → va_X (b 1000) q.1 q.2 s s.heap ∧ b 1000 < s.heap.size ∧ ¬ A (b 1000)) ∧
  (∀ (r : Option Value) (m : zM) (ad : Nat → Nat) (H : Heap) (locs : List Loc) (pc : Nat) (ls : Array Slot), z_ok (ze_ret E) r → decode (ze_cc E) pc = .ok (z_ri r, 1) → z_eq (ze_n0 E) b ad → zm_R D ca A ad m H → va_S A s.heap H locs → (∀ v, r = some v → z_w m.2.2.2 v) → m.2.2.2 = ze_n0 E + ze_mc E → Q r m →
    W p l e R s mi args below meth c H locs (zm_cs E m) (zm_sl E m) Z (F0 mi pc ls (z_s ad r.toList)))
def Wp (E : zE) (Q : Option Value → zM → Prop) (pc : Nat) (lv : List (Nat × Value)) (st : List Value) (m : zM) : Prop :=
  ∀ (p : Program) (l : Launch) (e : Env) (R : Room) (s : State) (mi : MethodId) (args : Array Value) (below : List Frame) (meth : Method) (c : Code) (D : va_G) (ca : FieldType → Nat) (A : Nat → Prop) (b : Nat → Nat) (Z : State → Prop), zm_A E Q p l e R s mi args below meth c D ca A b Z →
    ∀ (ad : Nat → Nat) (H : Heap) (locs : List Loc) (ls : Array Slot), z_eq (ze_n0 E) b ad → zm_R D ca A ad m H → va_S A s.heap H locs → z_wl m.2.2.2 lv → z_ws m.2.2.2 st → ze_n0 E ≤ m.2.2.2 → lv_has ls (ze_nL E) (z_l ad lv) →
    W p l e R s mi args below meth c H locs (zm_cs E m) (zm_sl E m) Z (F0 mi pc ls (z_s ad st))
section WR
variable {E : zE} {Q : Option Value → zM → Prop} {pc : Nat} {lv : List (Nat × Value)} {st : List Value} {m : zM}
/-- the same answer wanted more weakly -/
theorem wp_mono {Q' : Option Value → zM → Prop} (h : ∀ r m', Q r m' → Q' r m') (k : Wp E Q pc lv st m) : Wp E Q' pc lv st m := by
  intro p l e R s mi args below meth c D ca A b Z hA ad H locs ls h1 h2 h3 h4 h5 h6 h7
  obtain ⟨a1, a2, a3, a4, a5, a6, a7, a8, a9, a10, a11, a12, a13, a14⟩ := hA
  exact k p l e R s mi args below meth c D ca A b Z ⟨a1, a2, a3, a4, a5, a6, a7, a8, a9, a10, a11, a12, a13, fun r m2 ad2 H2 locs2 pc2 ls2 b1 b2 b3 b4 b5 b6 b7 b8 => a14 r m2 ad2 H2 locs2 pc2 ls2 b1 b2 b3 b4 b5 b6 b7 (h _ _ b8)⟩ ad H locs ls h1 h2 h3 h4 h5 h6 h7
/-- fewer locals, in another order -/
theorem w_sub (lv' : List (Nat × Value)) (ks : List Nat) (hl : lv_pick lv ks = lv') (k : Wp E Q pc lv' st m) : Wp E Q pc lv st m := by
  intro p l e R s mi args below meth c D ca A b Z hA ad H locs ls h1 h2 h3 h4 h5 h6 h7
  refine k p l e R s mi args below meth c D ca A b Z hA ad H locs ls h1 h2 h3 ?_ h5 h6 ?_
  · intro q hq
    rw [← hl] at hq
    obtain ⟨i, -, hi⟩ := List.mem_filterMap.mp hq
    exact h4 q (List.mem_of_getElem? hi)
  · refine ⟨h7.1, h7.2.1, fun q hq => ?_⟩
    obtain ⟨q0, hq0, rfl⟩ := List.mem_map.mp hq
    rw [← hl] at hq0
    obtain ⟨i, -, hi⟩ := List.mem_filterMap.mp hq0
    exact h7.2.2 _ (List.mem_map.mpr ⟨q0, List.mem_of_getElem? hi, rfl⟩)
/-- the end -/
theorem w_ret (r : Option Value) (hdg : decode (ze_cc E) pc = .ok (z_ri r, 1)) (hok : z_ok (ze_ret E) r) (hn : m.2.2.2 = ze_n0 E + ze_mc E) (k : Q r m) : Wp E Q pc lv r.toList m := by
  intro p l e R s mi args below meth c D ca A b Z hA ad H locs ls h1 h2 h3 h4 h5 h6 h7
  obtain ⟨a1, a2, a3, a4, a5, a6, a7, a8, a9, a10, a11, a12, a13, a14⟩ := hA
  exact a14 r m ad H locs pc ls hok hdg h1 h2 h3 (fun v hv => h5 v (by rw [hv]; exact List.mem_cons_self)) hn k
end WR
