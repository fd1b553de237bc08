/-! a callee: code, locals' count, answer's type, height, cells made -/
abbrev zK : Type := ByteArray × Nat × Option FieldType × Nat × Nat
def zk_h (K : zK) : Nat := K.2.2.2.1
def zk_mc (K : zK) : Nat := K.2.2.2.2
def zk_ms (K : zK) (n : Nat) : Nat := zm_ss (n + zk_mc K) - zm_ss n
def zk_rm (K : zK) (n : Nat) : Room := { frames := zk_h K, cells := zk_mc K, slots := zk_ms K n, locals := 40 * zk_h K }
def zk_ws (y : MethodName) (K : zK) : List Cond := Cond.code y K.1 K.2.1 K.2.2.1 :: zm_g
def zm_U (D : va_G) (ca : FieldType → Nat) (A : Nat → Prop) (ad : Nat → Nat) (m : zM) (U : State) : Prop := zm_R D ca A ad m U.heap ∧ va_K D vwCl (zm_t ca) U ∧ (∀ w ∈ zm_nest, va_Nw w U) ∧ va_AO "TornReeds$Bit" U ∧ zm_AL U
def zm_Qc (D : va_G) (ca : FieldType → Nat) (A : Nat → Prop) (ad : Nat → Nat) (n mc : Nat) (F : Option Value → zM → Prop) : Array Value → State → Outcome → State → Prop := fun _ st oc t =>
  (∃ (r : Option Value) (m' : zM) (ad' : Nat → Nat), oc = .returned (r.map (z_c ad')) ∧ F r m' ∧ z_eq n ad ad' ∧ m'.2.2.2 = n + mc ∧ (∀ v, r = some v → z_w m'.2.2.2 v) ∧ zm_R D ca A ad' m' t.heap) ∧ va_F A st t
/-- CALLING y with these arguments in this memory comes back with what F says -/
def Cl (y : MethodName) (K : zK) (as : List Value) (m : zM) (F : Option Value → zM → Prop) : Prop :=
  ∀ (l : Launch) (D : va_G) (ca : FieldType → Nat) (A : Nat → Prop) (ad : Nat → Nat) (sz : Nat), (∀ q, sz ≤ q → A q) → z_ws m.2.2.2 as →
    Met l y (zk_ws y K) (zk_rm K m.2.2.2) (va_Pc (z_s ad as) (fun U => U.heap.size = sz ∧ zm_U D ca A ad m U)) (zm_Qc D ca A ad m.2.2.2 (zk_mc K) F) (zk_mc K) (zk_ms K m.2.2.2) A
theorem zm_good (y : MethodName) (K : zK) (hc : Cond.code y K.1 K.2.1 K.2.2.1 ∈ zm_g) : GoodIn zm_g (zk_ws y K) := by
  intro w hw
  rcases List.mem_cons.mp hw with rfl | hw
  · exact ⟨hc, good_of_word (List.mem_filter.mp hc).2⟩
  · exact ⟨hw, good_of_word (List.mem_filter.mp hw).2⟩
theorem zm_nest_nest : ∀ w ∈ zm_nest, ∃ a i x h, w = .methodLinkNest a i x h := by
  intro w hw
  simp only [zm_nest, List.mem_cons, List.not_mem_nil, or_false] at hw
  rcases hw with rfl | rfl | rfl | rfl | rfl | rfl | rfl | rfl | rfl | rfl | rfl <;> exact ⟨_, _, _, _, rfl⟩
theorem zm_U_blind (D : va_G) (ca : FieldType → Nat) (A : Nat → Prop) (ad : Nat → Nat) (m : zM) (sz : Nat) (av : List Value) : FrameBlind (va_Pc av (fun U => U.heap.size = sz ∧ zm_U D ca A ad m U)) := by
  intro a U g mk q
  obtain ⟨q0, q1, qR, qK, qN, qA, qL⟩ := q
  refine ⟨q0, q1, qR, va_K.moved (u := U) (U := U.calling g mk a) (Vm.Alike.refl U.vm) qK, fun w hw => ?_, va_AO.moved (u := U) (U := U.calling g mk a) (Vm.Alike.refl U.vm) qA, zm_AL.moved (u := U) (U := U.calling g mk a) (Vm.Alike.refl U.vm) qL⟩
  obtain ⟨a1, i1, x1, b1, rfl⟩ := zm_nest_nest w hw
  exact va_Nw.same rfl (rfl : U.vm = (U.calling g mk a).vm) (qN _ hw)
section WC
variable {E : zE} {Q : Option Value → zM → Prop} {pc : Nat} {lv : List (Nat × Value)} {st : List Value} {m : zM}
theorem zm_U_at {p : Program} {l : Launch} {e : Env} {R : Room} {s : State} {mi : MethodId} {args : Array Value} {below : List Frame} {meth : Method} {c : Code} {D : va_G} {ca : FieldType → Nat} {A : Nat → Prop} {b : Nat → Nat} {Z : State → Prop} {ad : Nat → Nat} {H : Heap} (hA : zm_A E Q p l e R s mi args below meth c D ca A b Z) (h2 : zm_R D ca A ad m H) {U : State} (hU : U.heap = H) (hW : s.WarmedH U.vm) : zm_U D ca A ad m U := by
  obtain ⟨a1, a2, a3, a4, a5, a6, a7, a8, a9, a10, a11, a12, a13, a14⟩ := hA
  refine ⟨by rw [hU]; exact h2, va_K.moved hW.alike a9, fun w hw => ?_, va_AO.moved hW.alike a7, zm_AL.moved hW.alike a8⟩
  have h := a6 w hw
  obtain ⟨a1, i1, x1, b1, rfl⟩ := zm_nest_nest w hw
  exact va_Nw.warmM hW h
theorem zm_after {p : Program} {l : Launch} {e : Env} {R : Room} {s : State} {mi : MethodId} {args : Array Value} {below : List Frame} {meth : Method} {c : Code} {D : va_G} {ca : FieldType → Nat} {A : Nat → Prop} {b : Nat → Nat} {Z : State → Prop} {ad : Nat → Nat} {H : Heap} {locs : List Loc} {ls : Array Slot} {st0 : List Value} {K : zK} {av : Array Value} {F : Option Value → zM → Prop}
    (hA : zm_A E Q p l e R s mi args below meth c D ca A b Z) (h1 : z_eq (ze_n0 E) b ad) (h2 : zm_R D ca A ad m H) (h3 : va_S A s.heap H locs) (h4 : z_wl m.2.2.2 lv) (h5 : z_ws m.2.2.2 st) (h6 : ze_n0 E ≤ m.2.2.2) (h7 : lv_has ls (ze_nL E) (z_l ad lv))
    (hr : va_Run p l e R s mi args below meth c H locs (zm_cs E m) (zm_sl E m) (zk_mc K) (zk_ms K m.2.2.2) (F0 mi pc ls st0) (z_s ad st) (zm_Qc D ca A ad m.2.2.2 (zk_mc K) F av) A)
    (k : ∀ r m', F r m' → Wp E Q (pc + 3) lv (r.toList ++ st) m') : W p l e R s mi args below meth c H locs (zm_cs E m) (zm_sl E m) Z (F0 mi pc ls st0) := by
  intro T hT X
  obtain ⟨v, st₀, t, T', L, h0, X', hL, e1, e2, ⟨⟨r, m', ad', hv, hF, heq, hn', hw, hR'⟩, hz, hk⟩, stp⟩ := hr T hT X
  have hvr : v = r.map (z_c ad') := by injection hv
  subst hvr
  rw [h0] at hz hk
  have hmn : m.2.2.2 ≤ m'.2.2.2 := by omega
  have hS : va_S A s.heap T'.heap (locs ++ L) := ⟨Nat.le_trans h3.1 (by rw [e1]; exact hz), fun q g1 g2 => by rw [e1, hk q (Nat.lt_of_lt_of_le g1 h3.1) g2]; exact h3.2.1 q g1 g2, fun q hq => by
      rcases List.mem_append.mp hq with g | g
      · exact h3.2.2 q g
      · exact hL q g⟩
  have hcs : zm_cs E m' = zm_cs E m + zk_mc K := by unfold zm_cs; omega
  have hsl : zm_sl E m' = zm_sl E m + zk_ms K m.2.2.2 := by
    unfold zm_sl zk_ms
    rw [hn']
    have g1 := zm_ss_le h6
    have g2 := zm_ss_mono m.2.2.2 (zk_mc K)
    omega
  have hst : z_s ad' (r.toList ++ st) = (r.map (z_c ad')).toList ++ z_s ad st := by
    unfold z_s
    rw [List.map_append]
    congr 1
    · cases r <;> rfl
    · exact z_s_eq heq h5
  obtain ⟨t2, a1, b1⟩ := k r m' hF p l e R s mi args below meth c D ca A b Z hA ad' T'.heap (locs ++ L) ls (fun q hq => (heq q (hq.imp (fun g => Nat.lt_of_lt_of_le g h6) id)).trans (h1 q hq)) (by rw [e1]; exact hR') hS (fun q hq => z_w_mono hmn (h4 q hq))
    (fun x hx => by
      rcases List.mem_append.mp hx with g | g
      · exact hw x (by cases r with
          | none => cases g
          | some y => rw [List.mem_singleton.mp g])
      · exact z_w_mono hmn (h5 x g)) (Nat.le_trans h6 hmn) (by rw [z_l_eq heq h4]; exact h7) T' rfl (by rw [hcs, hsl]; exact X')
  refine ⟨t2, stp t2 ?_, b1⟩
  rw [hst] at a1
  exact a1
/-- what is known of a method of objects -/
def zm_yv (y : MethodName) (K : zK) (np : Nat) : Prop := (y.cls ≠ "java/lang/invoke/MethodHandle" ∧ y.cls ≠ "java/lang/invoke/VarHandle" ∧ (parseMethodDescriptor y.desc).map (fun d => d.parameters.length) = some np) ∧ Cond.initialized y.cls ∈ zm_g ∧ Cond.code y K.1 K.2.1 K.2.2.1 ∈ zm_g ∧ K.2.1 ≤ 21 ∧ Cond.instanceMethod y ∈ zm_g ∧ Cond.selects y.cls y y ∈ zm_g
def zm_ys (y : MethodName) (K : zK) (np : Nat) : Prop := (y.cls ≠ "java/lang/invoke/MethodHandle" ∧ y.cls ≠ "java/lang/invoke/VarHandle" ∧ (parseMethodDescriptor y.desc).map (fun d => d.parameters.length) = some np) ∧ Cond.initialized y.cls ∈ zm_g ∧ Cond.code y K.1 K.2.1 K.2.2.1 ∈ zm_g ∧ K.2.1 ≤ 21 ∧ Cond.static y ∈ zm_g
def zm_yi (y : MethodName) (K : zK) (np : Nat) : Prop := (y.cls ≠ "java/lang/invoke/MethodHandle" ∧ y.cls ≠ "java/lang/invoke/VarHandle" ∧ (parseMethodDescriptor y.desc).map (fun d => d.parameters.length) = some np) ∧ Cond.initialized y.cls ∈ zm_g ∧ Cond.code y K.1 K.2.1 K.2.2.1 ∈ zm_g ∧ K.2.1 ≤ 21 ∧ Cond.instanceMethod y ∈ zm_g ∧ y.name = "<init>" ∧ K.2.2.1 = none
theorem zm_room {p : Program} {l : Launch} {e : Env} {R : Room} {s : State} {mi : MethodId} {args : Array Value} {below : List Frame} {meth : Method} {c : Code} {D : va_G} {ca : FieldType → Nat} {A : Nat → Prop} {b : Nat → Nat} {Z : State → Prop} (hA : zm_A E Q p l e R s mi args below meth c D ca A b Z) {K : zK} (hh : zk_h K + 1 ≤ ze_h E) (hL : K.2.1 ≤ 21) : (zk_rm K m.2.2.2).frames + 1 ≤ R.frames ∧ 8 + (K.2.1 + 11) + (zk_rm K m.2.2.2).locals ≤ R.locals := by
  obtain ⟨a1, a2, a3, a4, a5, a6, a7, a8, a9, a10, ⟨r1, r2, r3, r4⟩, a12⟩ := hA
  refine ⟨Nat.le_trans hh r1, ?_⟩
  show 8 + (K.2.1 + 11) + 40 * zk_h K ≤ R.locals
  omega
theorem zm_fit {p : Program} {l : Launch} {e : Env} {R : Room} {s : State} {mi : MethodId} {args : Array Value} {below : List Frame} {meth : Method} {c : Code} {D : va_G} {ca : FieldType → Nat} {A : Nat → Prop} {b : Nat → Nat} {Z : State → Prop} (hA : zm_A E Q p l e R s mi args below meth c D ca A b Z) {K : zK} (h6 : ze_n0 E ≤ m.2.2.2) (hn : m.2.2.2 + zk_mc K ≤ ze_n0 E + ze_mc E) : zm_cs E m + zk_mc K ≤ R.cells ∧ zm_sl E m + zk_ms K m.2.2.2 ≤ R.slots := by
  obtain ⟨a1, a2, a3, a4, a5, a6, a7, a8, a9, a10, ⟨r1, r2, r3, r4⟩, a12⟩ := hA
  unfold zm_cs zm_sl zk_ms
  have g1 := zm_ss_le h6
  have g2 := zm_ss_mono m.2.2.2 (zk_mc K)
  have g3 := zm_ss_le hn
  omega
theorem zm_stk {ad : Nat → Nat} {rest : List Value} (hw : (rest.map fun v => v.category).sum ≤ 8) : ((z_s ad rest).map fun v => v.category).sum ≤ 8 := by
  unfold z_s
  rw [List.map_map]
  have : ((fun v : Value => v.category) ∘ z_c ad) = fun v => v.category := funext fun v => z_cat ad v
  rw [this]
  exact hw
theorem w_callV {idx id ci np : Nat} {y : MethodName} {K : zK} {as st0 : List Value} (hdg : decode (ze_cc E) pc = .ok (.invokevirtual idx, 3)) (hl : Cond.methodLink (ze_own E) idx y ∈ zm_g) (hy : zm_yv y K np) (hh : zk_h K + 1 ≤ ze_h E) (hlen : as.length = np) (hst : st0 = as.reverse ++ .ref id :: st) (hid : id < m.2.2.2) (hs : zm_sh id = .inl ci) (hci : ci < 13) (hc : zm_C ci = y.cls) (hw : (st.map fun v => v.category).sum ≤ 8) (hn : m.2.2.2 + zk_mc K ≤ ze_n0 E + ze_mc E)
    (k : Cl y K (.ref id :: as) m (fun r m' => Wp E Q (pc + 3) lv (r.toList ++ st) m')) : Wp E Q pc lv st0 m := by
  subst hst
  intro p l e R s mi args below meth c D ca A b Z hA ad H locs ls h1 h2 h3 h4 h5 h6 h7
  have hx := hA.1
  have hb := hA.2.1
  have hml := hA.2.2.1
  have hown := hA.2.2.2.1
  have hts := hA.2.2.2.2.1
  obtain ⟨hd, hini, hcode, hL, hin, hsel⟩ := hy
  have hM := k l D ca A ad H.size (fun q hq => hA.2.2.2.2.2.2.2.2.2.1 q (Nat.le_trans h3.1 hq)) (fun v hv => h5 v (by
    rcases List.mem_cons.mp hv with g | g
    · exact List.mem_append_right _ (g ▸ List.mem_cons_self)
    · exact List.mem_append_left _ (List.mem_reverse.mpr g)))
  have cw : CallW R s args (ze_own E) y.cls idx y K.1 K.2.1 K.2.2.1 (zk_ws y K) (zk_rm K m.2.2.2) (zk_mc K) (zk_ms K m.2.2.2) np := ⟨callB_of np hts (zm_good y K hcode) rfl rfl rfl (hts _ hini) (hts _ hl) hd (zm_room hA hh hL), hts _ hin, hts _ hsel⟩
  have hp : PreV s H y.cls (ad id) (va_Pc (z_s ad (.ref id :: as)) (fun U => U.heap.size = H.size ∧ zm_U D ca A ad m U)) (z_s ad as) := ⟨zm_U_blind D ca A ad m H.size _, by
    have q := va_recv hA.2.2.2.2.2.2.2.2.1 h2.1 (zm_cl hci) (zm_W_obj ad ca m hid hs)
    rw [← hc]
    exact q, fun U hU hW => ⟨rfl, by rw [hU], zm_U_at hA h2 hU hW⟩⟩
  have hr := va_runV (below := below) (e := e) (meth := meth) (locs := locs) (cells := zm_cs E m) (slots := zm_sl E m) (g := F0 mi pc ls (z_s ad (as.reverse ++ .ref id :: st))) (rest := z_s ad st) ⟨hx, hb, hml, hown, hts⟩ hM cw hp rfl (by unfold z_s; rw [List.length_map]; exact hlen) h7.1 (by show z_s ad _ = _; simp [z_s, z_c]) (lv_room (zm_stk hw)) hdg (zm_fit hA h6 hn)
  exact zm_after hA h1 h2 h3 h4 (fun v hv => h5 v (List.mem_append_right _ (List.mem_cons_of_mem _ hv))) h6 h7 hr (fun r m' h => h)
theorem w_callS {idx np : Nat} {y : MethodName} {K : zK} {as st0 : List Value} (hdg : decode (ze_cc E) pc = .ok (.invokestatic idx, 3)) (hl : Cond.methodLink (ze_own E) idx y ∈ zm_g) (hy : zm_ys y K np) (hh : zk_h K + 1 ≤ ze_h E) (hlen : as.length = np) (hst : st0 = as.reverse ++ st) (hw : (st.map fun v => v.category).sum ≤ 8) (hn : m.2.2.2 + zk_mc K ≤ ze_n0 E + ze_mc E)
    (k : Cl y K as m (fun r m' => Wp E Q (pc + 3) lv (r.toList ++ st) m')) : Wp E Q pc lv st0 m := by
  subst hst
  intro p l e R s mi args below meth c D ca A b Z hA ad H locs ls h1 h2 h3 h4 h5 h6 h7
  have hx := hA.1
  have hb := hA.2.1
  have hml := hA.2.2.1
  have hown := hA.2.2.2.1
  have hts := hA.2.2.2.2.1
  obtain ⟨hd, hini, hcode, hL, hstt⟩ := hy
  have hM := k l D ca A ad H.size (fun q hq => hA.2.2.2.2.2.2.2.2.2.1 q (Nat.le_trans h3.1 hq)) (fun v hv => h5 v (List.mem_append_left _ (List.mem_reverse.mpr hv)))
  have cw : CallB R s args (ze_own E) idx y K.1 K.2.1 K.2.2.1 (zk_ws y K) (zk_rm K m.2.2.2) (zk_mc K) (zk_ms K m.2.2.2) np ∧ (Cond.static y).before args s = true := ⟨callB_of np hts (zm_good y K hcode) rfl rfl rfl (hts _ hini) (hts _ hl) hd (zm_room hA hh hL), hts _ hstt⟩
  have hp : PreS s H (va_Pc (z_s ad as) (fun U => U.heap.size = H.size ∧ zm_U D ca A ad m U)) (z_s ad as) := ⟨zm_U_blind D ca A ad m H.size _, fun U hU hW => ⟨rfl, by rw [hU], zm_U_at hA h2 hU hW⟩⟩
  have hr := va_runS (below := below) (e := e) (meth := meth) (locs := locs) (cells := zm_cs E m) (slots := zm_sl E m) (g := F0 mi pc ls (z_s ad (as.reverse ++ st))) (rest := z_s ad st) ⟨hx, hb, hml, hown, hts⟩ hM cw hp rfl (by unfold z_s; rw [List.length_map]; exact hlen) h7.1 (by show z_s ad _ = _; simp [z_s]) (lv_room (zm_stk hw)) hdg (zm_fit hA h6 hn)
  exact zm_after hA h1 h2 h3 h4 (fun v hv => h5 v (List.mem_append_right _ hv)) h6 h7 hr (fun r m' h => h)
theorem w_callSN {idx np : Nat} {y : MethodName} {K : zK} {as st0 : List Value} {host : String} (hdg : decode (ze_cc E) pc = .ok (.invokestatic idx, 3)) (hl : Cond.methodLinkNest (ze_own E) idx y host ∈ zm_nest) (hy : zm_ys y K np) (hh : zk_h K + 1 ≤ ze_h E) (hlen : as.length = np) (hst : st0 = as.reverse ++ st) (hw : (st.map fun v => v.category).sum ≤ 8) (hn : m.2.2.2 + zk_mc K ≤ ze_n0 E + ze_mc E)
    (k : Cl y K as m (fun r m' => Wp E Q (pc + 3) lv (r.toList ++ st) m')) : Wp E Q pc lv st0 m := by
  subst hst
  intro p l e R s mi args below meth c D ca A b Z hA ad H locs ls h1 h2 h3 h4 h5 h6 h7
  have hx := hA.1
  have hb := hA.2.1
  have hml := hA.2.2.1
  have hown := hA.2.2.2.1
  have hts := hA.2.2.2.2.1
  obtain ⟨hd, hini, hcode, hL, hstt⟩ := hy
  have hM := k l D ca A ad H.size (fun q hq => hA.2.2.2.2.2.2.2.2.2.1 q (Nat.le_trans h3.1 hq)) (fun v hv => h5 v (List.mem_append_left _ (List.mem_reverse.mpr hv)))
  have cw : va_CN R s args (ze_own E) idx y host K.1 K.2.1 K.2.2.1 (zk_ws y K) (zk_rm K m.2.2.2) (zk_mc K) (zk_ms K m.2.2.2) np ∧ (Cond.static y).before args s = true ∧ True := ⟨va_cnB np hts (zm_good y K hcode) rfl rfl rfl (hA.2.2.2.2.2.1 _ hl) (hts _ hini) hd (zm_room hA hh hL), hts _ hstt, trivial⟩
  have hp : PreS s H (va_Pc (z_s ad as) (fun U => U.heap.size = H.size ∧ zm_U D ca A ad m U)) (z_s ad as) := ⟨zm_U_blind D ca A ad m H.size _, fun U hU hW => ⟨rfl, by rw [hU], zm_U_at hA h2 hU hW⟩⟩
  have hr := va_runSN (below := below) (e := e) (meth := meth) (locs := locs) (cells := zm_cs E m) (slots := zm_sl E m) (g := F0 mi pc ls (z_s ad (as.reverse ++ st))) (rest := z_s ad st) ⟨hx, hb, hml, hown, hts⟩ hM cw hp rfl (by unfold z_s; rw [List.length_map]; exact hlen) h7.1 (by show z_s ad _ = _; simp [z_s]) (lv_room (zm_stk hw)) hdg (zm_fit hA h6 hn)
  exact zm_after hA h1 h2 h3 h4 (fun v hv => h5 v (List.mem_append_right _ hv)) h6 h7 hr (fun r m' h => h)
theorem w_callI {idx id np : Nat} {y : MethodName} {K : zK} {as st0 : List Value} (hdg : decode (ze_cc E) pc = .ok (.invokespecial idx, 3)) (hl : Cond.methodLink (ze_own E) idx y ∈ zm_g) (hy : zm_yi y K np) (hh : zk_h K + 1 ≤ ze_h E) (hlen : as.length = np) (hst : st0 = as.reverse ++ .ref id :: st) (hw : (st.map fun v => v.category).sum ≤ 8) (hn : m.2.2.2 + zk_mc K ≤ ze_n0 E + ze_mc E)
    (k : Cl y K (.ref id :: as) m (fun r m' => Wp E Q (pc + 3) lv (r.toList ++ st) m')) : Wp E Q pc lv st0 m := by
  subst hst
  intro p l e R s mi args below meth c D ca A b Z hA ad H locs ls h1 h2 h3 h4 h5 h6 h7
  have hx := hA.1
  have hb := hA.2.1
  have hml := hA.2.2.1
  have hown := hA.2.2.2.1
  have hts := hA.2.2.2.2.1
  obtain ⟨hd, hini, hcode, hL, hin, hnm, hret⟩ := hy
  have hM := k l D ca A ad H.size (fun q hq => hA.2.2.2.2.2.2.2.2.2.1 q (Nat.le_trans h3.1 hq)) (fun v hv => h5 v (by
    rcases List.mem_cons.mp hv with g | g
    · exact List.mem_append_right _ (g ▸ List.mem_cons_self)
    · exact List.mem_append_left _ (List.mem_reverse.mpr g)))
  have cw : CallB R s args (ze_own E) idx y K.1 K.2.1 none (zk_ws y K) (zk_rm K m.2.2.2) (zk_mc K) (zk_ms K m.2.2.2) np ∧ y.name = "<init>" ∧ (Cond.instanceMethod y).before args s = true := ⟨hret ▸ callB_of np hts (zm_good y K hcode) rfl rfl rfl (hts _ hini) (hts _ hl) hd (zm_room hA hh hL), hnm, hts _ hin⟩
  have hp : PreS s H (va_Pc (z_s ad (.ref id :: as)) (fun U => U.heap.size = H.size ∧ zm_U D ca A ad m U)) (.ref (ad id) :: z_s ad as) := ⟨zm_U_blind D ca A ad m H.size _, fun U hU hW => ⟨rfl, by rw [hU], zm_U_at hA h2 hU hW⟩⟩
  have hr := va_runI (below := below) (e := e) (meth := meth) (locs := locs) (cells := zm_cs E m) (slots := zm_sl E m) (g := F0 mi pc ls (z_s ad (as.reverse ++ .ref id :: st))) (rest := z_s ad st) ⟨hx, hb, hml, hown, hts⟩ hM cw hp rfl (by unfold z_s; rw [List.length_map]; exact hlen) h7.1 (by show z_s ad _ = _; simp [z_s, z_c]) (lv_room (zm_stk hw)) hdg (zm_fit hA h6 hn)
  exact zm_after hA h1 h2 h3 h4 (fun v hv => h5 v (List.mem_append_right _ (List.mem_cons_of_mem _ hv))) h6 h7 hr (fun r m' h => h)
theorem w_callIN {idx id np : Nat} {y : MethodName} {K : zK} {as st0 : List Value} {host : String} (hdg : decode (ze_cc E) pc = .ok (.invokespecial idx, 3)) (hl : Cond.methodLinkNest (ze_own E) idx y host ∈ zm_nest) (hy : zm_yi y K np) (hh : zk_h K + 1 ≤ ze_h E) (hlen : as.length = np) (hst : st0 = as.reverse ++ .ref id :: st) (hw : (st.map fun v => v.category).sum ≤ 8) (hn : m.2.2.2 + zk_mc K ≤ ze_n0 E + ze_mc E)
    (k : Cl y K (.ref id :: as) m (fun r m' => Wp E Q (pc + 3) lv (r.toList ++ st) m')) : Wp E Q pc lv st0 m := by
  subst hst
  intro p l e R s mi args below meth c D ca A b Z hA ad H locs ls h1 h2 h3 h4 h5 h6 h7
  have hx := hA.1
  have hb := hA.2.1
  have hml := hA.2.2.1
  have hown := hA.2.2.2.1
  have hts := hA.2.2.2.2.1
  obtain ⟨hd, hini, hcode, hL, hin, hnm, hret⟩ := hy
  have hM := k l D ca A ad H.size (fun q hq => hA.2.2.2.2.2.2.2.2.2.1 q (Nat.le_trans h3.1 hq)) (fun v hv => h5 v (by
    rcases List.mem_cons.mp hv with g | g
    · exact List.mem_append_right _ (g ▸ List.mem_cons_self)
    · exact List.mem_append_left _ (List.mem_reverse.mpr g)))
  have cw : va_CN R s args (ze_own E) idx y host K.1 K.2.1 none (zk_ws y K) (zk_rm K m.2.2.2) (zk_mc K) (zk_ms K m.2.2.2) np ∧ y.name = "<init>" ∧ (Cond.instanceMethod y).before args s = true := ⟨hret ▸ va_cnB np hts (zm_good y K hcode) rfl rfl rfl (hA.2.2.2.2.2.1 _ hl) (hts _ hini) hd (zm_room hA hh hL), hnm, hts _ hin⟩
  have hp : PreS s H (va_Pc (z_s ad (.ref id :: as)) (fun U => U.heap.size = H.size ∧ zm_U D ca A ad m U)) (.ref (ad id) :: z_s ad as) := ⟨zm_U_blind D ca A ad m H.size _, fun U hU hW => ⟨rfl, by rw [hU], zm_U_at hA h2 hU hW⟩⟩
  have hr := va_runIN (below := below) (e := e) (meth := meth) (locs := locs) (cells := zm_cs E m) (slots := zm_sl E m) (g := F0 mi pc ls (z_s ad (as.reverse ++ .ref id :: st))) (rest := z_s ad st) ⟨hx, hb, hml, hown, hts⟩ hM cw hp rfl (by unfold z_s; rw [List.length_map]; exact hlen) h7.1 (by show z_s ad _ = _; simp [z_s, z_c]) (lv_room (zm_stk hw)) hdg (zm_fit hA h6 hn)
  exact zm_after hA h1 h2 h3 h4 (fun v hv => h5 v (List.mem_append_right _ (List.mem_cons_of_mem _ hv))) h6 h7 hr (fun r m' h => h)
end WC
