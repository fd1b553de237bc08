/-! locals by their numbers, in order -/
def z_get : List (Nat × Value) → Nat → Option Value
  | [], _ => none
  | q :: t, i => cond (Nat.beq q.1 i) (some q.2) (z_get t i)
def z_ins : List (Nat × Value) → Nat → Value → List (Nat × Value)
  | [], i, v => [(i, v)]
  | q :: t, i, v => cond (Nat.blt i q.1) ((i, v) :: q :: t) (q :: z_ins t i v)
def z_del : List (Nat × Value) → Nat → List (Nat × Value)
  | [], _ => []
  | q :: t, i => cond (Nat.beq q.1 i) (z_del t i) (q :: z_del t i)
def z_put (lv : List (Nat × Value)) (i : Nat) (v : Value) : List (Nat × Value) := z_ins (z_del lv i) i v
/-- no long just ahead of i -/
def z_nol : List (Nat × Value) → Nat → Bool
  | [], _ => true
  | q :: t, i => cond (Nat.beq (q.1 + 1) i) (Nat.beq q.2.category 1 && z_nol t i) (z_nol t i)
/-- nothing at i -/
def z_non : List (Nat × Value) → Nat → Bool
  | [], _ => true
  | q :: t, i => cond (Nat.beq q.1 i) false (z_non t i)
theorem z_get_mem : ∀ {lv : List (Nat × Value)} {i : Nat} {v : Value}, z_get lv i = some v → (i, v) ∈ lv
  | [], _, _, h => by cases h
  | q :: t, i, v, h => by
    unfold z_get at h
    cases e : Nat.beq q.1 i with
    | true =>
      rw [e] at h
      have e1 := Nat.eq_of_beq_eq_true e
      have e2 : q.2 = v := Option.some.inj h
      rw [← e1, ← e2]
      exact List.mem_cons_self
    | false =>
      rw [e] at h
      exact List.mem_cons_of_mem _ (z_get_mem h)
theorem z_ins_mem : ∀ {lv : List (Nat × Value)} {i : Nat} {v : Value} {x : Nat × Value}, x ∈ z_ins lv i v → x = (i, v) ∨ x ∈ lv
  | [], _, _, _, h => Or.inl (List.mem_singleton.mp h)
  | q :: t, i, v, x, h => by
    unfold z_ins at h
    cases e : Nat.blt i q.1 with
    | true =>
      rw [e] at h
      exact (List.mem_cons.mp h).imp id id
    | false =>
      rw [e] at h
      rcases List.mem_cons.mp h with h | h
      · exact Or.inr (h ▸ List.mem_cons_self)
      · exact (z_ins_mem h).imp id (List.mem_cons_of_mem _)
theorem z_del_mem : ∀ {lv : List (Nat × Value)} {i : Nat} {x : Nat × Value}, x ∈ z_del lv i → x ∈ lv ∧ x.1 ≠ i
  | [], _, _, h => by cases h
  | q :: t, i, x, h => by
    unfold z_del at h
    cases e : Nat.beq q.1 i with
    | true =>
      rw [e] at h
      exact ⟨List.mem_cons_of_mem _ (z_del_mem h).1, (z_del_mem h).2⟩
    | false =>
      rw [e] at h
      rcases List.mem_cons.mp h with h | h
      · subst h
        exact ⟨List.mem_cons_self, fun q => by rw [q, Nat.beq_refl] at e; cases e⟩
      · exact ⟨List.mem_cons_of_mem _ (z_del_mem h).1, (z_del_mem h).2⟩
theorem z_put_mem {lv : List (Nat × Value)} {i : Nat} {v : Value} {x : Nat × Value} (h : x ∈ z_put lv i v) : x = (i, v) ∨ (x ∈ lv ∧ x.1 ≠ i) := (z_ins_mem h).imp id z_del_mem
theorem z_nol_mem : ∀ {lv : List (Nat × Value)} {i : Nat} {x : Nat × Value}, z_nol lv i = true → x ∈ lv → ¬ (x.1 + 1 = i ∧ x.2.category = 2)
  | [], _, _, _, h => by cases h
  | q :: t, i, x, hn, h => by
    unfold z_nol at hn
    rcases List.mem_cons.mp h with h | h
    · subst h
      rintro ⟨h1, h2⟩
      rw [h1, Nat.beq_refl, h2] at hn
      cases hn
    · cases e : Nat.beq (q.1 + 1) i with
      | true =>
        rw [e] at hn
        exact z_nol_mem ((Bool.and_eq_true _ _).mp hn).2 h
      | false =>
        rw [e] at hn
        exact z_nol_mem hn h
theorem z_non_mem : ∀ {lv : List (Nat × Value)} {i : Nat} {x : Nat × Value}, z_non lv i = true → x ∈ lv → x.1 ≠ i
  | [], _, _, _, h => by cases h
  | q :: t, i, x, hn, h => by
    unfold z_non at hn
    cases e : Nat.beq q.1 i with
    | true => rw [e] at hn; cases hn
    | false =>
      rw [e] at hn
      rcases List.mem_cons.mp h with h | h
      · subst h
        exact fun q => by rw [q, Nat.beq_refl] at e; cases e
      · exact z_non_mem hn h
theorem z_get_w {n : Nat} {lv : List (Nat × Value)} {i : Nat} {v : Value} (h : z_wl n lv) (hl : z_get lv i = some v) : z_w n v := h _ (z_get_mem hl)
theorem z_put_w {n : Nat} {lv : List (Nat × Value)} {i : Nat} {v : Value} (h : z_wl n lv) (hv : z_w n v) : z_wl n (z_put lv i v) := fun x hx => (z_put_mem hx).elim (fun e => e ▸ hv) (fun q => h x q.1)
theorem zl_at {ls : Array Slot} {nL : Nat} {ad : Nat → Nat} {lv : List (Nat × Value)} {i : Nat} {v : Value} (h : lv_has ls nL (z_l ad lv)) (hl : z_get lv i = some v) : ls[i]? = some (.val (z_c ad v)) := h.2.2 _ (List.mem_map.mpr ⟨(i, v), z_get_mem hl, rfl⟩)
theorem zl_pos {ad : Nat → Nat} {lv : List (Nat × Value)} {i : Nat} {v : Value} (hl : z_get lv i = some v) : ∃ k : Nat, (z_l ad lv)[k]? = some (i, z_c ad v) := List.getElem?_of_mem (List.mem_map.mpr ⟨(i, v), z_get_mem hl, rfl⟩)
theorem z_put_has {ls : Array Slot} {nL : Nat} {ad : Nat → Nat} {lv : List (Nat × Value)} {i : Nat} {v : Value} (hno : z_nol lv i = true) (h : lv_has ls nL ((i, z_c ad v) :: (z_l ad lv).filter (fun q => !(q.1 == i) && !(q.1 + 1 == i && q.2.category == 2)))) : lv_has ls nL (z_l ad (z_put lv i v)) := by
  refine ⟨h.1, h.2.1, fun q hq => ?_⟩
  obtain ⟨x, hx, rfl⟩ := List.mem_map.mp hq
  rcases z_put_mem hx with e | ⟨e1, e2⟩
  · subst e
    exact h.2.2 _ List.mem_cons_self
  · refine h.2.2 _ (List.mem_cons_of_mem _ (List.mem_filter.mpr ⟨List.mem_map.mpr ⟨x, e1, rfl⟩, ?_⟩))
    have e3 := z_nol_mem hno e1
    simp only [z_cat]
    simp only [Bool.and_eq_true, Bool.not_eq_true', beq_eq_false_iff_ne, ne_eq, Bool.and_eq_false_iff]
    refine ⟨e2, ?_⟩
    by_cases q1 : x.1 + 1 = i
    · exact Or.inr fun q2 => e3 ⟨q1, q2⟩
    · exact Or.inl q1
theorem z_put_hasL {ls : Array Slot} {nL : Nat} {ad : Nat → Nat} {lv : List (Nat × Value)} {i : Nat} {v : Value} (hno : z_nol lv i = true) (hn2 : z_non lv (i + 1) = true) (h : lv_has ls nL ((i, z_c ad v) :: (z_l ad lv).filter (fun q => !(q.1 == i) && (!(q.1 == i + 1) && !(q.1 + 1 == i && q.2.category == 2))))) : lv_has ls nL (z_l ad (z_put lv i v)) := by
  refine ⟨h.1, h.2.1, fun q hq => ?_⟩
  obtain ⟨x, hx, rfl⟩ := List.mem_map.mp hq
  rcases z_put_mem hx with e | ⟨e1, e2⟩
  · subst e
    exact h.2.2 _ List.mem_cons_self
  · refine h.2.2 _ (List.mem_cons_of_mem _ (List.mem_filter.mpr ⟨List.mem_map.mpr ⟨x, e1, rfl⟩, ?_⟩))
    have e3 := z_nol_mem hno e1
    have e4 := z_non_mem hn2 e1
    simp only [z_cat]
    simp only [Bool.and_eq_true, Bool.not_eq_true', beq_eq_false_iff_ne, ne_eq, Bool.and_eq_false_iff]
    refine ⟨e2, e4, ?_⟩
    by_cases q1 : x.1 + 1 = i
    · exact Or.inr fun q2 => e3 ⟨q1, q2⟩
    · exact Or.inl q1
/-! memory: one place changes -/
def z_u {α : Type} (f : Nat → Nat → α) (id k : Nat) (v : α) : Nat → Nat → α := fun i j => if i = id ∧ j = k then v else f i j
def z_uI (m : zM) (id k : Nat) (x : Int32) : zM := (z_u m.1 id k x, m.2)
def z_uJ (m : zM) (id k : Nat) (x : Int64) : zM := (m.1, z_u m.2.1 id k x, m.2.2)
def z_uR (m : zM) (id k j : Nat) : zM := (m.1, m.2.1, z_u m.2.2.1 id k (some j), m.2.2.2)
theorem z_u_ne {α : Type} {f : Nat → Nat → α} {id k i : Nat} {v : α} (h : i ≠ id) : z_u f id k v i = f i := by
  funext j
  exact if_neg fun q => h q.1
theorem z_u_row {α : Type} {f : Nat → Nat → α} {id k : Nat} {v : α} (j : Nat) : z_u f id k v id j = if j = k then v else f id j := by
  by_cases h : j = k
  · rw [if_pos h]; exact if_pos ⟨rfl, h⟩
  · rw [if_neg h]; exact if_neg fun q => h q.2
theorem zm_E_cong {ad : Nat → Nat} {ca : FieldType → Nat} {m m' : zM} {j : Nat} (h1 : m'.1 j = m.1 j) (h2 : m'.2.1 j = m.2.1 j) (h3 : m'.2.2.1 j = m.2.2.1 j) : zm_E ad ca m' j = zm_E ad ca m j := by
  unfold zm_E
  cases zm_sh j with
  | inl ci =>
    simp only
    congr 2
    apply List.map_congr_left
    intro k _
    unfold zm_f
    rw [h1, h2, h3]
  | inr q =>
    simp only
    congr 2
    unfold zm_a
    rw [h1, h2, h3]
def zm_fl (own : String) (idx ci kf : Nat) : Prop := ci < 13 ∧ kf < zm_N ci ∧ Cond.fieldLink own idx (zm_F ci kf).1 (zm_F ci kf).2.1 (zm_F ci kf).2.2.1 ∈ zm_g
def zm_rt (t : FieldType) : Bool := match t with
  | .object _ => true
  | .array _ => true
  | _ => false
theorem zm_W_obj (ad : Nat → Nat) (ca : FieldType → Nat) (m : zM) {id ci : Nat} (h : id < m.2.2.2) (hs : zm_sh id = .inl ci) : (zm_W ad ca m)[id]? = some (ad id, .inr (ci, (List.range (zm_N ci)).map (fun k => zm_f ad m id k (zm_T ci k)))) := by
  rw [zm_W_at ad ca m h]
  unfold zm_E
  rw [hs]
theorem zm_W_arr (ad : Nat → Nat) (ca : FieldType → Nat) (m : zM) {id n : Nat} {ty : FieldType} (h : id < m.2.2.2) (hs : zm_sh id = .inr (ty, n)) : (zm_W ad ca m)[id]? = some (ad id, .inl (ca ty, zm_a ad m id n ty)) := by
  rw [zm_W_at ad ca m h]
  unfold zm_E
  rw [hs]
theorem zm_fat (ad : Nat → Nat) (m : zM) (id : Nat) {ci kf : Nat} (hk : kf < zm_N ci) : ((List.range (zm_N ci)).map (fun k => zm_f ad m id k (zm_T ci k)))[kf]? = some (zm_f ad m id kf (zm_T ci kf)) := by
  rw [List.getElem?_map, List.getElem?_range hk]; rfl
theorem zm_fI (ad : Nat → Nat) (m : zM) (id : Nat) {ci kf : Nat} (hk : kf < zm_N ci) (ht : zm_T ci kf = .int ∨ zm_T ci kf = .boolean) : ((List.range (zm_N ci)).map (fun k => zm_f ad m id k (zm_T ci k)))[kf]? = some (.int (m.1 id kf)) := by
  rw [zm_fat ad m id hk]
  rcases ht with h | h <;> rw [h] <;> rfl
theorem zm_fR (ad : Nat → Nat) (m : zM) (id : Nat) {ci kf j : Nat} (hk : kf < zm_N ci) (ht : zm_rt (zm_T ci kf) = true) (hj : m.2.2.1 id kf = some j) : ((List.range (zm_N ci)).map (fun k => zm_f ad m id k (zm_T ci k)))[kf]? = some (.ref (ad j)) := by
  rw [zm_fat ad m id hk]
  cases h : zm_T ci kf <;> rw [h] at ht <;> first | (cases ht; done) | (unfold zm_f; simp only [hj]; rfl)
theorem zm_nI {ty : FieldType} {x : Int32} (ht : ty = .int ∨ (ty = .boolean ∧ (x = 0 ∨ x = 1))) : narrow ty (.int x) = .int x ∧ fits ty (.int x) = true := by
  rcases ht with rfl | ⟨rfl, rfl | rfl⟩
  · exact ⟨rfl, rfl⟩
  · exact ⟨rfl, rfl⟩
  · exact ⟨by decide +kernel, by decide +kernel⟩
theorem zm_nR {ty : FieldType} (a : Nat) (ht : zm_rt ty = true) : narrow ty (.ref a) = .ref a ∧ fits ty (.ref a) = true := by
  cases ty <;> first | (cases ht; done) | exact ⟨rfl, rfl⟩
theorem zm_narZ {x : Int32} (h : x = 0 ∨ x = 1) : vp_nar .boolean x = x := by
  rcases h with rfl | rfl <;> decide +kernel
theorem zm_setI (ad : Nat → Nat) (ca : FieldType → Nat) {m : zM} {id ci kf : Nat} {x : Int32} (h : id < m.2.2.2) (hs : zm_sh id = .inl ci) (hk : kf < zm_N ci) (ht : zm_T ci kf = .int ∨ zm_T ci kf = .boolean) : (zm_W ad ca m).set id (ad id, .inr (ci, ((List.range (zm_N ci)).map (fun k => zm_f ad m id k (zm_T ci k))).set kf (.int x))) = zm_W ad ca (z_uI m id kf x) := by
  rw [← zm_W_set ad ca (m := m) (m' := z_uI m id kf x) (id := id) rfl (fun j hj => zm_E_cong (z_u_ne hj) rfl rfl)]
  congr 3
  unfold zm_E
  rw [hs]
  simp only
  congr 2
  apply List.ext_getElem?
  intro k
  by_cases hk2 : k < zm_N ci
  · rw [zm_fat ad _ id hk2]
    by_cases e : k = kf
    · subst e
      rw [List.getElem?_set_self (by simpa using hk)]
      rcases ht with q | q <;> rw [q] <;> simp [zm_f, z_uI, z_u]
    · rw [List.getElem?_set_ne (Ne.symm e), zm_fat ad m id hk2]
      unfold zm_f z_uI
      simp [z_u, e]
  · rw [List.getElem?_eq_none (by simp; omega), List.getElem?_eq_none (by simp; omega)]
theorem zm_setR (ad : Nat → Nat) (ca : FieldType → Nat) {m : zM} {id ci kf j : Nat} (h : id < m.2.2.2) (hs : zm_sh id = .inl ci) (hk : kf < zm_N ci) (ht : zm_rt (zm_T ci kf) = true) : (zm_W ad ca m).set id (ad id, .inr (ci, ((List.range (zm_N ci)).map (fun k => zm_f ad m id k (zm_T ci k))).set kf (.ref (ad j)))) = zm_W ad ca (z_uR m id kf j) := by
  rw [← zm_W_set ad ca (m := m) (m' := z_uR m id kf j) (id := id) rfl (fun i hi => zm_E_cong rfl rfl (z_u_ne hi))]
  congr 3
  unfold zm_E
  rw [hs]
  simp only
  congr 2
  apply List.ext_getElem?
  intro k
  by_cases hk2 : k < zm_N ci
  · rw [zm_fat ad _ id hk2]
    by_cases e : k = kf
    · subst e
      rw [List.getElem?_set_self (by simpa using hk)]
      cases q : zm_T ci k <;> rw [q] at ht <;> first | (cases ht; done) | simp [zm_f, z_uR, z_u, va_rf]
    · rw [List.getElem?_set_ne (Ne.symm e), zm_fat ad m id hk2]
      unfold zm_f z_uR
      simp [z_u, e]
  · rw [List.getElem?_eq_none (by simp; omega), List.getElem?_eq_none (by simp; omega)]
theorem zm_setAI (ad : Nat → Nat) (ca : FieldType → Nat) {m : zM} {id n kf : Nat} {x : Int32} (h : id < m.2.2.2) (hs : zm_sh id = .inr (.int, n)) : (zm_W ad ca m).set id (ad id, .inl (ca .int, n, .inl (upd (m.1 id) kf x))) = zm_W ad ca (z_uI m id kf x) := by
  rw [← zm_W_set ad ca (m := m) (m' := z_uI m id kf x) (id := id) rfl (fun j hj => zm_E_cong (z_u_ne hj) rfl rfl)]
  congr 3
  unfold zm_E
  rw [hs]
  simp only [zm_a, z_uI]
  congr 4
  funext j
  exact (z_u_row j).symm
theorem zm_setAZ (ad : Nat → Nat) (ca : FieldType → Nat) {m : zM} {id n kf : Nat} {x : Int32} (h : id < m.2.2.2) (hs : zm_sh id = .inr (.boolean, n)) : (zm_W ad ca m).set id (ad id, .inl (ca .boolean, n, .inl (upd (m.1 id) kf x))) = zm_W ad ca (z_uI m id kf x) := by
  rw [← zm_W_set ad ca (m := m) (m' := z_uI m id kf x) (id := id) rfl (fun j hj => zm_E_cong (z_u_ne hj) rfl rfl)]
  congr 3
  unfold zm_E
  rw [hs]
  simp only [zm_a, z_uI]
  congr 4
  funext j
  exact (z_u_row j).symm
theorem zm_setAJ (ad : Nat → Nat) (ca : FieldType → Nat) {m : zM} {id n kf : Nat} {x : Int64} (h : id < m.2.2.2) (hs : zm_sh id = .inr (.long, n)) : (zm_W ad ca m).set id (ad id, .inl (ca .long, n, .inr (.inl (vp_updL (m.2.1 id) kf x)))) = zm_W ad ca (z_uJ m id kf x) := by
  rw [← zm_W_set ad ca (m := m) (m' := z_uJ m id kf x) (id := id) rfl (fun j hj => zm_E_cong rfl (z_u_ne hj) rfl)]
  congr 3
  unfold zm_E
  rw [hs]
  simp only [zm_a, z_uJ]
  congr 5
  funext j
  exact (z_u_row j).symm
theorem zm_setAR (ad : Nat → Nat) (ca : FieldType → Nat) {m : zM} {id n kf q : Nat} (h : id < m.2.2.2) (hs : zm_sh id = .inr (.object "TornReeds$Bit", n)) : (zm_W ad ca m).set id (ad id, .inl (ca (.object "TornReeds$Bit"), n, .inr (.inr (.inr (.inr (va_up (fun k => (m.2.2.1 id k).map ad) kf (some (ad q)))))))) = zm_W ad ca (z_uR m id kf q) := by
  rw [← zm_W_set ad ca (m := m) (m' := z_uR m id kf q) (id := id) rfl (fun j hj => zm_E_cong rfl rfl (z_u_ne hj))]
  congr 3
  unfold zm_E
  rw [hs]
  simp only [zm_a, z_uR]
  congr 8
  funext j
  rw [z_u_row]
  unfold va_up
  by_cases e : j = kf <;> simp [e]
theorem zm_wf_uR {m : zM} {id k j : Nat} (h : zm_wf m) (hj : j < m.2.2.2) : zm_wf (z_uR m id k j) := by
  refine ⟨fun i q r e => ?_, h.2⟩
  have e' : (if i = id ∧ q = k then some j else m.2.2.1 i q) = some r := e
  by_cases hc : i = id ∧ q = k
  · rw [if_pos hc] at e'
    cases e'
    exact hj
  · rw [if_neg hc] at e'
    exact h.1 _ _ _ e'
section WI
variable {E : zE} {Q : Option Value → zM → Prop} {pc : Nat} {lv : List (Nat × Value)} {st : List Value} {m : zM}
theorem w_iconst {n : Int} {v : Int32} (hdg : decode (ze_cc E) pc = .ok (.iconst n, 1)) (hv : Int32.ofInt n = v) (k : Wp E Q (pc + 1) lv (.int v :: st) m) : Wp E Q pc lv st m := by
  intro p l e R s mi args below meth c D ca A b Z hA ad H locs ls h1 h2 h3 h4 h5 h6 h7
  have hx := hA.1
  have hb := hA.2.1
  exact lv_iconst hx hb hdg hv (k p l e R s mi args below meth c D ca A b Z hA ad H locs ls h1 h2 h3 h4 (z_ws_cons trivial h5) h6 h7)
theorem w_bipush {n : Int} {v : Int32} (hdg : decode (ze_cc E) pc = .ok (.bipush n, 2)) (hv : (Int8.ofInt n).toInt32 = v) (k : Wp E Q (pc + 2) lv (.int v :: st) m) : Wp E Q pc lv st m := by
  intro p l e R s mi args below meth c D ca A b Z hA ad H locs ls h1 h2 h3 h4 h5 h6 h7
  have hx := hA.1
  have hb := hA.2.1
  exact lv_bipush hx hb hdg hv (k p l e R s mi args below meth c D ca A b Z hA ad H locs ls h1 h2 h3 h4 (z_ws_cons trivial h5) h6 h7)
theorem w_sipush {n : Int} {v : Int32} (hdg : decode (ze_cc E) pc = .ok (.sipush n, 3)) (hv : (Int16.ofInt n).toInt32 = v) (k : Wp E Q (pc + 3) lv (.int v :: st) m) : Wp E Q pc lv st m := by
  intro p l e R s mi args below meth c D ca A b Z hA ad H locs ls h1 h2 h3 h4 h5 h6 h7
  have hx := hA.1
  have hb := hA.2.1
  exact lv_sipush hx hb hdg hv (k p l e R s mi args below meth c D ca A b Z hA ad H locs ls h1 h2 h3 h4 (z_ws_cons trivial h5) h6 h7)
theorem w_lconst {n : Fin 2} {v : Int64} (hdg : decode (ze_cc E) pc = .ok (.lconst n, 1)) (hv : Int64.ofNat (n : Nat) = v) (k : Wp E Q (pc + 1) lv (.long v :: st) m) : Wp E Q pc lv st m := by
  intro p l e R s mi args below meth c D ca A b Z hA ad H locs ls h1 h2 h3 h4 h5 h6 h7
  have hx := hA.1
  have hb := hA.2.1
  exact lv_lconst hx hb hdg hv (k p l e R s mi args below meth c D ca A b Z hA ad H locs ls h1 h2 h3 h4 (z_ws_cons trivial h5) h6 h7)
theorem w_null  (hdg : decode (ze_cc E) pc = .ok (.aconst_null, 1))  (k : Wp E Q (pc + 1) lv (.null :: st) m) : Wp E Q pc lv st m := by
  intro p l e R s mi args below meth c D ca A b Z hA ad H locs ls h1 h2 h3 h4 h5 h6 h7
  have hx := hA.1
  have hb := hA.2.1
  exact lv_null hx hb hdg (k p l e R s mi args below meth c D ca A b Z hA ad H locs ls h1 h2 h3 h4 (z_ws_cons trivial h5) h6 h7)
theorem w_ldc2 {index : Nat} {v : Int64} (hdg : decode (ze_cc E) pc = .ok (.ldc2_w index, 3)) (hc : Cond.constantLong (ze_own E) index v ∈ zm_g) (k : Wp E Q (pc + 3) lv (.long v :: st) m) : Wp E Q pc lv st m := by
  intro p l e R s mi args below meth c D ca A b Z hA ad H locs ls h1 h2 h3 h4 h5 h6 h7
  have hx := hA.1
  have hb := hA.2.1
  exact lv_ldc2 hx hb hA.2.2.2.1 (hA.2.2.2.2.1 _ hc) hdg (k p l e R s mi args below meth c D ca A b Z hA ad H locs ls h1 h2 h3 h4 (z_ws_cons trivial h5) h6 h7)
theorem w_iload {i : Nat} {x : Int32} (hdg : decode (ze_cc E) pc = .ok (.iload i, 2)) (hl : z_get lv i = some (.int x)) (k : Wp E Q (pc + 2) lv (.int x :: st) m) : Wp E Q pc lv st m := by
  intro p l e R s mi args below meth c D ca A b Z hA ad H locs ls h1 h2 h3 h4 h5 h6 h7
  have hx := hA.1
  have hb := hA.2.1
  exact lv_iload hx hb hdg (zl_at h7 hl) (k p l e R s mi args below meth c D ca A b Z hA ad H locs ls h1 h2 h3 h4 (z_ws_cons (z_get_w h4 hl) h5) h6 h7)
theorem w_iload_n {i : Fin 4} {x : Int32} (hdg : decode (ze_cc E) pc = .ok (.iload_n i, 1)) (hl : z_get lv (i : Nat) = some (.int x)) (k : Wp E Q (pc + 1) lv (.int x :: st) m) : Wp E Q pc lv st m := by
  intro p l e R s mi args below meth c D ca A b Z hA ad H locs ls h1 h2 h3 h4 h5 h6 h7
  have hx := hA.1
  have hb := hA.2.1
  exact lv_iload_n hx hb hdg rfl (zl_at h7 hl) (k p l e R s mi args below meth c D ca A b Z hA ad H locs ls h1 h2 h3 h4 (z_ws_cons (z_get_w h4 hl) h5) h6 h7)
theorem w_lload {i : Nat} {x : Int64} (hdg : decode (ze_cc E) pc = .ok (.lload i, 2)) (hl : z_get lv i = some (.long x)) (k : Wp E Q (pc + 2) lv (.long x :: st) m) : Wp E Q pc lv st m := by
  intro p l e R s mi args below meth c D ca A b Z hA ad H locs ls h1 h2 h3 h4 h5 h6 h7
  have hx := hA.1
  have hb := hA.2.1
  exact lv_lload hx hb hdg (zl_at h7 hl) (k p l e R s mi args below meth c D ca A b Z hA ad H locs ls h1 h2 h3 h4 (z_ws_cons (z_get_w h4 hl) h5) h6 h7)
theorem w_lload_n {i : Fin 4} {x : Int64} (hdg : decode (ze_cc E) pc = .ok (.lload_n i, 1)) (hl : z_get lv (i : Nat) = some (.long x)) (k : Wp E Q (pc + 1) lv (.long x :: st) m) : Wp E Q pc lv st m := by
  intro p l e R s mi args below meth c D ca A b Z hA ad H locs ls h1 h2 h3 h4 h5 h6 h7
  have hx := hA.1
  have hb := hA.2.1
  exact lv_lload_n hx hb hdg rfl (zl_at h7 hl) (k p l e R s mi args below meth c D ca A b Z hA ad H locs ls h1 h2 h3 h4 (z_ws_cons (z_get_w h4 hl) h5) h6 h7)
theorem w_aload {i : Nat} {x : Nat} (hdg : decode (ze_cc E) pc = .ok (.aload i, 2)) (hl : z_get lv i = some (.ref x)) (k : Wp E Q (pc + 2) lv (.ref x :: st) m) : Wp E Q pc lv st m := by
  intro p l e R s mi args below meth c D ca A b Z hA ad H locs ls h1 h2 h3 h4 h5 h6 h7
  have hx := hA.1
  have hb := hA.2.1
  exact lv_aload hx hb hdg (zl_at h7 hl) (k p l e R s mi args below meth c D ca A b Z hA ad H locs ls h1 h2 h3 h4 (z_ws_cons (z_get_w h4 hl) h5) h6 h7)
theorem w_aload_n {i : Fin 4} {x : Nat} (hdg : decode (ze_cc E) pc = .ok (.aload_n i, 1)) (hl : z_get lv (i : Nat) = some (.ref x)) (k : Wp E Q (pc + 1) lv (.ref x :: st) m) : Wp E Q pc lv st m := by
  intro p l e R s mi args below meth c D ca A b Z hA ad H locs ls h1 h2 h3 h4 h5 h6 h7
  have hx := hA.1
  have hb := hA.2.1
  exact lv_aload_n hx hb hdg rfl (zl_at h7 hl) (k p l e R s mi args below meth c D ca A b Z hA ad H locs ls h1 h2 h3 h4 (z_ws_cons (z_get_w h4 hl) h5) h6 h7)
theorem w_istore {i : Nat} {x : Int32} (hdg : decode (ze_cc E) pc = .ok (.istore i, 2)) (hi : Nat.blt i (ze_nL E) = true) (hno : z_nol lv i = true) (k : Wp E Q (pc + 2) (z_put lv i (.int x)) st m) : Wp E Q pc lv (.int x :: st) m := by
  intro p l e R s mi args below meth c D ca A b Z hA ad H locs ls h1 h2 h3 h4 h5 h6 h7
  have hx := hA.1
  have hb := hA.2.1
  refine lv_istore hx hb hdg h7 (Nat.blt_eq.mp hi) rfl fun ls' hl' => ?_
  exact k p l e R s mi args below meth c D ca A b Z hA ad H locs ls' h1 h2 h3 (z_put_w h4 (z_ws_head h5)) (z_ws_tail h5) h6 (z_put_has hno hl')
theorem w_istore_n {i : Fin 4} {x : Int32} (hdg : decode (ze_cc E) pc = .ok (.istore_n i, 1)) (hi : Nat.blt (i : Nat) (ze_nL E) = true) (hno : z_nol lv (i : Nat) = true) (k : Wp E Q (pc + 1) (z_put lv (i : Nat) (.int x)) st m) : Wp E Q pc lv (.int x :: st) m := by
  intro p l e R s mi args below meth c D ca A b Z hA ad H locs ls h1 h2 h3 h4 h5 h6 h7
  have hx := hA.1
  have hb := hA.2.1
  refine lv_istore_n hx hb hdg rfl h7 (Nat.blt_eq.mp hi) rfl fun ls' hl' => ?_
  exact k p l e R s mi args below meth c D ca A b Z hA ad H locs ls' h1 h2 h3 (z_put_w h4 (z_ws_head h5)) (z_ws_tail h5) h6 (z_put_has hno hl')
theorem w_astore {i : Nat} {x : Nat} (hdg : decode (ze_cc E) pc = .ok (.astore i, 2)) (hi : Nat.blt i (ze_nL E) = true) (hno : z_nol lv i = true) (k : Wp E Q (pc + 2) (z_put lv i (.ref x)) st m) : Wp E Q pc lv (.ref x :: st) m := by
  intro p l e R s mi args below meth c D ca A b Z hA ad H locs ls h1 h2 h3 h4 h5 h6 h7
  have hx := hA.1
  have hb := hA.2.1
  refine lv_astore hx hb hdg h7 (Nat.blt_eq.mp hi) rfl fun ls' hl' => ?_
  exact k p l e R s mi args below meth c D ca A b Z hA ad H locs ls' h1 h2 h3 (z_put_w h4 (z_ws_head h5)) (z_ws_tail h5) h6 (z_put_has hno hl')
theorem w_astore_n {i : Fin 4} {x : Nat} (hdg : decode (ze_cc E) pc = .ok (.astore_n i, 1)) (hi : Nat.blt (i : Nat) (ze_nL E) = true) (hno : z_nol lv (i : Nat) = true) (k : Wp E Q (pc + 1) (z_put lv (i : Nat) (.ref x)) st m) : Wp E Q pc lv (.ref x :: st) m := by
  intro p l e R s mi args below meth c D ca A b Z hA ad H locs ls h1 h2 h3 h4 h5 h6 h7
  have hx := hA.1
  have hb := hA.2.1
  refine lv_astore_n hx hb hdg rfl h7 (Nat.blt_eq.mp hi) rfl fun ls' hl' => ?_
  exact k p l e R s mi args below meth c D ca A b Z hA ad H locs ls' h1 h2 h3 (z_put_w h4 (z_ws_head h5)) (z_ws_tail h5) h6 (z_put_has hno hl')
theorem w_lstore {i : Nat} {x : Int64} (hdg : decode (ze_cc E) pc = .ok (.lstore i, 2)) (hi : Nat.blt (i + 1) (ze_nL E) = true) (hno : z_nol lv i = true) (hn2 : z_non lv (i + 1) = true) (k : Wp E Q (pc + 2) (z_put lv i (.long x)) st m) : Wp E Q pc lv (.long x :: st) m := by
  intro p l e R s mi args below meth c D ca A b Z hA ad H locs ls h1 h2 h3 h4 h5 h6 h7
  have hx := hA.1
  have hb := hA.2.1
  refine lv_lstore hx hb hdg h7 (Nat.blt_eq.mp hi) rfl fun ls' hl' => ?_
  exact k p l e R s mi args below meth c D ca A b Z hA ad H locs ls' h1 h2 h3 (z_put_w h4 (z_ws_head h5)) (z_ws_tail h5) h6 (z_put_hasL hno hn2 hl')
theorem w_lstore_n {i : Fin 4} {x : Int64} (hdg : decode (ze_cc E) pc = .ok (.lstore_n i, 1)) (hi : Nat.blt ((i : Nat) + 1) (ze_nL E) = true) (hno : z_nol lv (i : Nat) = true) (hn2 : z_non lv ((i : Nat) + 1) = true) (k : Wp E Q (pc + 1) (z_put lv (i : Nat) (.long x)) st m) : Wp E Q pc lv (.long x :: st) m := by
  intro p l e R s mi args below meth c D ca A b Z hA ad H locs ls h1 h2 h3 h4 h5 h6 h7
  have hx := hA.1
  have hb := hA.2.1
  refine lv_lstore_n hx hb hdg rfl h7 (Nat.blt_eq.mp hi) rfl fun ls' hl' => ?_
  exact k p l e R s mi args below meth c D ca A b Z hA ad H locs ls' h1 h2 h3 (z_put_w h4 (z_ws_head h5)) (z_ws_tail h5) h6 (z_put_hasL hno hn2 hl')
theorem w_iinc {i : Nat} {n : Int} {x v : Int32} (hdg : decode (ze_cc E) pc = .ok (.iinc i n, 3)) (hl : z_get lv i = some (.int x)) (hv : x + Int32.ofInt n = v) (hi : Nat.blt i (ze_nL E) = true) (hno : z_nol lv i = true) (k : Wp E Q (pc + 3) (z_put lv i (.int v)) st m) : Wp E Q pc lv st m := by
  intro p l e R s mi args below meth c D ca A b Z hA ad H locs ls h1 h2 h3 h4 h5 h6 h7
  have hx := hA.1
  have hb := hA.2.1
  obtain ⟨kk, hkk⟩ := zl_pos (ad := ad) hl
  refine lv_iinc hx hb hdg h7 hkk hv (Nat.blt_eq.mp hi) rfl fun ls' hl' => ?_
  exact k p l e R s mi args below meth c D ca A b Z hA ad H locs ls' h1 h2 h3 (z_put_w (v := .int v) h4 trivial) h5 h6 (z_put_has (v := .int v) hno hl')
theorem w_iadd {x y : Int32} (hdg : decode (ze_cc E) pc = .ok (.iadd, 1)) (k : Wp E Q (pc + 1) lv (.int (x + y) :: st) m) : Wp E Q pc lv (.int y :: .int x :: st) m := by
  intro p l e R s mi args below meth c D ca A b Z hA ad H locs ls h1 h2 h3 h4 h5 h6 h7
  have hx := hA.1
  have hb := hA.2.1
  exact lv_iadd hx hb hdg (k p l e R s mi args below meth c D ca A b Z hA ad H locs ls h1 h2 h3 h4 (z_ws_cons trivial (z_ws_tail (z_ws_tail h5))) h6 h7)
theorem w_isub {x y : Int32} (hdg : decode (ze_cc E) pc = .ok (.isub, 1)) (k : Wp E Q (pc + 1) lv (.int (x - y) :: st) m) : Wp E Q pc lv (.int y :: .int x :: st) m := by
  intro p l e R s mi args below meth c D ca A b Z hA ad H locs ls h1 h2 h3 h4 h5 h6 h7
  have hx := hA.1
  have hb := hA.2.1
  exact lv_isub hx hb hdg (k p l e R s mi args below meth c D ca A b Z hA ad H locs ls h1 h2 h3 h4 (z_ws_cons trivial (z_ws_tail (z_ws_tail h5))) h6 h7)
theorem w_imul {x y : Int32} (hdg : decode (ze_cc E) pc = .ok (.imul, 1)) (k : Wp E Q (pc + 1) lv (.int (x * y) :: st) m) : Wp E Q pc lv (.int y :: .int x :: st) m := by
  intro p l e R s mi args below meth c D ca A b Z hA ad H locs ls h1 h2 h3 h4 h5 h6 h7
  have hx := hA.1
  have hb := hA.2.1
  exact lv_imul hx hb hdg (k p l e R s mi args below meth c D ca A b Z hA ad H locs ls h1 h2 h3 h4 (z_ws_cons trivial (z_ws_tail (z_ws_tail h5))) h6 h7)
theorem w_idiv {x y : Int32} (hdg : decode (ze_cc E) pc = .ok (.idiv, 1)) (hy : ¬ y = 0) (k : Wp E Q (pc + 1) lv (.int (x / y) :: st) m) : Wp E Q pc lv (.int y :: .int x :: st) m := by
  intro p l e R s mi args below meth c D ca A b Z hA ad H locs ls h1 h2 h3 h4 h5 h6 h7
  have hx := hA.1
  have hb := hA.2.1
  exact lv_idiv hx hb hdg hy (k p l e R s mi args below meth c D ca A b Z hA ad H locs ls h1 h2 h3 h4 (z_ws_cons trivial (z_ws_tail (z_ws_tail h5))) h6 h7)
theorem w_irem {x y : Int32} (hdg : decode (ze_cc E) pc = .ok (.irem, 1)) (hy : ¬ y = 0) (k : Wp E Q (pc + 1) lv (.int (x - x / y * y) :: st) m) : Wp E Q pc lv (.int y :: .int x :: st) m := by
  intro p l e R s mi args below meth c D ca A b Z hA ad H locs ls h1 h2 h3 h4 h5 h6 h7
  have hx := hA.1
  have hb := hA.2.1
  exact lv_irem hx hb hdg hy (k p l e R s mi args below meth c D ca A b Z hA ad H locs ls h1 h2 h3 h4 (z_ws_cons trivial (z_ws_tail (z_ws_tail h5))) h6 h7)
theorem w_ishr {x y : Int32} (hdg : decode (ze_cc E) pc = .ok (.ishr, 1)) (k : Wp E Q (pc + 1) lv (.int (x >>> (y &&& 31)) :: st) m) : Wp E Q pc lv (.int y :: .int x :: st) m := by
  intro p l e R s mi args below meth c D ca A b Z hA ad H locs ls h1 h2 h3 h4 h5 h6 h7
  have hx := hA.1
  have hb := hA.2.1
  exact lv_ishr hx hb hdg (k p l e R s mi args below meth c D ca A b Z hA ad H locs ls h1 h2 h3 h4 (z_ws_cons trivial (z_ws_tail (z_ws_tail h5))) h6 h7)
theorem w_iushr {x y : Int32} (hdg : decode (ze_cc E) pc = .ok (.iushr, 1)) (k : Wp E Q (pc + 1) lv (.int ((x.toUInt32 >>> (y.toUInt32 &&& Int32.toUInt32 31)).toInt32) :: st) m) : Wp E Q pc lv (.int y :: .int x :: st) m := by
  intro p l e R s mi args below meth c D ca A b Z hA ad H locs ls h1 h2 h3 h4 h5 h6 h7
  have hx := hA.1
  have hb := hA.2.1
  exact lv_iushr hx hb hdg rfl (k p l e R s mi args below meth c D ca A b Z hA ad H locs ls h1 h2 h3 h4 (z_ws_cons trivial (z_ws_tail (z_ws_tail h5))) h6 h7)
theorem w_iand {x y : Int32} (hdg : decode (ze_cc E) pc = .ok (.iand, 1)) (k : Wp E Q (pc + 1) lv (.int (x &&& y) :: st) m) : Wp E Q pc lv (.int y :: .int x :: st) m := by
  intro p l e R s mi args below meth c D ca A b Z hA ad H locs ls h1 h2 h3 h4 h5 h6 h7
  have hx := hA.1
  have hb := hA.2.1
  exact lv_iand hx hb hdg (k p l e R s mi args below meth c D ca A b Z hA ad H locs ls h1 h2 h3 h4 (z_ws_cons trivial (z_ws_tail (z_ws_tail h5))) h6 h7)
theorem w_land {x y : Int64} (hdg : decode (ze_cc E) pc = .ok (.land, 1)) (k : Wp E Q (pc + 1) lv (.long (x &&& y) :: st) m) : Wp E Q pc lv (.long y :: .long x :: st) m := by
  intro p l e R s mi args below meth c D ca A b Z hA ad H locs ls h1 h2 h3 h4 h5 h6 h7
  have hx := hA.1
  have hb := hA.2.1
  exact lv_land hx hb hdg (k p l e R s mi args below meth c D ca A b Z hA ad H locs ls h1 h2 h3 h4 (z_ws_cons trivial (z_ws_tail (z_ws_tail h5))) h6 h7)
theorem w_lor {x y : Int64} (hdg : decode (ze_cc E) pc = .ok (.lor, 1)) (k : Wp E Q (pc + 1) lv (.long (x ||| y) :: st) m) : Wp E Q pc lv (.long y :: .long x :: st) m := by
  intro p l e R s mi args below meth c D ca A b Z hA ad H locs ls h1 h2 h3 h4 h5 h6 h7
  have hx := hA.1
  have hb := hA.2.1
  exact lv_lor hx hb hdg (k p l e R s mi args below meth c D ca A b Z hA ad H locs ls h1 h2 h3 h4 (z_ws_cons trivial (z_ws_tail (z_ws_tail h5))) h6 h7)
theorem w_lxor {x y : Int64} (hdg : decode (ze_cc E) pc = .ok (.lxor, 1)) (k : Wp E Q (pc + 1) lv (.long (x ^^^ y) :: st) m) : Wp E Q pc lv (.long y :: .long x :: st) m := by
  intro p l e R s mi args below meth c D ca A b Z hA ad H locs ls h1 h2 h3 h4 h5 h6 h7
  have hx := hA.1
  have hb := hA.2.1
  exact lv_lxor hx hb hdg (k p l e R s mi args below meth c D ca A b Z hA ad H locs ls h1 h2 h3 h4 (z_ws_cons trivial (z_ws_tail (z_ws_tail h5))) h6 h7)
theorem w_lshl {x : Int64} {y : Int32} (hdg : decode (ze_cc E) pc = .ok (.lshl, 1)) (k : Wp E Q (pc + 1) lv (.long (x <<< (y.toInt64 &&& 63)) :: st) m) : Wp E Q pc lv (.int y :: .long x :: st) m := by
  intro p l e R s mi args below meth c D ca A b Z hA ad H locs ls h1 h2 h3 h4 h5 h6 h7
  have hx := hA.1
  have hb := hA.2.1
  exact lv_lshl hx hb hdg rfl (k p l e R s mi args below meth c D ca A b Z hA ad H locs ls h1 h2 h3 h4 (z_ws_cons trivial (z_ws_tail (z_ws_tail h5))) h6 h7)
theorem w_lushr {x : Int64} {y : Int32} (hdg : decode (ze_cc E) pc = .ok (.lushr, 1)) (k : Wp E Q (pc + 1) lv (.long ((x.toUInt64 >>> (y.toInt64.toUInt64 &&& Int64.toUInt64 63)).toInt64) :: st) m) : Wp E Q pc lv (.int y :: .long x :: st) m := by
  intro p l e R s mi args below meth c D ca A b Z hA ad H locs ls h1 h2 h3 h4 h5 h6 h7
  have hx := hA.1
  have hb := hA.2.1
  exact lv_lushr hx hb hdg rfl (k p l e R s mi args below meth c D ca A b Z hA ad H locs ls h1 h2 h3 h4 (z_ws_cons trivial (z_ws_tail (z_ws_tail h5))) h6 h7)
theorem w_lcmp {x y : Int64} (hdg : decode (ze_cc E) pc = .ok (.lcmp, 1)) (k : Wp E Q (pc + 1) lv (.int (lg_cmp x y) :: st) m) : Wp E Q pc lv (.long y :: .long x :: st) m := by
  intro p l e R s mi args below meth c D ca A b Z hA ad H locs ls h1 h2 h3 h4 h5 h6 h7
  have hx := hA.1
  have hb := hA.2.1
  exact W.lcmp hx hb hdg (k p l e R s mi args below meth c D ca A b Z hA ad H locs ls h1 h2 h3 h4 (z_ws_cons trivial (z_ws_tail (z_ws_tail h5))) h6 h7)
theorem w_ineg {x : Int32} (hdg : decode (ze_cc E) pc = .ok (.ineg, 1)) (k : Wp E Q (pc + 1) lv (.int (-x) :: st) m) : Wp E Q pc lv (.int x :: st) m := by
  intro p l e R s mi args below meth c D ca A b Z hA ad H locs ls h1 h2 h3 h4 h5 h6 h7
  have hx := hA.1
  have hb := hA.2.1
  exact lv_ineg hx hb hdg (k p l e R s mi args below meth c D ca A b Z hA ad H locs ls h1 h2 h3 h4 (z_ws_cons trivial (z_ws_tail h5)) h6 h7)
theorem w_dup {v : Value} (hdg : decode (ze_cc E) pc = .ok (.dup, 1)) (hv : v.category = 1) (k : Wp E Q (pc + 1) lv (v :: v :: st) m) : Wp E Q pc lv (v :: st) m := by
  intro p l e R s mi args below meth c D ca A b Z hA ad H locs ls h1 h2 h3 h4 h5 h6 h7
  have hx := hA.1
  have hb := hA.2.1
  exact lv_dup hx hb hdg (by rw [z_cat]; exact hv) (k p l e R s mi args below meth c D ca A b Z hA ad H locs ls h1 h2 h3 h4 (z_ws_cons (z_ws_head h5) h5) h6 h7)
theorem w_dup2 {v w : Value} (hdg : decode (ze_cc E) pc = .ok (.dup2, 1)) (hv : v.category = 1) (hw : w.category = 1) (k : Wp E Q (pc + 1) lv (v :: w :: v :: w :: st) m) : Wp E Q pc lv (v :: w :: st) m := by
  intro p l e R s mi args below meth c D ca A b Z hA ad H locs ls h1 h2 h3 h4 h5 h6 h7
  have hx := hA.1
  have hb := hA.2.1
  exact lv_dup2_11 hx hb hdg (by rw [z_cat]; exact hv) (by rw [z_cat]; exact hw) (k p l e R s mi args below meth c D ca A b Z hA ad H locs ls h1 h2 h3 h4 (z_ws_cons (z_ws_head h5) (z_ws_cons (z_ws_head (z_ws_tail h5)) h5)) h6 h7)
theorem w_pop {v : Value} (hdg : decode (ze_cc E) pc = .ok (.pop, 1)) (hv : v.category = 1) (k : Wp E Q (pc + 1) lv st m) : Wp E Q pc lv (v :: st) m := by
  intro p l e R s mi args below meth c D ca A b Z hA ad H locs ls h1 h2 h3 h4 h5 h6 h7
  have hx := hA.1
  have hb := hA.2.1
  exact lv_pop hx hb hdg (by rw [z_cat]; exact hv) (k p l e R s mi args below meth c D ca A b Z hA ad H locs ls h1 h2 h3 h4 (z_ws_tail h5) h6 h7)
theorem w_goto {off : Int} (tgt : Nat) (hdg : decode (ze_cc E) pc = .ok (.goto off, 3)) (ht : (pc : Int) + off = (tgt : Int)) (k : Wp E Q tgt lv st m) : Wp E Q pc lv st m := by
  intro p l e R s mi args below meth c D ca A b Z hA ad H locs ls h1 h2 h3 h4 h5 h6 h7
  have hx := hA.1
  have hb := hA.2.1
  exact lv_goto hx hb hdg ht (k p l e R s mi args below meth c D ca A b Z hA ad H locs ls h1 h2 h3 h4 h5 h6 h7)
theorem w_if_eq {x : Int32} {off : Int} (tgt : Nat) (hdg : decode (ze_cc E) pc = .ok (.ifCond .eq off, 3)) (ht : (pc : Int) + off = (tgt : Int)) (kt : x = 0 → Wp E Q tgt lv st m) (kf : ¬ x = 0 → Wp E Q (pc + 3) lv st m) : Wp E Q pc lv (.int x :: st) m := by
  intro p l e R s mi args below meth c D ca A b Z hA ad H locs ls h1 h2 h3 h4 h5 h6 h7
  have hx := hA.1
  have hb := hA.2.1
  exact lv_if_eq hx hb hdg ht (fun q => kt q p l e R s mi args below meth c D ca A b Z hA ad H locs ls h1 h2 h3 h4 (z_ws_tail h5) h6 h7) (fun q => kf q p l e R s mi args below meth c D ca A b Z hA ad H locs ls h1 h2 h3 h4 (z_ws_tail h5) h6 h7)
theorem w_icmp_eq {x y : Int32} {off : Int} (tgt : Nat) (hdg : decode (ze_cc E) pc = .ok (.if_icmp .eq off, 3)) (ht : (pc : Int) + off = (tgt : Int)) (kt : x = y → Wp E Q tgt lv st m) (kf : ¬ x = y → Wp E Q (pc + 3) lv st m) : Wp E Q pc lv (.int y :: .int x :: st) m := by
  intro p l e R s mi args below meth c D ca A b Z hA ad H locs ls h1 h2 h3 h4 h5 h6 h7
  have hx := hA.1
  have hb := hA.2.1
  exact lv_icmp_eq hx hb hdg ht (fun q => kt q p l e R s mi args below meth c D ca A b Z hA ad H locs ls h1 h2 h3 h4 (z_ws_tail (z_ws_tail h5)) h6 h7) (fun q => kf q p l e R s mi args below meth c D ca A b Z hA ad H locs ls h1 h2 h3 h4 (z_ws_tail (z_ws_tail h5)) h6 h7)
theorem w_if_ne {x : Int32} {off : Int} (tgt : Nat) (hdg : decode (ze_cc E) pc = .ok (.ifCond .ne off, 3)) (ht : (pc : Int) + off = (tgt : Int)) (kt : ¬ x = 0 → Wp E Q tgt lv st m) (kf : x = 0 → Wp E Q (pc + 3) lv st m) : Wp E Q pc lv (.int x :: st) m := by
  intro p l e R s mi args below meth c D ca A b Z hA ad H locs ls h1 h2 h3 h4 h5 h6 h7
  have hx := hA.1
  have hb := hA.2.1
  exact lv_if_ne hx hb hdg ht (fun q => kt q p l e R s mi args below meth c D ca A b Z hA ad H locs ls h1 h2 h3 h4 (z_ws_tail h5) h6 h7) (fun q => kf q p l e R s mi args below meth c D ca A b Z hA ad H locs ls h1 h2 h3 h4 (z_ws_tail h5) h6 h7)
theorem w_icmp_ne {x y : Int32} {off : Int} (tgt : Nat) (hdg : decode (ze_cc E) pc = .ok (.if_icmp .ne off, 3)) (ht : (pc : Int) + off = (tgt : Int)) (kt : ¬ x = y → Wp E Q tgt lv st m) (kf : x = y → Wp E Q (pc + 3) lv st m) : Wp E Q pc lv (.int y :: .int x :: st) m := by
  intro p l e R s mi args below meth c D ca A b Z hA ad H locs ls h1 h2 h3 h4 h5 h6 h7
  have hx := hA.1
  have hb := hA.2.1
  exact lv_icmp_ne hx hb hdg ht (fun q => kt q p l e R s mi args below meth c D ca A b Z hA ad H locs ls h1 h2 h3 h4 (z_ws_tail (z_ws_tail h5)) h6 h7) (fun q => kf q p l e R s mi args below meth c D ca A b Z hA ad H locs ls h1 h2 h3 h4 (z_ws_tail (z_ws_tail h5)) h6 h7)
theorem w_if_lt {x : Int32} {off : Int} (tgt : Nat) (hdg : decode (ze_cc E) pc = .ok (.ifCond .lt off, 3)) (ht : (pc : Int) + off = (tgt : Int)) (kt : x < 0 → Wp E Q tgt lv st m) (kf : ¬ x < 0 → Wp E Q (pc + 3) lv st m) : Wp E Q pc lv (.int x :: st) m := by
  intro p l e R s mi args below meth c D ca A b Z hA ad H locs ls h1 h2 h3 h4 h5 h6 h7
  have hx := hA.1
  have hb := hA.2.1
  exact lv_if_lt hx hb hdg ht (fun q => kt q p l e R s mi args below meth c D ca A b Z hA ad H locs ls h1 h2 h3 h4 (z_ws_tail h5) h6 h7) (fun q => kf q p l e R s mi args below meth c D ca A b Z hA ad H locs ls h1 h2 h3 h4 (z_ws_tail h5) h6 h7)
theorem w_icmp_lt {x y : Int32} {off : Int} (tgt : Nat) (hdg : decode (ze_cc E) pc = .ok (.if_icmp .lt off, 3)) (ht : (pc : Int) + off = (tgt : Int)) (kt : x < y → Wp E Q tgt lv st m) (kf : ¬ x < y → Wp E Q (pc + 3) lv st m) : Wp E Q pc lv (.int y :: .int x :: st) m := by
  intro p l e R s mi args below meth c D ca A b Z hA ad H locs ls h1 h2 h3 h4 h5 h6 h7
  have hx := hA.1
  have hb := hA.2.1
  exact lv_icmp_lt hx hb hdg ht (fun q => kt q p l e R s mi args below meth c D ca A b Z hA ad H locs ls h1 h2 h3 h4 (z_ws_tail (z_ws_tail h5)) h6 h7) (fun q => kf q p l e R s mi args below meth c D ca A b Z hA ad H locs ls h1 h2 h3 h4 (z_ws_tail (z_ws_tail h5)) h6 h7)
theorem w_if_ge {x : Int32} {off : Int} (tgt : Nat) (hdg : decode (ze_cc E) pc = .ok (.ifCond .ge off, 3)) (ht : (pc : Int) + off = (tgt : Int)) (kt : 0 ≤ x → Wp E Q tgt lv st m) (kf : ¬ 0 ≤ x → Wp E Q (pc + 3) lv st m) : Wp E Q pc lv (.int x :: st) m := by
  intro p l e R s mi args below meth c D ca A b Z hA ad H locs ls h1 h2 h3 h4 h5 h6 h7
  have hx := hA.1
  have hb := hA.2.1
  exact lv_if_ge hx hb hdg ht (fun q => kt q p l e R s mi args below meth c D ca A b Z hA ad H locs ls h1 h2 h3 h4 (z_ws_tail h5) h6 h7) (fun q => kf q p l e R s mi args below meth c D ca A b Z hA ad H locs ls h1 h2 h3 h4 (z_ws_tail h5) h6 h7)
theorem w_icmp_ge {x y : Int32} {off : Int} (tgt : Nat) (hdg : decode (ze_cc E) pc = .ok (.if_icmp .ge off, 3)) (ht : (pc : Int) + off = (tgt : Int)) (kt : y ≤ x → Wp E Q tgt lv st m) (kf : ¬ y ≤ x → Wp E Q (pc + 3) lv st m) : Wp E Q pc lv (.int y :: .int x :: st) m := by
  intro p l e R s mi args below meth c D ca A b Z hA ad H locs ls h1 h2 h3 h4 h5 h6 h7
  have hx := hA.1
  have hb := hA.2.1
  exact lv_icmp_ge hx hb hdg ht (fun q => kt q p l e R s mi args below meth c D ca A b Z hA ad H locs ls h1 h2 h3 h4 (z_ws_tail (z_ws_tail h5)) h6 h7) (fun q => kf q p l e R s mi args below meth c D ca A b Z hA ad H locs ls h1 h2 h3 h4 (z_ws_tail (z_ws_tail h5)) h6 h7)
theorem w_if_gt {x : Int32} {off : Int} (tgt : Nat) (hdg : decode (ze_cc E) pc = .ok (.ifCond .gt off, 3)) (ht : (pc : Int) + off = (tgt : Int)) (kt : 0 < x → Wp E Q tgt lv st m) (kf : ¬ 0 < x → Wp E Q (pc + 3) lv st m) : Wp E Q pc lv (.int x :: st) m := by
  intro p l e R s mi args below meth c D ca A b Z hA ad H locs ls h1 h2 h3 h4 h5 h6 h7
  have hx := hA.1
  have hb := hA.2.1
  exact lv_if_gt hx hb hdg ht (fun q => kt q p l e R s mi args below meth c D ca A b Z hA ad H locs ls h1 h2 h3 h4 (z_ws_tail h5) h6 h7) (fun q => kf q p l e R s mi args below meth c D ca A b Z hA ad H locs ls h1 h2 h3 h4 (z_ws_tail h5) h6 h7)
theorem w_icmp_gt {x y : Int32} {off : Int} (tgt : Nat) (hdg : decode (ze_cc E) pc = .ok (.if_icmp .gt off, 3)) (ht : (pc : Int) + off = (tgt : Int)) (kt : y < x → Wp E Q tgt lv st m) (kf : ¬ y < x → Wp E Q (pc + 3) lv st m) : Wp E Q pc lv (.int y :: .int x :: st) m := by
  intro p l e R s mi args below meth c D ca A b Z hA ad H locs ls h1 h2 h3 h4 h5 h6 h7
  have hx := hA.1
  have hb := hA.2.1
  exact lv_icmp_gt hx hb hdg ht (fun q => kt q p l e R s mi args below meth c D ca A b Z hA ad H locs ls h1 h2 h3 h4 (z_ws_tail (z_ws_tail h5)) h6 h7) (fun q => kf q p l e R s mi args below meth c D ca A b Z hA ad H locs ls h1 h2 h3 h4 (z_ws_tail (z_ws_tail h5)) h6 h7)
theorem w_if_le {x : Int32} {off : Int} (tgt : Nat) (hdg : decode (ze_cc E) pc = .ok (.ifCond .le off, 3)) (ht : (pc : Int) + off = (tgt : Int)) (kt : x ≤ 0 → Wp E Q tgt lv st m) (kf : ¬ x ≤ 0 → Wp E Q (pc + 3) lv st m) : Wp E Q pc lv (.int x :: st) m := by
  intro p l e R s mi args below meth c D ca A b Z hA ad H locs ls h1 h2 h3 h4 h5 h6 h7
  have hx := hA.1
  have hb := hA.2.1
  exact lv_if_le hx hb hdg ht (fun q => kt q p l e R s mi args below meth c D ca A b Z hA ad H locs ls h1 h2 h3 h4 (z_ws_tail h5) h6 h7) (fun q => kf q p l e R s mi args below meth c D ca A b Z hA ad H locs ls h1 h2 h3 h4 (z_ws_tail h5) h6 h7)
theorem w_icmp_le {x y : Int32} {off : Int} (tgt : Nat) (hdg : decode (ze_cc E) pc = .ok (.if_icmp .le off, 3)) (ht : (pc : Int) + off = (tgt : Int)) (kt : x ≤ y → Wp E Q tgt lv st m) (kf : ¬ x ≤ y → Wp E Q (pc + 3) lv st m) : Wp E Q pc lv (.int y :: .int x :: st) m := by
  intro p l e R s mi args below meth c D ca A b Z hA ad H locs ls h1 h2 h3 h4 h5 h6 h7
  have hx := hA.1
  have hb := hA.2.1
  exact lv_icmp_le hx hb hdg ht (fun q => kt q p l e R s mi args below meth c D ca A b Z hA ad H locs ls h1 h2 h3 h4 (z_ws_tail (z_ws_tail h5)) h6 h7) (fun q => kf q p l e R s mi args below meth c D ca A b Z hA ad H locs ls h1 h2 h3 h4 (z_ws_tail (z_ws_tail h5)) h6 h7)
theorem w_ifnull_r {x : Nat} {off : Int} (hdg : decode (ze_cc E) pc = .ok (.ifnull off, 3)) (k : Wp E Q (pc + 3) lv st m) : Wp E Q pc lv (.ref x :: st) m := by
  intro p l e R s mi args below meth c D ca A b Z hA ad H locs ls h1 h2 h3 h4 h5 h6 h7
  have hx := hA.1
  have hb := hA.2.1
  exact lv_ifnull hx hb hdg (k p l e R s mi args below meth c D ca A b Z hA ad H locs ls h1 h2 h3 h4 (z_ws_tail h5) h6 h7)
theorem w_ifnull_n {off : Int} (tgt : Nat) (hdg : decode (ze_cc E) pc = .ok (.ifnull off, 3)) (ht : (pc : Int) + off = (tgt : Int)) (k : Wp E Q tgt lv st m) : Wp E Q pc lv (.null :: st) m := by
  intro p l e R s mi args below meth c D ca A b Z hA ad H locs ls h1 h2 h3 h4 h5 h6 h7
  have hx := hA.1
  have hb := hA.2.1
  exact lv_ifnullN hx hb hdg ht (k p l e R s mi args below meth c D ca A b Z hA ad H locs ls h1 h2 h3 h4 (z_ws_tail h5) h6 h7)
theorem w_ifnonnull_r {x : Nat} {off : Int} (tgt : Nat) (hdg : decode (ze_cc E) pc = .ok (.ifnonnull off, 3)) (ht : (pc : Int) + off = (tgt : Int)) (k : Wp E Q tgt lv st m) : Wp E Q pc lv (.ref x :: st) m := by
  intro p l e R s mi args below meth c D ca A b Z hA ad H locs ls h1 h2 h3 h4 h5 h6 h7
  have hx := hA.1
  have hb := hA.2.1
  exact lv_ifnonnull hx hb hdg ht (k p l e R s mi args below meth c D ca A b Z hA ad H locs ls h1 h2 h3 h4 (z_ws_tail h5) h6 h7)
theorem w_ifnonnull_n {off : Int} (hdg : decode (ze_cc E) pc = .ok (.ifnonnull off, 3)) (k : Wp E Q (pc + 3) lv st m) : Wp E Q pc lv (.null :: st) m := by
  intro p l e R s mi args below meth c D ca A b Z hA ad H locs ls h1 h2 h3 h4 h5 h6 h7
  have hx := hA.1
  have hb := hA.2.1
  exact lv_ifnonnullN hx hb hdg (k p l e R s mi args below meth c D ca A b Z hA ad H locs ls h1 h2 h3 h4 (z_ws_tail h5) h6 h7)
theorem w_getI {idx id ci kf : Nat} (hdg : decode (ze_cc E) pc = .ok (.getfield idx, 3)) (hf : zm_fl (ze_own E) idx ci kf) (hn : id < m.2.2.2) (hs : zm_sh id = .inl ci) (ht : zm_T ci kf = .int ∨ zm_T ci kf = .boolean) (k : Wp E Q (pc + 3) lv (.int (m.1 id kf) :: st) m) : Wp E Q pc lv (.ref id :: st) m := by
  intro p l e R s mi args below meth c D ca A b Z hA ad H locs ls h1 h2 h3 h4 h5 h6 h7
  have hx := hA.1
  have hb := hA.2.1
  refine va_get hx hb hA.2.2.2.2.1 (zm_lays hf.1) hA.2.2.2.1 hA.2.2.2.2.2.2.2.2.1 h2.1 id (zm_W_obj ad ca m hn hs) (zm_cl hf.1) kf hf.2.1 (hA.2.2.2.2.1 _ hf.2.2) (fun _ q => q) (v := .int (m.1 id kf)) (zm_fI ad m id hf.2.1 ht) hdg ?_
  exact k p l e R s mi args below meth c D ca A b Z hA ad H locs ls h1 h2 h3 h4 (z_ws_cons trivial (z_ws_tail h5)) h6 h7
theorem w_getR {idx id ci kf j : Nat} (hdg : decode (ze_cc E) pc = .ok (.getfield idx, 3)) (hf : zm_fl (ze_own E) idx ci kf) (hn : id < m.2.2.2) (hs : zm_sh id = .inl ci) (ht : zm_rt (zm_T ci kf) = true) (hj : m.2.2.1 id kf = some j) (k : Wp E Q (pc + 3) lv (.ref j :: st) m) : Wp E Q pc lv (.ref id :: st) m := by
  intro p l e R s mi args below meth c D ca A b Z hA ad H locs ls h1 h2 h3 h4 h5 h6 h7
  have hx := hA.1
  have hb := hA.2.1
  refine va_get hx hb hA.2.2.2.2.1 (zm_lays hf.1) hA.2.2.2.1 hA.2.2.2.2.2.2.2.2.1 h2.1 id (zm_W_obj ad ca m hn hs) (zm_cl hf.1) kf hf.2.1 (hA.2.2.2.2.1 _ hf.2.2) (fun _ q => q) (v := .ref (ad j)) (zm_fR ad m id hf.2.1 ht hj) hdg ?_
  exact k p l e R s mi args below meth c D ca A b Z hA ad H locs ls h1 h2 h3 h4 (z_ws_cons (Or.inl (h2.2.2.1 _ _ _ hj)) (z_ws_tail h5)) h6 h7
theorem w_putI {idx id ci kf : Nat} {x : Int32} (hdg : decode (ze_cc E) pc = .ok (.putfield idx, 3)) (hf : zm_fl (ze_own E) idx ci kf) (hn : id < m.2.2.2) (hs : zm_sh id = .inl ci) (hfin : (zm_F ci kf).2.2.2 = false) (ht : zm_T ci kf = .int ∨ (zm_T ci kf = .boolean ∧ (x = 0 ∨ x = 1))) (k : Wp E Q (pc + 3) lv st (z_uI m id kf x)) : Wp E Q pc lv (.int x :: .ref id :: st) m := by
  intro p l e R s mi args below meth c D ca A b Z hA ad H locs ls h1 h2 h3 h4 h5 h6 h7
  have hx := hA.1
  have hb := hA.2.1
  obtain ⟨n1, n2⟩ := zm_nI ht
  refine va_put hx hb hA.2.2.2.2.1 (zm_lays hf.1) (zm_T ci) (zm_tyok hf.1) (zm_nm hf.1) hA.2.2.2.1 hA.2.2.2.2.2.2.2.2.1 h2.1 h2.2.1 h3 id (zm_W_obj ad ca m hn hs) (zm_cl hf.1) kf hf.2.1 (hA.2.2.2.2.1 _ hf.2.2) (fun _ q => q) hfin (zm_tyok hf.1 kf hf.2.1) n1 n2 (by simp; exact hf.2.1) hdg fun H1 locs1 q1 q2 q3 => ?_
  rw [show z_c ad (.int x) = .int x from rfl, zm_setI ad ca hn hs hf.2.1 (ht.imp (fun q => q) And.left)] at q1 q2
  exact k p l e R s mi args below meth c D ca A b Z hA ad H1 locs1 ls h1 ⟨q1, q2, h2.2.2⟩ q3 h4 (z_ws_tail (z_ws_tail h5)) h6 h7
theorem w_putFI {idx id ci kf : Nat} {x : Int32} (hdg : decode (ze_cc E) pc = .ok (.putfield idx, 3)) (hf : zm_fl (ze_own E) idx ci kf) (hn : id < m.2.2.2) (hs : zm_sh id = .inl ci) (hfin : (zm_F ci kf).2.2.2 = true) (hi : ze_ini E = true) (ho : (zm_F ci kf).1 = ze_own E) (ht : zm_T ci kf = .int) (k : Wp E Q (pc + 3) lv st (z_uI m id kf x)) : Wp E Q pc lv (.int x :: .ref id :: st) m := by
  intro p l e R s mi args below meth c D ca A b Z hA ad H locs ls h1 h2 h3 h4 h5 h6 h7
  have hx := hA.1
  have hb := hA.2.1
  obtain ⟨n1, n2⟩ := zm_nI (x := x) (Or.inl ht)
  refine va_putF hx hb hA.2.2.2.2.1 (zm_lays hf.1) (zm_T ci) (zm_tyok hf.1) (zm_nm hf.1) hA.2.2.2.1 hA.2.2.2.2.2.2.2.2.1 h2.1 h2.2.1 h3 id (zm_W_obj ad ca m hn hs) (zm_cl hf.1) kf hf.2.1 (hA.2.2.2.2.1 _ hf.2.2) (fun _ q => q) hfin (hA.2.2.2.2.2.2.2.2.2.2.2.1 hi) ho (zm_tyok hf.1 kf hf.2.1) n1 n2 (by simp; exact hf.2.1) hdg fun H1 locs1 q1 q2 q3 => ?_
  rw [show z_c ad (.int x) = .int x from rfl, zm_setI ad ca hn hs hf.2.1 (Or.inl ht)] at q1 q2
  exact k p l e R s mi args below meth c D ca A b Z hA ad H1 locs1 ls h1 ⟨q1, q2, h2.2.2⟩ q3 h4 (z_ws_tail (z_ws_tail h5)) h6 h7
theorem w_putFR {idx id ci kf j : Nat} (hdg : decode (ze_cc E) pc = .ok (.putfield idx, 3)) (hf : zm_fl (ze_own E) idx ci kf) (hn : id < m.2.2.2) (hs : zm_sh id = .inl ci) (hfin : (zm_F ci kf).2.2.2 = true) (hi : ze_ini E = true) (ho : (zm_F ci kf).1 = ze_own E) (ht : zm_rt (zm_T ci kf) = true) (hj : j < m.2.2.2) (k : Wp E Q (pc + 3) lv st (z_uR m id kf j)) : Wp E Q pc lv (.ref j :: .ref id :: st) m := by
  intro p l e R s mi args below meth c D ca A b Z hA ad H locs ls h1 h2 h3 h4 h5 h6 h7
  have hx := hA.1
  have hb := hA.2.1
  obtain ⟨n1, n2⟩ := zm_nR (ad j) ht
  refine va_putF hx hb hA.2.2.2.2.1 (zm_lays hf.1) (zm_T ci) (zm_tyok hf.1) (zm_nm hf.1) hA.2.2.2.1 hA.2.2.2.2.2.2.2.2.1 h2.1 h2.2.1 h3 id (zm_W_obj ad ca m hn hs) (zm_cl hf.1) kf hf.2.1 (hA.2.2.2.2.1 _ hf.2.2) (fun _ q => q) hfin (hA.2.2.2.2.2.2.2.2.2.2.2.1 hi) ho (zm_tyok hf.1 kf hf.2.1) n1 n2 (by simp; exact hf.2.1) hdg fun H1 locs1 q1 q2 q3 => ?_
  rw [show z_c ad (.ref j) = .ref (ad j) from rfl, zm_setR ad ca hn hs hf.2.1 ht] at q1 q2
  exact k p l e R s mi args below meth c D ca A b Z hA ad H1 locs1 ls h1 ⟨q1, q2, zm_wf_uR h2.2.2 hj⟩ q3 h4 (z_ws_tail (z_ws_tail h5)) h6 h7
theorem w_iald {id n : Nat} {i : Int32} (hdg : decode (ze_cc E) pc = .ok (.iaload, 1)) (hn : id < m.2.2.2) (hs : zm_sh id = .inr (.int, n)) (hi : vp_in i n) (k : Wp E Q (pc + 1) lv (.int (m.1 id i.toNatClampNeg) :: st) m) : Wp E Q pc lv (.int i :: .ref id :: st) m := by
  intro p l e R s mi args below meth c D ca A b Z hA ad H locs ls h1 h2 h3 h4 h5 h6 h7
  have hx := hA.1
  have hb := hA.2.1
  refine va_iald hx hb hA.2.2.2.2.2.2.2.2.1 h2.1 id 0 (zm_W_arr ad ca m hn hs) rfl hi hdg ?_
  exact k p l e R s mi args below meth c D ca A b Z hA ad H locs ls h1 h2 h3 h4 (z_ws_cons trivial (z_ws_tail (z_ws_tail h5))) h6 h7
theorem w_zald {id n : Nat} {i : Int32} (hdg : decode (ze_cc E) pc = .ok (.baload, 1)) (hn : id < m.2.2.2) (hs : zm_sh id = .inr (.boolean, n)) (hi : vp_in i n) (k : Wp E Q (pc + 1) lv (.int (m.1 id i.toNatClampNeg) :: st) m) : Wp E Q pc lv (.int i :: .ref id :: st) m := by
  intro p l e R s mi args below meth c D ca A b Z hA ad H locs ls h1 h2 h3 h4 h5 h6 h7
  have hx := hA.1
  have hb := hA.2.1
  refine va_zald hx hb hA.2.2.2.2.2.2.2.2.1 h2.1 id 1 (zm_W_arr ad ca m hn hs) rfl hi hdg ?_
  exact k p l e R s mi args below meth c D ca A b Z hA ad H locs ls h1 h2 h3 h4 (z_ws_cons trivial (z_ws_tail (z_ws_tail h5))) h6 h7
theorem w_lald {id n : Nat} {i : Int32} (hdg : decode (ze_cc E) pc = .ok (.laload, 1)) (hn : id < m.2.2.2) (hs : zm_sh id = .inr (.long, n)) (hi : vp_in i n) (k : Wp E Q (pc + 1) lv (.long (m.2.1 id i.toNatClampNeg) :: st) m) : Wp E Q pc lv (.int i :: .ref id :: st) m := by
  intro p l e R s mi args below meth c D ca A b Z hA ad H locs ls h1 h2 h3 h4 h5 h6 h7
  have hx := hA.1
  have hb := hA.2.1
  refine va_lald hx hb hA.2.2.2.2.2.2.2.2.1 h2.1 id 2 (zm_W_arr ad ca m hn hs) rfl hi hdg ?_
  exact k p l e R s mi args below meth c D ca A b Z hA ad H locs ls h1 h2 h3 h4 (z_ws_cons trivial (z_ws_tail (z_ws_tail h5))) h6 h7
theorem w_aald {id n j : Nat} {i : Int32} (hdg : decode (ze_cc E) pc = .ok (.aaload, 1)) (hn : id < m.2.2.2) (hs : zm_sh id = .inr (.object "TornReeds$Bit", n)) (hi : vp_in i n) (hj : m.2.2.1 id i.toNatClampNeg = some j) (k : Wp E Q (pc + 1) lv (.ref j :: st) m) : Wp E Q pc lv (.int i :: .ref id :: st) m := by
  intro p l e R s mi args below meth c D ca A b Z hA ad H locs ls h1 h2 h3 h4 h5 h6 h7
  have hx := hA.1
  have hb := hA.2.1
  refine va_aldq hx hb hA.2.2.2.2.2.2.2.2.1 h2.1 id 3 (zm_W_arr ad ca m hn hs) rfl hi hdg ?_
  rw [hj]
  exact k p l e R s mi args below meth c D ca A b Z hA ad H locs ls h1 h2 h3 h4 (z_ws_cons (Or.inl (h2.2.2.1 _ _ _ hj)) (z_ws_tail (z_ws_tail h5))) h6 h7
theorem w_gald {id n j : Nat} {i : Int32} (hdg : decode (ze_cc E) pc = .ok (.aaload, 1)) (hn : id < m.2.2.2) (hs : zm_sh id = .inr (.array .long, n)) (hi : vp_in i n) (hj : m.2.2.1 id i.toNatClampNeg = some j) (k : Wp E Q (pc + 1) lv (.ref j :: st) m) : Wp E Q pc lv (.int i :: .ref id :: st) m := by
  intro p l e R s mi args below meth c D ca A b Z hA ad H locs ls h1 h2 h3 h4 h5 h6 h7
  have hx := hA.1
  have hb := hA.2.1
  have ha := zm_W_arr ad ca m hn hs
  have hlt : i.toNatClampNeg < n := Nat.not_le.mp fun q => hi (Or.inr q)
  refine W.aald (v := .ref (ad j)) (ty := .array .long) hx hb (h2.1 id _ ha) ((hA.2.2.2.2.2.2.2.2.1.2 4 _ rfl).1 n (fun q => va_rf ((m.2.2.1 id q).map ad))) rfl (fun q => by cases q) (by show ¬ (i < 0 ∨ (arrV _ _ _).slots.size ≤ _); rw [arrV_size]; exact hi) (by show (arrV (ca (.array .long)) n (fun q => va_rf ((m.2.2.1 id q).map ad))).slots[_]? = _; rw [arrV_read _ _ hlt]; simp only [hj]; rfl) rfl rfl hdg ?_
  exact k p l e R s mi args below meth c D ca A b Z hA ad H locs ls h1 h2 h3 h4 (z_ws_cons (Or.inl (h2.2.2.1 _ _ _ hj)) (z_ws_tail (z_ws_tail h5))) h6 h7
theorem w_iast {id n : Nat} {i x : Int32} (hdg : decode (ze_cc E) pc = .ok (.iastore, 1)) (hn : id < m.2.2.2) (hs : zm_sh id = .inr (.int, n)) (hi : vp_in i n) (k : Wp E Q (pc + 1) lv st (z_uI m id i.toNatClampNeg x)) : Wp E Q pc lv (.int x :: .int i :: .ref id :: st) m := by
  intro p l e R s mi args below meth c D ca A b Z hA ad H locs ls h1 h2 h3 h4 h5 h6 h7
  have hx := hA.1
  have hb := hA.2.1
  refine va_iast hx hb hA.2.2.2.2.2.2.2.2.1 h2.1 h2.2.1 h3 id 0 (zm_W_arr ad ca m hn hs) rfl hi hdg fun H1 locs1 q1 q2 q3 => ?_
  rw [zm_setAI ad ca hn hs] at q1 q2
  exact k p l e R s mi args below meth c D ca A b Z hA ad H1 locs1 ls h1 ⟨q1, q2, h2.2.2⟩ q3 h4 (z_ws_tail (z_ws_tail (z_ws_tail h5))) h6 h7
theorem w_zast {id n : Nat} {i x : Int32} (hdg : decode (ze_cc E) pc = .ok (.bastore, 1)) (hn : id < m.2.2.2) (hs : zm_sh id = .inr (.boolean, n)) (hi : vp_in i n) (h01 : x = 0 ∨ x = 1) (k : Wp E Q (pc + 1) lv st (z_uI m id i.toNatClampNeg x)) : Wp E Q pc lv (.int x :: .int i :: .ref id :: st) m := by
  intro p l e R s mi args below meth c D ca A b Z hA ad H locs ls h1 h2 h3 h4 h5 h6 h7
  have hx := hA.1
  have hb := hA.2.1
  refine va_zast hx hb hA.2.2.2.2.2.2.2.2.1 h2.1 h2.2.1 h3 id 1 (zm_W_arr ad ca m hn hs) rfl hi hdg fun H1 locs1 q1 q2 q3 => ?_
  rw [zm_narZ h01, zm_setAZ ad ca hn hs] at q1 q2
  exact k p l e R s mi args below meth c D ca A b Z hA ad H1 locs1 ls h1 ⟨q1, q2, h2.2.2⟩ q3 h4 (z_ws_tail (z_ws_tail (z_ws_tail h5))) h6 h7
theorem w_last {id n : Nat} {i : Int32} {x : Int64} (hdg : decode (ze_cc E) pc = .ok (.lastore, 1)) (hn : id < m.2.2.2) (hs : zm_sh id = .inr (.long, n)) (hi : vp_in i n) (k : Wp E Q (pc + 1) lv st (z_uJ m id i.toNatClampNeg x)) : Wp E Q pc lv (.long x :: .int i :: .ref id :: st) m := by
  intro p l e R s mi args below meth c D ca A b Z hA ad H locs ls h1 h2 h3 h4 h5 h6 h7
  have hx := hA.1
  have hb := hA.2.1
  refine va_last hx hb hA.2.2.2.2.2.2.2.2.1 h2.1 h2.2.1 h3 id 2 (zm_W_arr ad ca m hn hs) rfl hi hdg fun H1 locs1 q1 q2 q3 => ?_
  rw [zm_setAJ ad ca hn hs] at q1 q2
  exact k p l e R s mi args below meth c D ca A b Z hA ad H1 locs1 ls h1 ⟨q1, q2, h2.2.2⟩ q3 h4 (z_ws_tail (z_ws_tail (z_ws_tail h5))) h6 h7
theorem w_aast {id n j : Nat} {i : Int32} (hdg : decode (ze_cc E) pc = .ok (.aastore, 1)) (hn : id < m.2.2.2) (hs : zm_sh id = .inr (.object "TornReeds$Bit", n)) (hi : vp_in i n) (hj : j < m.2.2.2) (hsj : zm_sh j = .inl 0) (k : Wp E Q (pc + 1) lv st (z_uR m id i.toNatClampNeg j)) : Wp E Q pc lv (.ref j :: .int i :: .ref id :: st) m := by
  intro p l e R s mi args below meth c D ca A b Z hA ad H locs ls h1 h2 h3 h4 h5 h6 h7
  have hx := hA.1
  have hb := hA.2.1
  refine va_astq (r := (RX0, TX0, 16)) hx hb hA.2.2.2.2.2.2.2.2.1 h2.1 h2.2.1 h3 id 3 j 0 (zm_W_arr ad ca m hn hs) rfl (zm_W_obj ad ca m hj hsj) rfl hi hdg fun H1 locs1 q1 q2 q3 => ?_
  rw [zm_setAR ad ca hn hs] at q1 q2
  exact k p l e R s mi args below meth c D ca A b Z hA ad H1 locs1 ls h1 ⟨q1, q2, zm_wf_uR h2.2.2 hj⟩ q3 h4 (z_ws_tail (z_ws_tail (z_ws_tail h5))) h6 h7
theorem w_alen0 {id n : Nat} {v : Int32} (hdg : decode (ze_cc E) pc = .ok (.arraylength, 1)) (hn : id < m.2.2.2) (hs : zm_sh id = .inr (.int, n)) (hv : Int32.ofNat n = v) (k : Wp E Q (pc + 1) lv (.int v :: st) m) : Wp E Q pc lv (.ref id :: st) m := by
  intro p l e R s mi args below meth c D ca A b Z hA ad H locs ls h1 h2 h3 h4 h5 h6 h7
  have hx := hA.1
  have hb := hA.2.1
  refine va_alen hx hb hA.2.2.2.2.2.2.2.2.1 h2.1 id 0 (zm_W_arr ad ca m hn hs) rfl hv hdg ?_
  exact k p l e R s mi args below meth c D ca A b Z hA ad H locs ls h1 h2 h3 h4 (z_ws_cons trivial (z_ws_tail h5)) h6 h7
theorem w_alen1 {id n : Nat} {v : Int32} (hdg : decode (ze_cc E) pc = .ok (.arraylength, 1)) (hn : id < m.2.2.2) (hs : zm_sh id = .inr (.boolean, n)) (hv : Int32.ofNat n = v) (k : Wp E Q (pc + 1) lv (.int v :: st) m) : Wp E Q pc lv (.ref id :: st) m := by
  intro p l e R s mi args below meth c D ca A b Z hA ad H locs ls h1 h2 h3 h4 h5 h6 h7
  have hx := hA.1
  have hb := hA.2.1
  refine va_alen hx hb hA.2.2.2.2.2.2.2.2.1 h2.1 id 1 (zm_W_arr ad ca m hn hs) rfl hv hdg ?_
  exact k p l e R s mi args below meth c D ca A b Z hA ad H locs ls h1 h2 h3 h4 (z_ws_cons trivial (z_ws_tail h5)) h6 h7
theorem w_alen2 {id n : Nat} {v : Int32} (hdg : decode (ze_cc E) pc = .ok (.arraylength, 1)) (hn : id < m.2.2.2) (hs : zm_sh id = .inr (.long, n)) (hv : Int32.ofNat n = v) (k : Wp E Q (pc + 1) lv (.int v :: st) m) : Wp E Q pc lv (.ref id :: st) m := by
  intro p l e R s mi args below meth c D ca A b Z hA ad H locs ls h1 h2 h3 h4 h5 h6 h7
  have hx := hA.1
  have hb := hA.2.1
  refine va_alen hx hb hA.2.2.2.2.2.2.2.2.1 h2.1 id 2 (zm_W_arr ad ca m hn hs) rfl hv hdg ?_
  exact k p l e R s mi args below meth c D ca A b Z hA ad H locs ls h1 h2 h3 h4 (z_ws_cons trivial (z_ws_tail h5)) h6 h7
theorem w_sld {L : Nat} {xs : Nat → Int32} {i : Int32} (hdg : decode (ze_cc E) pc = .ok (.iaload, 1)) (hs : ze_scr E = some (L, xs)) (hi : vp_in i L) (k : Wp E Q (pc + 1) lv (.int (xs i.toNatClampNeg) :: st) m) : Wp E Q pc lv (.int i :: .ref 1000 :: st) m := by
  intro p l e R s mi args below meth c D ca A b Z hA ad H locs ls h1 h2 h3 h4 h5 h6 h7
  have hx := hA.1
  have hb := hA.2.1
  obtain ⟨x1, x2, x3⟩ := hA.2.2.2.2.2.2.2.2.2.2.2.2.1 _ hs
  rw [← h1 1000 (Or.inr rfl)] at x1 x2 x3
  refine va_sld hx hb x1 x2 x3 h3 hi hdg ?_
  exact k p l e R s mi args below meth c D ca A b Z hA ad H locs ls h1 h2 h3 h4 (z_ws_cons trivial (z_ws_tail (z_ws_tail h5))) h6 h7
theorem w_slen {L : Nat} {xs : Nat → Int32} (hdg : decode (ze_cc E) pc = .ok (.arraylength, 1)) (hs : ze_scr E = some (L, xs)) (k : Wp E Q (pc + 1) lv (.int (nI L) :: st) m) : Wp E Q pc lv (.ref 1000 :: st) m := by
  intro p l e R s mi args below meth c D ca A b Z hA ad H locs ls h1 h2 h3 h4 h5 h6 h7
  have hx := hA.1
  have hb := hA.2.1
  obtain ⟨x1, x2, x3⟩ := hA.2.2.2.2.2.2.2.2.2.2.2.2.1 _ hs
  rw [← h1 1000 (Or.inr rfl)] at x1 x2 x3
  refine va_slen hx hb x1 x2 x3 h3 hdg ?_
  exact k p l e R s mi args below meth c D ca A b Z hA ad H locs ls h1 h2 h3 h4 (z_ws_cons trivial (z_ws_tail h5)) h6 h7
end WI
