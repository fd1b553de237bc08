/-! MAKING ALL: d cells are made behind m, with ints F and references G -/
def I0 (id k : Nat) : Int32 := if id = 143 then (if k < 512 then iI 95 else 0) else if id = 144 then (if k < 512 then iI (-1) else 0) else if (4 ≤ id ∧ id < 134) ∧ (id - 4) % 13 = 0 ∧ k = 0 then iI (((id - 4) / 13 : Nat) : Int) else 0
def mk (m : zM) (F : Nat → Nat → Int32) (G : Nat → Nat → Option Nat) (d : Nat) : zM := (fun i k => if m.2.2.2 ≤ i ∧ i < m.2.2.2 + d then F i k else m.1 i k, fun i k => if m.2.2.2 ≤ i ∧ i < m.2.2.2 + d then 0 else m.2.1 i k, fun i k => if m.2.2.2 ≤ i ∧ i < m.2.2.2 + d then G i k else m.2.2.1 i k, m.2.2.2 + d)
theorem mk_0 (m : zM) (F : Nat → Nat → Int32) (G : Nat → Nat → Option Nat) : mk m F G 0 = m := by
  obtain ⟨a, b, c, n⟩ := m
  unfold mk
  refine Prod.ext (funext fun i => funext fun k => if_neg (by simp only; omega)) (Prod.ext (funext fun i => funext fun k => if_neg (by simp only; omega)) (Prod.ext (funext fun i => funext fun k => if_neg (by simp only; omega)) rfl))
theorem mk_if {α : Type} {n d i : Nat} {x y z : α} (h : i = n + d → x = z) (h2 : ¬ i = n + d → x = y) (w : α) : (if i = n + d then z else if n ≤ i ∧ i < n + d then y else w) = if n ≤ i ∧ i < n + (d + 1) then x else w := by
  by_cases e : i = n + d
  · rw [if_pos e, if_pos (by omega), h e]
  · rw [if_neg e, h2 e]
    by_cases g : n ≤ i ∧ i < n + d
    · rw [if_pos g, if_pos (by omega)]
    · rw [if_neg g, if_neg (by omega)]
theorem mk_new {m : zM} {F : Nat → Nat → Int32} {G : Nat → Nat → Option Nat} {d id : Nat} (hid : m.2.2.2 + d = id) (hF : ∀ k, F id k = 0) (hG : ∀ k, G id k = none) : z_new (mk m F G d) = mk m F G (d + 1) := by
  subst hid
  obtain ⟨a, b, c, n⟩ := m
  refine Prod.ext (funext fun i => funext fun k => ?_) (Prod.ext (funext fun i => funext fun k => ?_) (Prod.ext (funext fun i => funext fun k => ?_) rfl))
  · exact mk_if (n := n) (d := d) (i := i) (x := F i k) (y := F i k) (z := 0) (fun e => by rw [e]; exact hF k) (fun _ => rfl) (a i k)
  · exact mk_if (n := n) (d := d) (i := i) (x := (0 : Int64)) (y := 0) (z := 0) (fun e => rfl) (fun _ => rfl) (b i k)
  · exact mk_if (n := n) (d := d) (i := i) (x := G i k) (y := G i k) (z := none) (fun e => by rw [e]; exact hG k) (fun _ => rfl) (c i k)
theorem mk_if2 {α : Type} {n d e i : Nat} {x y : α} (h : n + d ≤ i → i < n + d + e → x = y) (w : α) : (if n + d ≤ i ∧ i < n + d + e then y else if n ≤ i ∧ i < n + d then x else w) = if n ≤ i ∧ i < n + (d + e) then x else w := by
  by_cases g : n + d ≤ i ∧ i < n + d + e
  · rw [if_pos g, if_pos (by omega), h g.1 g.2]
  · rw [if_neg g]
    by_cases g2 : n ≤ i ∧ i < n + d
    · rw [if_pos g2, if_pos (by omega)]
    · rw [if_neg g2, if_neg (by omega)]
theorem mk_mk {m : zM} {F F' : Nat → Nat → Int32} {G G' : Nat → Nat → Option Nat} {d e : Nat} (h : ∀ i, m.2.2.2 + d ≤ i → i < m.2.2.2 + d + e → ∀ k, F i k = F' i k ∧ G i k = G' i k) : mk (mk m F G d) F' G' e = mk m F G (d + e) := by
  obtain ⟨a, b, c, n⟩ := m
  refine Prod.ext (funext fun i => funext fun k => ?_) (Prod.ext (funext fun i => funext fun k => ?_) (Prod.ext (funext fun i => funext fun k => ?_) (Nat.add_assoc _ _ _)))
  · exact mk_if2 (n := n) (fun h1 h2 => (h i h1 h2 k).1) (a i k)
  · exact mk_if2 (n := n) (x := (0 : Int64)) (y := 0) (fun h1 h2 => rfl) (b i k)
  · exact mk_if2 (n := n) (fun h1 h2 => (h i h1 h2 k).2) (c i k)
theorem mk_cg {m : zM} {F F' : Nat → Nat → Int32} {G G' : Nat → Nat → Option Nat} {d : Nat} (h : ∀ i, m.2.2.2 ≤ i → i < m.2.2.2 + d → ∀ k, F i k = F' i k ∧ G i k = G' i k) : mk m F G d = mk m F' G' d := by
  unfold mk
  refine Prod.ext (funext fun i => funext fun k => ?_) (Prod.ext rfl (Prod.ext (funext fun i => funext fun k => ?_) rfl))
  · by_cases g : m.2.2.2 ≤ i ∧ i < m.2.2.2 + d
    · simp only [if_pos g]; exact (h i g.1 g.2 k).1
    · simp only [if_neg g]
  · by_cases g : m.2.2.2 ≤ i ∧ i < m.2.2.2 + d
    · simp only [if_pos g]; exact (h i g.1 g.2 k).2
    · simp only [if_neg g]
theorem mk_uR {m : zM} {F : Nat → Nat → Int32} {G : Nat → Nat → Option Nat} {d a k j : Nat} (h1 : m.2.2.2 ≤ a) (h2 : a < m.2.2.2 + d) : z_uR (mk m F G d) a k j = mk m F (z_u G a k (some j)) d := by
  refine Prod.ext rfl (Prod.ext rfl (Prod.ext (funext fun i => funext fun q => ?_) rfl))
  show z_u _ a k (some j) i q = if m.2.2.2 ≤ i ∧ i < m.2.2.2 + d then z_u G a k (some j) i q else m.2.2.1 i q
  unfold z_u
  by_cases e : i = a ∧ q = k
  · rw [if_pos e, if_pos e, if_pos (by omega)]
  · rw [if_neg e, if_neg e]; rfl
theorem mk_uI {m : zM} {F : Nat → Nat → Int32} {G : Nat → Nat → Option Nat} {d a k : Nat} {x : Int32} (h1 : m.2.2.2 ≤ a) (h2 : a < m.2.2.2 + d) : z_uI (mk m F G d) a k x = mk m (z_u F a k x) G d := by
  refine Prod.ext (funext fun i => funext fun q => ?_) rfl
  show z_u _ a k x i q = if m.2.2.2 ≤ i ∧ i < m.2.2.2 + d then z_u F a k x i q else m.1 i q
  unfold z_u
  by_cases e : i = a ∧ q = k
  · rw [if_pos e, if_pos e, if_pos (by omega)]
  · rw [if_neg e, if_neg e]; rfl
/-- row a is f, the others are as they will be -/
def gA (a : Nat) (f : Nat → Option Nat) : Nat → Nat → Option Nat := fun i k => if i = a then f k else R0 i k
def z_f (f : Nat → Option Nat) (k j : Nat) : Nat → Option Nat := fun i => if i = k then some j else f i
theorem gA_ne {a i k : Nat} {f : Nat → Option Nat} (h : ¬ i = a) : gA a f i k = R0 i k := if_neg h
theorem gA_eq {a k : Nat} {f : Nat → Option Nat} : gA a f a k = f k := if_pos rfl
theorem gA_u {a k j : Nat} {f : Nat → Option Nat} : z_u (gA a f) a k (some j) = gA a (z_f f k j) := by
  funext i q
  unfold z_u gA z_f
  by_cases e : i = a
  · by_cases e2 : q = k
    · rw [if_pos ⟨e, e2⟩, if_pos e, if_pos e2]
    · rw [if_neg (fun u => e2 u.2), if_pos e, if_pos e, if_neg e2]
  · rw [if_neg (fun u => e u.1), if_neg e, if_neg e]
def fA (a : Nat) (g : Nat → Int32) : Nat → Nat → Int32 := fun i k => if i = a then g k else I0 i k
def gA2 (a : Nat) (f : Nat → Option Nat) (G : Nat → Nat → Option Nat) : Nat → Nat → Option Nat := fun i k => if i = a then f k else G i k
theorem fA_ne {a i k : Nat} {g : Nat → Int32} (h : ¬ i = a) : fA a g i k = I0 i k := if_neg h
theorem gA_all {a : Nat} {f : Nat → Option Nat} (h : ∀ k, f k = R0 a k) (i k : Nat) : gA a f i k = R0 i k := by
  unfold gA
  by_cases e : i = a
  · rw [if_pos e, h k, e]
  · rw [if_neg e]
theorem cl_c {y : MethodName} {K : zK} {as : List Value} {m : zM} {F : Option Value → zM → Prop} {F0 : Nat → Nat → Int32} {a : Nat} (hm : m.2.2.2 = a) (hF : ∀ k, F0 a k = 0) (hini : y.name = "<init>") (hpl : plainName y.cls = true) (hh : 1 ≤ zk_h K) (hlen : (lg_sl as).length ≤ K.2.1) (hret : K.2.2.1 = none) (k : Wp (zk_E K y.cls (a + 1) true) F 0 (lv_args 0 as) [] (mk m F0 (gA a fun _ => none) 1)) : Cl y K as (z_new m) F := by
  have e0 := mk_new (m := m) (F := F0) (G := gA a fun _ => none) (d := 0) (id := a) hm hF (fun k => gA_eq)
  rw [mk_0] at e0
  refine cl_of true (fun _ => hini) hpl hh hlen (fun t ht => by rw [hret] at ht; cases ht) ?_
  rw [e0]
  have e1 : (mk m F0 (gA a fun _ => none) (0 + 1)).2.2.2 = a + 1 := by show m.2.2.2 + 1 = a + 1; rw [hm]
  rw [e1]
  exact k
section MK
variable {E : zE} {Q : Option Value → zM → Prop} {pc : Nat} {lv : List (Nat × Value)} {st : List Value} {m : zM} {F : Nat → Nat → Int32} {G : Nat → Nat → Option Nat} {d : Nat}
theorem c_arr {atype : ArrayType} {ty : FieldType} {n : Int32} {N : Nat} (id : Nat) (hid : m.2.2.2 + d = id) (hdg : decode (ze_cc E) pc = .ok (.newarray atype, 2)) (hty : newarray.typeOf atype = ty) (h3t : ty = .int ∨ ty = .boolean ∨ ty = .long) (harr : Cond.arrayClass ty ∈ zm_g) (hs : zm_sh id = .inr (ty, N)) (hn0 : ¬ n < 0) (hN : n.toNatClampNeg = N) (hby : N ≤ 512) (hn : id + 1 ≤ ze_n0 E + ze_mc E) (h190 : id < 190) (hF : ∀ k, F id k = 0) (hG : ∀ k, G id k = none) (k : Wp E Q (pc + 2) lv (.ref id :: st) (mk m F G (d + 1))) : Wp E Q pc lv (.int n :: st) (mk m F G d) := by
  refine w_newarr hdg hty h3t harr (show zm_sh (m.2.2.2 + d) = _ by rw [hid]; exact hs) hn0 hN hby (show m.2.2.2 + d + 1 ≤ _ by rw [hid]; exact hn) (show m.2.2.2 + d < 190 by rw [hid]; exact h190) ?_
  rw [mk_new hid hF hG, show (mk m F G d).2.2.2 = id from hid]
  exact k
theorem c_put {idx ci kf a j : Nat} {f : Nat → Option Nat} (hdg : decode (ze_cc E) pc = .ok (.putfield idx, 3)) (hf : zm_fl (ze_own E) idx ci kf) (hs : zm_sh a = .inl ci) (hfin : (zm_F ci kf).2.2.2 = true) (hi : ze_ini E = true) (ho : (zm_F ci kf).1 = ze_own E) (ht : zm_rt (zm_T ci kf) = true) (h1 : m.2.2.2 ≤ a) (h2 : a < m.2.2.2 + d) (hj : j < m.2.2.2 + d) (k : Wp E Q (pc + 3) lv st (mk m F (gA a (z_f f kf j)) d)) : Wp E Q pc lv (.ref j :: .ref a :: st) (mk m F (gA a f) d) := by
  refine w_putFR hdg hf h2 hs hfin hi ho ht hj ?_
  rw [mk_uR h1 h2, gA_u]
  exact k
theorem c_new {idx ci : Nat} (id : Nat) (hid : m.2.2.2 + d = id) (hdg : decode (ze_cc E) pc = .ok (.new idx, 3)) (hci : ci < 13) (hl : Cond.classLink (ze_own E) idx (zm_C ci) ∈ zm_g) (hi : Cond.instantiable (zm_C ci) (zm_N ci) ∈ zm_g) (hini : Cond.initialized (zm_C ci) ∈ zm_g) (hs : zm_sh id = .inl ci) (hn : id + 1 ≤ ze_n0 E + ze_mc E) (h190 : id < 190) (k : Wp E Q (pc + 3) lv (.ref id :: st) (z_new (mk m F G d))) : Wp E Q pc lv st (mk m F G d) := by
  refine w_new hdg hci hl hi hini (show zm_sh (m.2.2.2 + d) = _ by rw [hid]; exact hs) (show m.2.2.2 + d + 1 ≤ _ by rw [hid]; exact hn) (show m.2.2.2 + d < 190 by rw [hid]; exact h190) ?_
  rw [show (mk m F G d).2.2.2 = id from hid]
  exact k
theorem c_ini {idx id np e : Nat} {y : MethodName} {K : zK} {as st0 : List Value} (hid : m.2.2.2 + d = id) (hdg : decode (ze_cc E) pc = .ok (.invokespecial idx, 3)) (hl : Cond.methodLink (ze_own E) idx y ∈ zm_g) (hy : zm_yi y K np) (hh : zk_h K + 1 ≤ ze_h E) (hlen : as.length = np) (hst : st0 = as.reverse ++ .ref id :: st) (hw : (st.map fun v => v.category).sum ≤ 8) (hn : id + 1 + zk_mc K ≤ ze_n0 E + ze_mc E) (hc : Cl y K (.ref id :: as) (z_new (mk m F G d)) (fun r m' => r = none ∧ m' = mk (mk m F G d) I0 R0 e)) (hag : ∀ i, m.2.2.2 + d ≤ i → i < m.2.2.2 + d + e → ∀ k, F i k = I0 i k ∧ G i k = R0 i k) (k : Wp E Q (pc + 3) lv st (mk m F G (d + e))) : Wp E Q pc lv st0 (z_new (mk m F G d)) := by
  refine w_callI hdg hl hy hh hlen hst hw (show m.2.2.2 + d + 1 + zk_mc K ≤ _ by rw [hid]; exact hn) (cl_mono hc (fun r m' _ h => ?_))
  rw [h.1, h.2, mk_mk hag]
  exact k
theorem c_inN {idx id np e : Nat} {y : MethodName} {K : zK} {as st0 : List Value} {host : String} (hid : m.2.2.2 + d = id) (hdg : decode (ze_cc E) pc = .ok (.invokespecial idx, 3)) (hl : Cond.methodLinkNest (ze_own E) idx y host ∈ zm_nest) (hy : zm_yi y K np) (hh : zk_h K + 1 ≤ ze_h E) (hlen : as.length = np) (hst : st0 = as.reverse ++ .ref id :: st) (hw : (st.map fun v => v.category).sum ≤ 8) (hn : id + 1 + zk_mc K ≤ ze_n0 E + ze_mc E) (hc : Cl y K (.ref id :: as) (z_new (mk m F G d)) (fun r m' => r = none ∧ m' = mk (mk m F G d) I0 R0 e)) (hag : ∀ i, m.2.2.2 + d ≤ i → i < m.2.2.2 + d + e → ∀ k, F i k = I0 i k ∧ G i k = R0 i k) (k : Wp E Q (pc + 3) lv st (mk m F G (d + e))) : Wp E Q pc lv st0 (z_new (mk m F G d)) := by
  refine w_callIN hdg hl hy hh hlen hst hw (show m.2.2.2 + d + 1 + zk_mc K ≤ _ by rw [hid]; exact hn) (cl_mono hc (fun r m' _ h => ?_))
  rw [h.1, h.2, mk_mk hag]
  exact k
theorem c_ret (hdg : decode (ze_cc E) pc = .ok (.return_, 1)) (hr : ze_ret E = none) (hn : m.2.2.2 + d = ze_n0 E + ze_mc E) (hQ : ∀ m', m' = mk m I0 R0 d → Q none m') (hag : ∀ i, m.2.2.2 ≤ i → i < m.2.2.2 + d → ∀ k, F i k = I0 i k ∧ G i k = R0 i k) : Wp E Q pc lv [] (mk m F G d) := w_ret none hdg (by rw [hr]; trivial) hn (by rw [mk_cg hag]; exact hQ _ rfl)
end MK
theorem r0_ge {i k : Nat} (h : 190 ≤ i) : R0 i k = none := by
  unfold R0
  rw [if_neg (by omega), if_neg (by omega)]
  unfold R0r
  split <;> first | rfl | omega
/-- what the law finds when both objects are made -/
def mS : zM := (fun _ _ => 0, fun _ _ => 0, fun _ _ => none, 0)
theorem mk_all : mk mS I0 R0 190 = gM I0 (fun _ _ => 0) := by
  unfold mk gM
  refine Prod.ext (funext fun i => funext fun k => ?_) (Prod.ext (funext fun i => funext fun k => ?_) (Prod.ext (funext fun i => funext fun k => ?_) rfl))
  · show (if 0 ≤ i ∧ i < 0 + 190 then I0 i k else 0) = I0 i k
    by_cases g : 0 ≤ i ∧ i < 0 + 190
    · rw [if_pos g]
    · rw [if_neg g]
      unfold I0
      rw [if_neg (by omega), if_neg (by omega), if_neg (by omega)]
  · show (if 0 ≤ i ∧ i < 0 + 190 then (0 : Int64) else 0) = 0
    exact ite_self _
  · show (if 0 ≤ i ∧ i < 0 + 190 then R0 i k else none) = R0 i k
    by_cases g : 0 ≤ i ∧ i < 0 + 190
    · rw [if_pos g]
    · rw [if_neg g, r0_ge (by omega)]
