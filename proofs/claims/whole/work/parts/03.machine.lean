/-! THE MACHINE IN ONE MEMORY. Cells have numbers (ids, in the order in which they are made); zM: ints, longs, references by (id, place), and how many cells there are. -/
abbrev zM : Type := (Nat → Nat → Int32) × (Nat → Nat → Int64) × (Nat → Nat → Option Nat) × Nat
abbrev zS : Type := Nat ⊕ (FieldType × Nat)
def zm_T (ci k : Nat) : FieldType := match ci with
  | 0 => tyX0 k | 1 => tyX1 k | 2 => tyX2 k | 3 => tyX3 k | 4 => tyX4 k | 5 => tyX5 k | 6 => tyX6 k | 7 => tyX7 k | 8 => tyX8 k | 9 => tyX9 k | 10 => tyX10 k | 11 => tyX11 k | _ => tyX12 k
def zm_N (ci : Nat) : Nat := match ci with
  | 0 => 16 | 1 => 2 | 2 => 2 | 3 => 2 | 4 => 3 | 5 => 5 | 6 => 2 | 7 => 7 | 8 => 5 | 9 => 2 | 10 => 6 | 11 => 7 | _ => 30
def zm_C (ci : Nat) : String := match ci with
  | 0 => RX0 | 1 => RX1 | 2 => RX2 | 3 => RX3 | 4 => RX4 | 5 => RX5 | 6 => RX6 | 7 => RX7 | 8 => RX8 | 9 => RX9 | 10 => RX10 | 11 => RX11 | _ => RX12
def zm_F (ci : Nat) : u_T := match ci with
  | 0 => TX0 | 1 => TX1 | 2 => TX2 | 3 => TX3 | 4 => TX4 | 5 => TX5 | 6 => TX6 | 7 => TX7 | 8 => TX8 | 9 => TX9 | 10 => TX10 | 11 => TX11 | _ => TX12
theorem zm_cl {ci : Nat} (h : ci < 13) : vwCl[ci]? = some (zm_C ci, zm_F ci, zm_N ci) := by
  match ci, h with
  | 0, _ => rfl
  | 1, _ => rfl
  | 2, _ => rfl
  | 3, _ => rfl
  | 4, _ => rfl
  | 5, _ => rfl
  | 6, _ => rfl
  | 7, _ => rfl
  | 8, _ => rfl
  | 9, _ => rfl
  | 10, _ => rfl
  | 11, _ => rfl
  | 12, _ => rfl
theorem zm_tyok {ci : Nat} (h : ci < 13) : ∀ k, k < zm_N ci → parseFieldDescriptor (zm_F ci k).2.2.1 = some (zm_T ci k) := by
  match ci, h with
  | 0, _ => exact tyX0_ok
  | 1, _ => exact tyX1_ok
  | 2, _ => exact tyX2_ok
  | 3, _ => exact tyX3_ok
  | 4, _ => exact tyX4_ok
  | 5, _ => exact tyX5_ok
  | 6, _ => exact tyX6_ok
  | 7, _ => exact tyX7_ok
  | 8, _ => exact tyX8_ok
  | 9, _ => exact tyX9_ok
  | 10, _ => exact tyX10_ok
  | 11, _ => exact tyX11_ok
  | 12, _ => exact tyX12_ok
theorem zm_nm {ci : Nat} (h : ci < 13) : ∀ a, a < zm_N ci → ∀ b, b < zm_N ci → a ≠ b → (zm_F ci a).2.1 ≠ (zm_F ci b).2.1 := by
  match ci, h with
  | 0, _ => exact nmX0
  | 1, _ => exact nmX1
  | 2, _ => exact nmX2
  | 3, _ => exact nmX3
  | 4, _ => exact nmX4
  | 5, _ => exact nmX5
  | 6, _ => exact nmX6
  | 7, _ => exact nmX7
  | 8, _ => exact nmX8
  | 9, _ => exact nmX9
  | 10, _ => exact nmX10
  | 11, _ => exact nmX11
  | 12, _ => exact nmX12
/-- the words of the tables that a callee may have -/
def zm_g : List Cond := lw_tbl.filter goodWord
theorem zm_in {w : Cond} (h : w ∈ lw_tbl) (hg : goodWord w = true) : w ∈ zm_g := List.mem_filter.mpr ⟨h, hg⟩
theorem zm_lays {ci : Nat} (h : ci < 13) : ∀ w ∈ u_ws (zm_C ci) (zm_F ci) (zm_N ci), w ∈ zm_g := by
  have key : ∀ (l : List Cond), (l.all (fun w => decide (w ∈ lw_tbl) && goodWord w)) = true → ∀ w ∈ l, w ∈ zm_g := fun l hl w hw => by
    have h1 := List.all_eq_true.mp hl w hw
    simp only [Bool.and_eq_true, decide_eq_true_eq] at h1
    exact zm_in h1.1 h1.2
  match ci, h with
  | 0, _ => exact key wsX00 (by decide +kernel)
  | 1, _ => exact key wsX10 (by decide +kernel)
  | 2, _ => exact key wsX20 (by decide +kernel)
  | 3, _ => exact key wsX30 (by decide +kernel)
  | 4, _ => exact key wsX40 (by decide +kernel)
  | 5, _ => exact key wsX50 (by decide +kernel)
  | 6, _ => exact key wsX60 (by decide +kernel)
  | 7, _ => exact key wsX70 (by decide +kernel)
  | 8, _ => exact key wsX80 (by decide +kernel)
  | 9, _ => exact key wsX90 (by decide +kernel)
  | 10, _ => exact key wsX100 (by decide +kernel)
  | 11, _ => exact key wsX110 (by decide +kernel)
  | 12, _ => exact key wsX120 (by decide +kernel)
/-! which cell is what: id 0 the TornReeds, from 4 on 13 cells a BIT, 134 the WordList, 142 the Sheet, 151 the Search, 167 the Roll, 169 the KnownText, 171 the TornReedsModel -/
def zm_sb (r : Nat) : zS := match r with
  | 0 => .inl 0 | 1 => .inr (.int, 50) | 2 => .inr (.int, 50) | 3 => .inr (.int, 50) | 4 => .inr (.int, 5) | 5 => .inr (.int, 5) | 6 => .inl 1 | 7 => .inr (.int, 5) | 8 => .inr (.boolean, 5) | 9 => .inl 1 | 10 => .inr (.int, 10) | 11 => .inr (.boolean, 10) | _ => .inr (.int, 6)
def zm_sr (r : Nat) : zS := match r with
  | 0 => .inl 10 | 1 => .inr (.array .long, 2) | 2 => .inr (.long, 27) | 3 => .inr (.long, 27) | 4 => .inr (.long, 2) | 5 => .inr (.long, 2) | 6 => .inr (.long, 2) | 7 => .inr (.long, 2)
  | 8 => .inl 8 | 9 => .inr (.int, 512) | 10 => .inr (.int, 512) | 11 => .inl 3 | 12 => .inr (.int, 16) | 13 => .inr (.int, 16) | 14 => .inl 3 | 15 => .inr (.int, 32) | 16 => .inr (.int, 32)
  | 17 => .inl 7 | 18 => .inl 5 | 19 => .inr (.int, 512) | 20 => .inr (.int, 512) | 21 => .inr (.int, 512) | 22 => .inr (.boolean, 512) | 23 => .inl 5 | 24 => .inr (.int, 512) | 25 => .inr (.int, 512) | 26 => .inr (.int, 512) | 27 => .inr (.boolean, 512) | 28 => .inr (.int, 512)
  | 29 => .inl 4 | 30 => .inr (.int, 231) | 31 => .inr (.int, 11) | 32 => .inr (.int, 21) | 33 => .inl 6 | 34 => .inr (.int, 40) | 35 => .inl 2 | 36 => .inr (.int, 200)
  | 37 => .inl 12 | 38 => .inr (.int, 200) | 39 => .inr (.boolean, 10) | 40 => .inr (.int, 500) | 41 => .inr (.int, 50) | 42 => .inr (.int, 100) | 43 => .inr (.boolean, 10) | 44 => .inr (.int, 10) | 45 => .inr (.int, 10) | 46 => .inr (.int, 10) | 47 => .inr (.int, 60) | 48 => .inr (.int, 50) | 49 => .inr (.int, 12) | 50 => .inr (.int, 120) | 51 => .inr (.int, 512) | 52 => .inr (.int, 512) | 53 => .inr (.int, 512) | 54 => .inr (.int, 40) | _ => .inr (.int, 200)
def zm_s0 (r : Nat) : zS := match r with
  | 0 => .inl 11 | 1 => .inl 9 | 2 => .inr (.int, 200) | _ => .inr (.object "TornReeds$Bit", 10)
def zm_sh (id : Nat) : zS := if id < 4 then zm_s0 id else if id < 134 then zm_sb ((id - 4) % 13) else zm_sr (id - 134)
def zm_sz (id : Nat) : Nat := match zm_sh id with
  | .inl ci => zm_N ci
  | .inr q => q.2
def zm_ss : Nat → Nat
  | 0 => 0
  | n + 1 => zm_ss n + zm_sz n
theorem zm_ss_mono (a : Nat) : ∀ d, zm_ss a ≤ zm_ss (a + d)
  | 0 => Nat.le_refl _
  | d + 1 => Nat.le_trans (zm_ss_mono a d) (Nat.le_add_right _ _)
theorem zm_ss_le {a b : Nat} (h : a ≤ b) : zm_ss a ≤ zm_ss b := by
  have := zm_ss_mono a (b - a)
  rwa [Nat.add_sub_cancel' h] at this
/-! values: a reference is an id; ad puts the addresses -/
def z_c (ad : Nat → Nat) (v : Value) : Value := match v with
  | .ref k => .ref (ad k)
  | v => v
def z_w (n : Nat) (v : Value) : Prop := match v with
  | .ref k => k < n ∨ k = 1000
  | _ => True
theorem z_cat (ad : Nat → Nat) (v : Value) : (z_c ad v).category = v.category := by cases v <;> rfl
def z_eq (n : Nat) (ad ad' : Nat → Nat) : Prop := ∀ k, (k < n ∨ k = 1000) → ad' k = ad k
theorem z_c_eq {n : Nat} {ad ad' : Nat → Nat} (h : z_eq n ad ad') {v : Value} (hv : z_w n v) : z_c ad' v = z_c ad v := by
  cases v with
  | ref k => exact congrArg Value.ref (h k hv)
  | _ => rfl
theorem z_w_mono {n n' : Nat} (h : n ≤ n') {v : Value} (hv : z_w n v) : z_w n' v := by
  cases v with
  | ref k => exact hv.elim (fun q => Or.inl (Nat.lt_of_lt_of_le q h)) Or.inr
  | _ => trivial
def z_l (ad : Nat → Nat) (lv : List (Nat × Value)) : List (Nat × Value) := lv.map fun q => (q.1, z_c ad q.2)
def z_s (ad : Nat → Nat) (st : List Value) : List Value := st.map (z_c ad)
def z_wl (n : Nat) (lv : List (Nat × Value)) : Prop := ∀ q ∈ lv, z_w n q.2
def z_ws (n : Nat) (st : List Value) : Prop := ∀ v ∈ st, z_w n v
theorem z_l_eq {n : Nat} {ad ad' : Nat → Nat} (h : z_eq n ad ad') {lv : List (Nat × Value)} (hv : z_wl n lv) : z_l ad' lv = z_l ad lv :=
  List.map_congr_left fun q hq => by rw [z_c_eq h (hv q hq)]
theorem z_s_eq {n : Nat} {ad ad' : Nat → Nat} (h : z_eq n ad ad') {st : List Value} (hv : z_ws n st) : z_s ad' st = z_s ad st :=
  List.map_congr_left fun q hq => z_c_eq h (hv q hq)
theorem z_ws_cons {n : Nat} {v : Value} {st : List Value} (h : z_w n v) (hs : z_ws n st) : z_ws n (v :: st) := fun x hx => (List.mem_cons.mp hx).elim (fun e => e ▸ h) (hs x)
theorem z_ws_tail {n : Nat} {v : Value} {st : List Value} (hs : z_ws n (v :: st)) : z_ws n st := fun x hx => hs x (List.mem_cons_of_mem _ hx)
theorem z_ws_head {n : Nat} {v : Value} {st : List Value} (hs : z_ws n (v :: st)) : z_w n v := hs v List.mem_cons_self
/-! a cell's picture -/
def zm_f (ad : Nat → Nat) (m : zM) (id k : Nat) (ty : FieldType) : Value := match ty with
  | .int => .int (m.1 id k)
  | .boolean => .int (m.1 id k)
  | .long => .long (m.2.1 id k)
  | _ => va_rf ((m.2.2.1 id k).map ad)
def zm_a (ad : Nat → Nat) (m : zM) (id n : Nat) (ty : FieldType) : vp_A := match ty with
  | .int => (n, .inl (m.1 id))
  | .boolean => (n, .inl (m.1 id))
  | .long => (n, .inr (.inl (m.2.1 id)))
  | _ => (n, .inr (.inr (.inr (.inr (fun k => (m.2.2.1 id k).map ad)))))
def zm_E (ad : Nat → Nat) (ca : FieldType → Nat) (m : zM) (id : Nat) : va_E := match zm_sh id with
  | .inl ci => .inr (ci, (List.range (zm_N ci)).map (fun k => zm_f ad m id k (zm_T ci k)))
  | .inr q => .inl (ca q.1, zm_a ad m id q.2 q.1)
def zm_W (ad : Nat → Nat) (ca : FieldType → Nat) (m : zM) : va_W := (List.range m.2.2.2).map fun id => (ad id, zm_E ad ca m id)
theorem zm_W_at (ad : Nat → Nat) (ca : FieldType → Nat) (m : zM) {id : Nat} (h : id < m.2.2.2) : (zm_W ad ca m)[id]? = some (ad id, zm_E ad ca m id) := by
  unfold zm_W
  rw [List.getElem?_map, List.getElem?_range h]
  rfl
theorem zm_W_len (ad : Nat → Nat) (ca : FieldType → Nat) (m : zM) : (zm_W ad ca m).length = m.2.2.2 := by simp [zm_W]
/-- one cell's picture changes -/
theorem zm_W_set (ad : Nat → Nat) (ca : FieldType → Nat) {m m' : zM} {id : Nat} (hn : m'.2.2.2 = m.2.2.2) (h : ∀ j, j ≠ id → zm_E ad ca m' j = zm_E ad ca m j) : (zm_W ad ca m).set id (ad id, zm_E ad ca m' id) = zm_W ad ca m' := by
  apply List.ext_getElem?
  intro k
  by_cases hk : k < m.2.2.2
  · by_cases e : k = id
    · subst e
      rw [List.getElem?_set_self (by rw [zm_W_len]; exact hk), zm_W_at ad ca m' (by rw [hn]; exact hk)]
    · rw [List.getElem?_set_ne (Ne.symm e), zm_W_at ad ca m hk, zm_W_at ad ca m' (by rw [hn]; exact hk), h k e]
  · rw [List.getElem?_eq_none (by rw [List.length_set, zm_W_len]; omega), List.getElem?_eq_none (by rw [zm_W_len, hn]; omega)]
def zm_t (ca : FieldType → Nat) : List (ClassId × FieldType) := [(ca .int, .int), (ca .boolean, .boolean), (ca .long, .long), (ca (.object "TornReeds$Bit"), .object "TornReeds$Bit"), (ca (.array .long), .array .long)]
/-- references stay among the cells -/
def zm_wf (m : zM) : Prop := (∀ id k j, m.2.2.1 id k = some j → j < m.2.2.2) ∧ m.2.2.2 ≤ 190
def zm_R (D : va_G) (ca : FieldType → Nat) (A : Nat → Prop) (ad : Nat → Nat) (m : zM) (H : Heap) : Prop := va_P D vwCl (zm_W ad ca m) H ∧ va_D A (zm_W ad ca m) ∧ zm_wf m
/-- the words that aren't among those a callee may have by its list -/
def zm_nest : List Cond := [.methodLinkNest RX11 11 yX9_init RX11, .methodLinkNest RX11 27 yX10_init RX11, .methodLinkNest RX11 41 yX7_init RX11, .methodLinkNest RX7 11 yX5_init RX11, .methodLinkNest RX7 27 yX4_init RX11, .methodLinkNest RX11 48 yX6_init RX11, .methodLinkNest RX11 55 yX2_init RX11, .methodLinkNest RX0 58 yX11_isText RX11, .methodLinkNest RX9 19 yX11_isLetter RX11, .methodLinkNest RX8 90 yX11_isText RX11, .methodLinkNest RX2 65 yX11_isText RX11]
theorem zm_nest_in : ∀ w ∈ zm_nest, w ∈ lw_tbl := by decide +kernel
