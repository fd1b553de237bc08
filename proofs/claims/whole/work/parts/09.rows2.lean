section WN
variable {E : zE} {Q : Option Value → zM → Prop} {pc : Nat} {lv : List (Nat × Value)} {st : List Value} {m : zM}
theorem w_aloadN {i : Nat} (hdg : decode (ze_cc E) pc = .ok (.aload i, 2)) (hl : z_get lv i = some .null) (k : Wp E Q (pc + 2) lv (.null :: st) m) : Wp E Q pc lv st m := by
  intro p l e R s mi args below meth c D ca A b Z hA ad H locs ls h1 h2 h3 h4 h5 h6 h7
  have hx := hA.1
  have hb := hA.2.1
  exact lv_aloadN hx hb hdg (zl_at h7 hl) (k p l e R s mi args below meth c D ca A b Z hA ad H locs ls h1 h2 h3 h4 (z_ws_cons trivial h5) h6 h7)
theorem w_aload_nN {i : Fin 4} (hdg : decode (ze_cc E) pc = .ok (.aload_n i, 1)) (hl : z_get lv (i : Nat) = some .null) (k : Wp E Q (pc + 1) lv (.null :: st) m) : Wp E Q pc lv st m := by
  intro p l e R s mi args below meth c D ca A b Z hA ad H locs ls h1 h2 h3 h4 h5 h6 h7
  have hx := hA.1
  have hb := hA.2.1
  exact lv_aload_nN hx hb hdg rfl (zl_at h7 hl) (k p l e R s mi args below meth c D ca A b Z hA ad H locs ls h1 h2 h3 h4 (z_ws_cons trivial h5) h6 h7)
theorem w_astoreN {i : Nat} (hdg : decode (ze_cc E) pc = .ok (.astore i, 2)) (hi : Nat.blt i (ze_nL E) = true) (hno : z_nol lv i = true) (k : Wp E Q (pc + 2) (z_put lv i .null) st m) : Wp E Q pc lv (.null :: st) m := by
  intro p l e R s mi args below meth c D ca A b Z hA ad H locs ls h1 h2 h3 h4 h5 h6 h7
  have hx := hA.1
  have hb := hA.2.1
  refine lv_astoreN hx hb hdg h7 (Nat.blt_eq.mp hi) rfl fun ls' hl' => ?_
  exact k p l e R s mi args below meth c D ca A b Z hA ad H locs ls' h1 h2 h3 (z_put_w (v := .null) h4 trivial) (z_ws_tail h5) h6 (z_put_has (v := .null) hno hl')
theorem w_astore_nN {i : Fin 4} (hdg : decode (ze_cc E) pc = .ok (.astore_n i, 1)) (hi : Nat.blt (i : Nat) (ze_nL E) = true) (hno : z_nol lv (i : Nat) = true) (k : Wp E Q (pc + 1) (z_put lv (i : Nat) .null) st m) : Wp E Q pc lv (.null :: st) m := by
  intro p l e R s mi args below meth c D ca A b Z hA ad H locs ls h1 h2 h3 h4 h5 h6 h7
  have hx := hA.1
  have hb := hA.2.1
  refine lv_astore_nN hx hb hdg rfl h7 (Nat.blt_eq.mp hi) rfl fun ls' hl' => ?_
  exact k p l e R s mi args below meth c D ca A b Z hA ad H locs ls' h1 h2 h3 (z_put_w (v := .null) h4 trivial) (z_ws_tail h5) h6 (z_put_has (v := .null) hno hl')
theorem zm_inj {D : va_G} {ca : FieldType → Nat} {A : Nat → Prop} {ad : Nat → Nat} {H : Heap} (h : zm_R D ca A ad m H) {i j : Nat} (hi : i < m.2.2.2) (hj : j < m.2.2.2) (e : ad i = ad j) : i = j := h.2.1.1 i j _ _ (zm_W_at ad ca m hi) (zm_W_at ad ca m hj) e
theorem w_acmp_eq {rx ry : Option Nat} {off : Int} (tgt : Nat) (hdg : decode (ze_cc E) pc = .ok (.if_acmp .eq off, 3)) (ht : (pc : Int) + off = (tgt : Int)) (hx2 : ∀ i, rx = some i → i < m.2.2.2) (hy2 : ∀ i, ry = some i → i < m.2.2.2) (kt : rx = ry → Wp E Q tgt lv st m) (kf : ¬ rx = ry → Wp E Q (pc + 3) lv st m) : Wp E Q pc lv (va_rf ry :: va_rf rx :: st) m := by
  intro p l e R s mi args below meth c D ca A b Z hA ad H locs ls h1 h2 h3 h4 h5 h6 h7
  have hx := hA.1
  have hb := hA.2.1
  have e1 : z_s ad (va_rf ry :: va_rf rx :: st) = va_rf (ry.map ad) :: va_rf (rx.map ad) :: z_s ad st := by cases rx <;> cases ry <;> rfl
  have e2 : rx.map ad = ry.map ad ↔ rx = ry := by
    cases rx with
    | none => cases ry <;> simp
    | some i =>
      cases ry with
      | none => simp
      | some j =>
        simp only [Option.map_some, Option.some.injEq]
        exact ⟨zm_inj h2 (hx2 i rfl) (hy2 j rfl), fun q => by rw [q]⟩
  rw [e1]
  exact lv_acmp_eq hx hb hdg ht (fun q => kt (e2.mp q) p l e R s mi args below meth c D ca A b Z hA ad H locs ls h1 h2 h3 h4 (z_ws_tail (z_ws_tail h5)) h6 h7) (fun q => kf (fun z => q (e2.mpr z)) p l e R s mi args below meth c D ca A b Z hA ad H locs ls h1 h2 h3 h4 (z_ws_tail (z_ws_tail h5)) h6 h7)
theorem w_tabIn {x : Int32} {dflt lo hi off : Int} {offs : Array Int} {len : Nat} (tgt : Nat) (hdg : decode (ze_cc E) pc = .ok (.tableswitch dflt lo hi offs, len)) (g1 : ¬ x.toInt < lo) (g2 : ¬ hi < x.toInt) (ho : offs[(x.toInt - lo).toNat]? = some off) (ht : (pc : Int) + off = (tgt : Int)) (k : Wp E Q tgt lv st m) : Wp E Q pc lv (.int x :: st) m := by
  intro p l e R s mi args below meth c D ca A b Z hA ad H locs ls h1 h2 h3 h4 h5 h6 h7
  have hx := hA.1
  have hb := hA.2.1
  exact lv_tableIn hx hb hdg g1 g2 ho ht (k p l e R s mi args below meth c D ca A b Z hA ad H locs ls h1 h2 h3 h4 (z_ws_tail h5) h6 h7)
theorem w_tabOut {x : Int32} {dflt lo hi : Int} {offs : Array Int} {len : Nat} (tgt : Nat) (hdg : decode (ze_cc E) pc = .ok (.tableswitch dflt lo hi offs, len)) (g : x.toInt < lo ∨ hi < x.toInt) (ht : (pc : Int) + dflt = (tgt : Int)) (k : Wp E Q tgt lv st m) : Wp E Q pc lv (.int x :: st) m := by
  intro p l e R s mi args below meth c D ca A b Z hA ad H locs ls h1 h2 h3 h4 h5 h6 h7
  have hx := hA.1
  have hb := hA.2.1
  exact lv_tableOut hx hb hdg g ht (k p l e R s mi args below meth c D ca A b Z hA ad H locs ls h1 h2 h3 h4 (z_ws_tail h5) h6 h7)
end WN
