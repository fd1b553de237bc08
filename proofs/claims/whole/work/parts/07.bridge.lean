/-! a method's contract out of its walk -/
def zk_E (K : zK) (own : String) (n0 : Nat) (ini : Bool) : zE := (K.1, own, K.2.1, K.2.2.1, zk_h K, n0, zk_mc K, ini, none)
theorem z_args (ad : Nat → Nat) : ∀ (i : Nat) (as : List Value), lv_args i (z_s ad as) = z_l ad (lv_args i as)
  | _, [] => rfl
  | i, v :: as => by
    show (i, z_c ad v) :: lv_args (if (z_c ad v).category = 2 then i + 2 else i + 1) (z_s ad as) = (i, z_c ad v) :: z_l ad (lv_args (if v.category = 2 then i + 2 else i + 1) as)
    rw [z_cat, z_args ad _ as]
theorem z_args_w {n : Nat} : ∀ {i : Nat} {as : List Value}, z_ws n as → z_wl n (lv_args i as)
  | _, [], _ => fun q hq => by cases hq
  | i, v :: as, h => fun q hq => by
    rcases List.mem_cons.mp hq with g | g
    · subst g
      exact h v List.mem_cons_self
    · exact z_args_w (z_ws_tail h) q g
theorem z_sl_len (ad : Nat → Nat) (as : List Value) : (lg_sl (z_s ad as)).length = (lg_sl as).length := by
  induction as with
  | nil => rfl
  | cons v as ih =>
    unfold lg_sl z_s at ih ⊢
    simp only [List.map_cons, List.flatMap_cons, List.length_append, z_cat] at ih ⊢
    rw [ih]
    by_cases h : v.category = 2 <;> simp [h]
theorem cl_of {y : MethodName} {K : zK} {as : List Value} {m : zM} {F : Option Value → zM → Prop} (ini : Bool) (hini : ini = true → y.name = "<init>") (hpl : plainName y.cls = true) (hh : 1 ≤ zk_h K) (hlen : (lg_sl as).length ≤ K.2.1) (hret : ∀ t, K.2.2.1 = some t → t = .int ∨ t = .boolean ∨ ∃ C, t = .object C) (k : Wp (zk_E K y.cls m.2.2.2 ini) F 0 (lv_args 0 as) [] m) : Cl y K as m F := by
  intro l D ca A ad sz hAq hws
  refine Met.ofW (cc := K.1) (maxL := K.2.1) (ret := K.2.2.1) hpl rfl ?_
  intro p e s mi args below meth c s₁ B hml hv
  obtain ⟨hargs, hsz, hR, hK, hN, hAO, hAL⟩ := hv
  subst hargs
  have hx := B.exec
  have hb := B.bytes
  have hr := B.returns
  have hts0 := atoms_spec (ws := zk_ws y K) B.pre
  have hts : ∀ w ∈ zm_g, w.before (z_s ad as).toArray s = true := fun w hw => hts0 w (List.mem_cons_of_mem _ hw)
  have hown : s.vm.findClass y.cls = some mi.cls := findClass_of_methodNamed B.named
  have hlocks := B.notSynchronized
  have hnm : meth.name = y.name := (name_of_methodNamed B.named B.method).1
  subst hsz
  have hl := lv_entry (z_s ad as) (n := K.2.1) (by rw [z_sl_len]; exact hlen)
  rw [lg_entry_eq]
  generalize (lg_sl (z_s ad as) ++ List.replicate (K.2.1 - (lg_sl (z_s ad as)).length) Slot.unset).toArray = ls at hl ⊢
  rw [z_args] at hl
  have e1 : zm_cs (zk_E K y.cls m.2.2.2 ini) m = 0 := Nat.sub_self _
  have e2 : zm_sl (zk_E K y.cls m.2.2.2 ini) m = 0 := Nat.sub_self _
  have hact : zm_A (zk_E K y.cls m.2.2.2 ini) F p l e (headSpec (zk_ws y K) (zk_rm K m.2.2.2)).room s mi (z_s ad as).toArray below meth c D ca A ad (MQ below (zm_Qc D ca A ad m.2.2.2 (zk_mc K) F) (z_s ad as).toArray s (zk_mc K) (zk_ms K m.2.2.2) A) := by
    refine ⟨hx, hb, hml, hown, hts, hN, hAO, hAL, hK, hAq, ⟨Nat.le_refl _, Nat.le_refl _, Nat.le_refl _, Nat.le_refl _⟩, fun hi => hnm.trans (hini hi), (fun q hq => by cases hq), ?_⟩
    intro r m' ad' H locs pc ls' hok hdg hb2 hR' hS' hw hn hF
    have c1 : zm_cs (zk_E K y.cls m.2.2.2 ini) m' = zk_mc K := by show m'.2.2.2 - m.2.2.2 = _; rw [hn]; show m.2.2.2 + zk_mc K - m.2.2.2 = _; omega
    have c2 : zm_sl (zk_E K y.cls m.2.2.2 ini) m' = zk_ms K m.2.2.2 := by show zm_ss m'.2.2.2 - zm_ss m.2.2.2 = _; rw [hn]; rfl
    rw [c1, c2]
    have hq : ∀ t : State, t.heap = H → s.WarmedH t.vm → zm_Qc D ca A ad m.2.2.2 (zk_mc K) F (z_s ad as).toArray s (.returned (r.map (z_c ad'))) t := fun t ht _ => ⟨⟨r, m', ad', rfl, hF, hb2, hn, hw, by rw [ht]; exact hR'⟩, hS'.F ht⟩
    cases hrt : K.2.2.1 with
    | none =>
      have hrt' : ze_ret (zk_E K y.cls m.2.2.2 ini) = none := hrt
      rw [hrt'] at hok
      cases r with
      | none => exact W.vret hx hb (hr.trans hrt) hq (fun q hq => hS'.2.2 q hq) hdg hlocks
      | some v => exact False.elim (by simp [z_ok] at hok)
    | some t =>
      have hrt' : ze_ret (zk_E K y.cls m.2.2.2 ini) = some t := hrt
      rw [hrt'] at hok
      cases r with
      | none => exact False.elim (by cases t <;> simp [z_ok] at hok)
      | some v =>
        rcases hret t hrt with rfl | rfl | ⟨C, rfl⟩
        · cases v with
          | int x => exact W.iret hx hb (hr.trans hrt) hq (fun q hq => hS'.2.2 q hq) hdg hlocks
          | _ => exact False.elim (by simp [z_ok] at hok)
        · cases v with
          | int x => exact W.zret hx hb (hr.trans hrt) (zm_nI (Or.inr ⟨rfl, hok⟩)).1 hq (fun q hq => hS'.2.2 q hq) hdg hlocks
          | _ => exact False.elim (by simp [z_ok] at hok)
        · cases v with
          | ref x => exact W.aret hx hb (hr.trans hrt) (Or.inl ⟨C, rfl⟩) (Or.inr ⟨_, rfl⟩) hq (fun q hq => hS'.2.2 q hq) hdg hlocks
          | null => exact W.aret hx hb (hr.trans hrt) (Or.inl ⟨C, rfl⟩) (Or.inl rfl) hq (fun q hq => hS'.2.2 q hq) hdg hlocks
          | _ => exact False.elim (by simp [z_ok] at hok)
  have := k p l e _ s mi _ below meth c D ca A ad _ hact ad s.heap [] ls (fun _ _ => rfl) hR va_S.rf (z_args_w hws) (fun v hv => by cases hv) (Nat.le_refl _) hl
  rw [e1, e2] at this
  exact this
