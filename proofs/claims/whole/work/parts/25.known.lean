/-! Math.floorMod, Math.max; known texts: the reference -/
theorem w_ixor {E : zE} {Q : Option Value → zM → Prop} {pc : Nat} {lv : List (Nat × Value)} {st : List Value} {m : zM} {x y : Int32} (hdg : decode (ze_cc E) pc = .ok (.ixor, 1)) (k : Wp E Q (pc + 1) lv (.int (x ^^^ y) :: st) m) : Wp E Q pc lv (.int y :: .int x :: st) m := by
  intro p l e R s mi args below meth c D ca A b Z hA ad H locs ls h1 h2 h3 h4 h5 h6 h7
  exact lv_ixor hA.1 hA.2.1 hdg (k p l e R s mi args below meth c D ca A b Z hA ad H locs ls h1 h2 h3 h4 (z_ws_cons trivial (z_ws_tail (z_ws_tail h5))) h6 h7)
theorem iI_tdiv {x y : Int} (hx : -1000000 ≤ x ∧ x ≤ 1000000) (hy : 0 < y ∧ y < 2147483648) : iI x / iI y = iI (x.tdiv y) := by
  have h1 : (x.tdiv y).natAbs ≤ x.natAbs := by rw [Int.natAbs_tdiv]; exact Nat.div_le_self _ _
  rw [← Int32.toInt_inj, Int32.toInt_div, iI_toInt (by omega) (by omega), iI_toInt (by omega) (by omega), iI_toInt (by omega) (by omega)]
  exact Int.bmod_eq_of_le (by omega) (by omega)
theorem iI_trem {x y : Int} (hx : -1000000 ≤ x ∧ x ≤ 1000000) (hy : 0 < y ∧ y < 2147483648) : iI x - iI x / iI y * iI y = iI (x.tmod y) := by
  rw [iI_tdiv hx hy, iI_mul, iI_sub]
  congr 1
  have := Int.mul_tdiv_add_tmod x y
  have e : x.tdiv y * y = y * x.tdiv y := Int.mul_comm _ _
  omega
theorem iI_xor_neg {x y : Int} (hx : -2147483648 ≤ x ∧ x < 2147483648) (hy : 0 ≤ y ∧ y < 2147483648) : (0 : Int32) ≤ iI x ^^^ iI y ↔ 0 ≤ x := by
  have e1 : (iI x ^^^ iI y).toInt < 0 ↔ x < 0 := by
    have h1 : (iI x ^^^ iI y).toBitVec.msb = ((iI x).toBitVec.msb ^^ (iI y).toBitVec.msb) := by
      rw [Int32.toBitVec_xor, BitVec.msb_xor]
    rw [BitVec.msb_eq_toInt, BitVec.msb_eq_toInt, BitVec.msb_eq_toInt] at h1
    have a1 : (iI x).toBitVec.toInt = x := iI_toInt hx.1 hx.2
    have a2 : (iI y).toBitVec.toInt = y := iI_toInt (by omega) hy.2
    rw [a1, a2] at h1
    have a3 : (iI x ^^^ iI y).toInt = (iI x ^^^ iI y).toBitVec.toInt := rfl
    rw [a3]
    have hy2 : decide (y < 0) = false := decide_eq_false (by omega)
    rw [hy2, Bool.xor_false] at h1
    exact ⟨fun g => of_decide_eq_true (h1 ▸ decide_eq_true g), fun g => of_decide_eq_true (h1.symm ▸ decide_eq_true g)⟩
  rw [Int32.le_iff_toInt_le, Int32.toInt_zero]
  omega
theorem met_ofWF {l : Launch} {y : MethodName} {ws ws' : List Cond} {rm : Room} {Pc : Array Value → State → Prop} {Qc : Array Value → State → Outcome → State → Prop} {mc ms : Nat} {free : Addr → Prop} {cc : ByteArray} {maxL : Nat} {ret : Option FieldType}
    (hy : plainFor y = true) (hw : ws = Cond.code y cc maxL ret :: ws')
    (body : ∀ p e s m args below meth c s₁, BodyLoose p l y (headSpec ws rm) cc maxL ret e s m args below meth c s₁ → c.maxLocals = maxL → Pc args s →
      W p l e (headSpec ws rm).room s m args below meth c s.heap [] 0 0 (MQ below Qc args s mc ms free) (entryFrame m args maxL)) : Met l y ws rm Pc Qc mc ms free := by
  refine MetFree.of_bodySF (code := cc) (maxLocals := maxL) (ret := ret) hy (fun args s m h hn => ?_) (fun p e s m args below meth c s₁ B hml hP _ => ?_)
  · obtain ⟨meth, c, g1, g2, g3, g4, g5, g6, -, -⟩ := Cond.code_spec hn (atoms_spec (ws := ws) h _ (by rw [hw]; exact List.mem_cons_self))
    exact ⟨meth, c, g1, g2, g3, g4, g5, g6⟩
  · have hh0 : s₁.heap = s.heap := by rw [B.state]; rfl
    obtain ⟨t, a1, o, b1, b2, b3⟩ := body p e s m args below meth c s₁ B hml hP s₁ hh0 (Stand.of_body B)
    exact ⟨t, o, a1, b1, b2, ⟨b3.1, b3.2⟩⟩
theorem cl_ofF {y : MethodName} {K : zK} {as : List Value} {m : zM} {F : Option Value → zM → Prop} (ini : Bool) (hini : ini = true → y.name = "<init>") (hpl : plainFor y = true) (hh : 1 ≤ zk_h K) (hlen : (lg_sl as).length ≤ K.2.1) (hret : ∀ t, K.2.2.1 = some t → t = .int ∨ t = .boolean ∨ ∃ C, t = .object C) (k : Wp (zk_E K y.cls m.2.2.2 ini) F 0 (lv_args 0 as) [] m) : Cl y K as m F := by
  intro l D ca A ad sz hAq hws
  refine met_ofWF (cc := K.1) (maxL := K.2.1) (ret := K.2.2.1) hpl rfl ?_
  intro p e s mi args below meth c s₁ B hml hv
  obtain ⟨hargs, hsz, hR, hK, hN, hAO, hAL⟩ := hv
  subst hargs
  have hx := B.exec
  have hb := B.bytes
  have hr := B.returns
  have hts0 := atoms_spec (ws := zk_ws y K) B.pre
  have hts : ∀ w ∈ zm_g, w.before (z_s ad as).toArray s = true := fun w hw => hts0 w (List.mem_cons_of_mem _ hw)
  have hown : s.vm.findClass y.cls = some mi.cls := findClass_of_methodNamed B.named
  have hlocks := B.notSynchronized
  have hnm : meth.name = y.name := (name_of_methodNamed B.named B.method).1
  subst hsz
  have hl := lv_entry (z_s ad as) (n := K.2.1) (by rw [z_sl_len]; exact hlen)
  rw [lg_entry_eq]
  generalize (lg_sl (z_s ad as) ++ List.replicate (K.2.1 - (lg_sl (z_s ad as)).length) Slot.unset).toArray = ls at hl ⊢
  rw [z_args] at hl
  have e1 : zm_cs (zk_E K y.cls m.2.2.2 ini) m = 0 := Nat.sub_self _
  have e2 : zm_sl (zk_E K y.cls m.2.2.2 ini) m = 0 := Nat.sub_self _
  have hact : zm_A (zk_E K y.cls m.2.2.2 ini) F p l e (headSpec (zk_ws y K) (zk_rm K m.2.2.2)).room s mi (z_s ad as).toArray below meth c D ca A ad (MQ below (zm_Qc D ca A ad m.2.2.2 (zk_mc K) F) (z_s ad as).toArray s (zk_mc K) (zk_ms K m.2.2.2) A) := by
    refine ⟨hx, hb, hml, hown, hts, hN, hAO, hAL, hK, hAq, ⟨Nat.le_refl _, Nat.le_refl _, Nat.le_refl _, Nat.le_refl _⟩, fun hi => hnm.trans (hini hi), (fun q hq => by cases hq), ?_⟩
    intro r m' ad' H locs pc ls' hok hdg hb2 hR' hS' hw hn hF
    have c1 : zm_cs (zk_E K y.cls m.2.2.2 ini) m' = zk_mc K := by show m'.2.2.2 - m.2.2.2 = _; rw [hn]; show m.2.2.2 + zk_mc K - m.2.2.2 = _; omega
    have c2 : zm_sl (zk_E K y.cls m.2.2.2 ini) m' = zk_ms K m.2.2.2 := by show zm_ss m'.2.2.2 - zm_ss m.2.2.2 = _; rw [hn]; rfl
    rw [c1, c2]
    have hq : ∀ t : State, t.heap = H → s.WarmedH t.vm → zm_Qc D ca A ad m.2.2.2 (zk_mc K) F (z_s ad as).toArray s (.returned (r.map (z_c ad'))) t := fun t ht _ => ⟨⟨r, m', ad', rfl, hF, hb2, hn, hw, by rw [ht]; exact hR'⟩, hS'.F ht⟩
    cases hrt : K.2.2.1 with
    | none =>
      have hrt' : ze_ret (zk_E K y.cls m.2.2.2 ini) = none := hrt
      rw [hrt'] at hok
      cases r with
      | none => exact W.vret hx hb (hr.trans hrt) hq (fun q hq => hS'.2.2 q hq) hdg hlocks
      | some v => exact False.elim (by simp [z_ok] at hok)
    | some t =>
      have hrt' : ze_ret (zk_E K y.cls m.2.2.2 ini) = some t := hrt
      rw [hrt'] at hok
      cases r with
      | none => exact False.elim (by cases t <;> simp [z_ok] at hok)
      | some v =>
        rcases hret t hrt with rfl | rfl | ⟨C, rfl⟩
        · cases v with
          | int x => exact W.iret hx hb (hr.trans hrt) hq (fun q hq => hS'.2.2 q hq) hdg hlocks
          | _ => exact False.elim (by simp [z_ok] at hok)
        · cases v with
          | int x => exact W.zret hx hb (hr.trans hrt) (zm_nI (Or.inr ⟨rfl, hok⟩)).1 hq (fun q hq => hS'.2.2 q hq) hdg hlocks
          | _ => exact False.elim (by simp [z_ok] at hok)
        · cases v with
          | ref x => exact W.aret hx hb (hr.trans hrt) (Or.inl ⟨C, rfl⟩) (Or.inr ⟨_, rfl⟩) hq (fun q hq => hS'.2.2 q hq) hdg hlocks
          | null => exact W.aret hx hb (hr.trans hrt) (Or.inl ⟨C, rfl⟩) (Or.inl rfl) hq (fun q hq => hS'.2.2 q hq) hdg hlocks
          | _ => exact False.elim (by simp [z_ok] at hok)
  have := k p l e _ s mi _ below meth c D ca A ad _ hact ad s.heap [] ls (fun _ _ => rfl) hR va_S.rf (z_args_w hws) (fun v hv => by cases hv) (Nat.le_refl _) hl
  rw [e1, e2] at this
  exact this
theorem cl_sF {y : MethodName} {K : zK} {as : List Value} {I : Nat → Nat → Int32} {J : Nat → Nat → Int64} {F : Option Value → zM → Prop} (hpl : plainFor y = true) (hh : 1 ≤ zk_h K) (hlen : (lg_sl as).length ≤ K.2.1) (hret : ∀ t, K.2.2.1 = some t → t = .int ∨ t = .boolean ∨ ∃ C, t = .object C) (k : Wp (sE K y.cls) F 0 (lv_args 0 as) [] (gM I J)) : Cl y K as (gM I J) F := cl_ofF false (fun q => by cases q) hpl hh hlen hret k
theorem j9_floorMod {I : Nat → Nat → Int32} {J : Nat → Nat → Int64} {F : Option Value → zM → Prop} {x y : Int} (bx : -1000000 ≤ x ∧ x ≤ 1000000) (by_ : 0 < y ∧ y ≤ 1000) (h : F (some (.int (iI (x % y)))) (gM I J)) : Cl yJ9_floorMod_7cf53 kJ9_floorMod_7cf53 [.int (iI x), .int (iI y)] (gM I J) F := by
  refine cl_sF (by decide +kernel) (by decide) (Nat.le_of_ble_eq_true rfl) rt_i ?_
  show Wp _ F 0 [(0, .int (iI x)), (1, .int (iI y))] [] _
  have hm := Int.emod_nonneg x (show y ≠ 0 by omega)
  have hm2 := Int.emod_lt_of_pos x by_.1
  have ht1 : 0 ≤ x → x.tmod y = x % y := fun g => Int.tmod_eq_emod_of_nonneg g
  have ht2 : x < 0 → x.tmod y = if x % y = 0 then 0 else x % y - y := fun g => by
    rw [Int.tmod_eq_emod]
    by_cases q : y ∣ x
    · have := Int.emod_eq_zero_of_dvd q
      rw [if_pos (Or.inr q), if_pos this]; omega
    · rw [if_neg (by omega), if_neg (fun z => q (Int.dvd_of_emod_eq_zero z))]; omega
  refine w_iload_n dJ9_floorMod_7cf53_0 rfl ?_
  refine w_iload_n dJ9_floorMod_7cf53_1 rfl ?_
  refine w_irem dJ9_floorMod_7cf53_2 (by rw [iI_0, iI_eq (by omega) (by omega)]; omega) ?_
  rw [iI_trem (by omega) (by omega)]
  refine w_istore_n dJ9_floorMod_7cf53_3 rfl rfl ?_
  refine w_iload_n dJ9_floorMod_7cf53_4 rfl ?_
  refine w_iload_n dJ9_floorMod_7cf53_5 rfl ?_
  refine w_ixor dJ9_floorMod_7cf53_6 ?_
  refine w_if_ge 18 dJ9_floorMod_7cf53_7 (by decide) (fun c7 => ?_) (fun c7 => ?_)
  · rw [iI_xor_neg (by omega) (by omega)] at c7
    refine w_iload_n dJ9_floorMod_7cf53_18 rfl ?_
    refine v_iret dJ9_floorMod_7cf53_19 rfl ⟨rfl, rfl⟩ ?_
    rw [ht1 c7]
    exact h
  · rw [iI_xor_neg (by omega) (by omega)] at c7
    have e := ht2 (by omega)
    by_cases g : x % y = 0
    · rw [if_pos g] at e
      rw [e]
      refine w_iload_n dJ9_floorMod_7cf53_10 rfl ?_
      refine v_if_eq 18 dJ9_floorMod_7cf53_11 (by decide) (by decide) (fun _ => ?_) (fun q => absurd rfl q)
      refine w_iload_n dJ9_floorMod_7cf53_18 rfl ?_
      refine v_iret dJ9_floorMod_7cf53_19 rfl ⟨rfl, rfl⟩ ?_
      rw [g] at h
      exact h
    · rw [if_neg g] at e
      rw [e]
      refine w_iload_n dJ9_floorMod_7cf53_10 rfl ?_
      refine v_if_eq 18 dJ9_floorMod_7cf53_11 (by decide) (by omega) (fun q => by omega) (fun _ => ?_)
      refine w_iload_n dJ9_floorMod_7cf53_14 rfl ?_
      refine w_iload_n dJ9_floorMod_7cf53_15 rfl ?_
      refine v_iadd dJ9_floorMod_7cf53_16 ?_
      refine v_iret dJ9_floorMod_7cf53_17 rfl ⟨rfl, rfl⟩ ?_
      rw [show x % y - y + y = x % y by omega]
      exact h
theorem j9_max {I : Nat → Nat → Int32} {J : Nat → Nat → Int64} {F : Option Value → zM → Prop} {x y : Int} (bx : -2147483648 ≤ x ∧ x < 2147483648) (by_ : -2147483648 ≤ y ∧ y < 2147483648) (h1 : y ≤ x → F (some (.int (iI x))) (gM I J)) (h2 : x < y → F (some (.int (iI y))) (gM I J)) : Cl yJ9_max_7cf53 kJ9_max_7cf53 [.int (iI x), .int (iI y)] (gM I J) F := by
  refine cl_sF (by decide +kernel) (by decide) (Nat.le_of_ble_eq_true rfl) rt_i ?_
  show Wp _ F 0 [(0, .int (iI x)), (1, .int (iI y))] [] _
  refine w_iload_n dJ9_max_7cf53_0 rfl ?_
  refine w_iload_n dJ9_max_7cf53_1 rfl ?_
  refine v_icmp_lt 9 dJ9_max_7cf53_2 (by decide) (by omega) (by omega) (fun c2 => ?_) (fun c2 => ?_)
  · refine w_iload_n dJ9_max_7cf53_9 rfl ?_
    refine v_iret dJ9_max_7cf53_10 rfl ⟨rfl, rfl⟩ ?_
    first | exact h1 (by omega) | exact h2 (by omega)
  · refine w_iload_n dJ9_max_7cf53_5 rfl ?_
    refine w_goto 10 dJ9_max_7cf53_6 (by decide) ?_
    refine v_iret dJ9_max_7cf53_10 rfl ⟨rfl, rfl⟩ ?_
    first | exact h1 (by omega) | exact h2 (by omega)
theorem x12_floor {I : Nat → Nat → Int32} {J : Nat → Nat → Int64} {F : Option Value → zM → Prop} {x y : Int} (bx : -1000000 ≤ x ∧ x ≤ 1000000) (by_ : 0 < y ∧ y ≤ 1000) (h : F (some (.int (iI (x / y)))) (gM I J)) : Cl yX12_floor kX12_floor [.int (iI x), .int (iI y)] (gM I J) F := by
  refine cl_s (by decide) (by decide) (Nat.le_of_ble_eq_true rfl) rt_i ?_
  show Wp _ F 0 [(0, .int (iI x)), (1, .int (iI y))] [] _
  have hfl : x < 0 → -((y - 1 - x) / y) = x / y := fun hx => by
    have h1 := Int.mul_ediv_add_emod x y
    have h2 := Int.emod_nonneg x (show y ≠ 0 by omega)
    have h3 := Int.emod_lt_of_pos x by_.1
    have e : y - 1 - x = (y - 1 - x % y) + y * (-(x / y)) := by rw [Int.mul_neg]; omega
    rw [e, Int.add_mul_ediv_left _ _ (show y ≠ 0 by omega), Int.ediv_eq_zero_of_lt (by omega) (by omega)]
    omega
  refine w_iload_n dX12_floor_0 rfl ?_
  refine v_if_lt 10 dX12_floor_1 (by decide) (by omega) (fun c1 => ?_) (fun c1 => ?_)
  · refine w_iload_n dX12_floor_10 rfl ?_
    refine w_iconst (v := iI 1) dX12_floor_11 rfl ?_
    refine v_isub dX12_floor_12 ?_
    refine w_iload_n dX12_floor_13 rfl ?_
    refine v_isub dX12_floor_14 ?_
    refine w_iload_n dX12_floor_15 rfl ?_
    refine v_idiv dX12_floor_16 (by omega) (by omega) ?_
    refine v_ineg dX12_floor_17 ?_
    refine v_iret dX12_floor_18 rfl ⟨rfl, rfl⟩ ?_
    first | exact h | (have e : -((y - 1 - x) / y) = x / y := hfl (by omega); rw [e]; exact h)
  · refine w_iload_n dX12_floor_4 rfl ?_
    refine w_iload_n dX12_floor_5 rfl ?_
    refine v_idiv dX12_floor_6 (by omega) (by omega) ?_
    refine w_goto 18 dX12_floor_7 (by decide) ?_
    refine v_iret dX12_floor_18 rfl ⟨rfl, rfl⟩ ?_
    first | exact h | (have e : -((y - 1 - x) / y) = x / y := hfl (by omega); rw [e]; exact h)
theorem x12_at {I : Nat → Nat → Int32} {J : Nat → Nat → Int64} {F : Option Value → zM → Prop} {b : Nat} (hb : b < 10) {r c : Int} (hr : 0 ≤ r ∧ r < 5) (hc : 0 ≤ c ∧ c < 10) (h : ∀ z : Int, z = rd I 174 (50 * (b : Int) + 10 * r + c).toNat → -2147483648 ≤ z ∧ z < 2147483648 → F (some (.int (iI z))) (gM I J)) : Cl yX12_at kX12_at [.ref 171, .int (iI (b : Int)), .int (iI r), .int (iI c)] (gM I J) F := by
  refine cl_s (by decide) (by decide) (Nat.le_of_ble_eq_true rfl) rt_i ?_
  show Wp _ F 0 [(0, .ref 171), (1, .int (iI (b : Int))), (2, .int (iI r)), (3, .int (iI c))] [] _
  refine w_aload_n dX12_at_0 rfl ?_
  refine v_getR (j := 174) dX12_at_1 fX12_17 ⟨by decide, rfl⟩ rfl rfl ?_
  refine w_bipush (v := iI 50) dX12_at_4 (by decide) ?_
  refine w_iload_n dX12_at_6 rfl ?_
  refine v_imul dX12_at_7 ?_
  refine w_bipush (v := iI 10) dX12_at_8 (by decide) ?_
  refine w_iload_n dX12_at_10 rfl ?_
  refine v_imul dX12_at_11 ?_
  refine v_iadd dX12_at_12 ?_
  refine w_iload_n dX12_at_13 rfl ?_
  refine v_iadd dX12_at_14 ?_
  refine v_iald dX12_at_15 ⟨by decide, rfl⟩ (by omega) (by omega) (by decide) (fun z15 e15 b15 => ?_)
  refine v_iret dX12_at_16 rfl ⟨rfl, rfl⟩ ?_
  exact h _ (by rw [e15]) b15
