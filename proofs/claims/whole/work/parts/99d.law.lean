/-! THE LAW: its loop -/
theorem cl_mono {y : MethodName} {K : zK} {as : List Value} {m : zM} {F G : Option Value → zM → Prop} (h : Cl y K as m F) (hg : ∀ r m', m'.2.2.2 = m.2.2.2 + zk_mc K → F r m' → G r m') : Cl y K as m G := by
  intro l D ca A ad sz h1 h2 p e ha hc hk s mi args below hf happ hP hK
  obtain ⟨k, o, a1, a2, a3, ⟨⟨r, m', ad', b1, b2, b3, b4, b5⟩, b6⟩, b7⟩ := h l D ca A ad sz h1 h2 p e ha hc hk s mi args below hf happ hP hK
  exact ⟨k, o, a1, a2, a3, ⟨⟨r, m', ad', b1, hg r m' b4 b2, b3, b4, b5⟩, b6⟩, b7⟩
abbrev lE (L : Nat) (xs : Nat → Int32) : zE := (cL_law, RL, 4, some .boolean, 10, 0, 190, false, some (L, xs))
abbrev lL (i : Int) : List (Nat × Value) := [(0, .ref 1000), (1, .ref 0), (2, .ref 171), (3, .int (iI i))]
theorem v_sl {L : Nat} {xs : Nat → Int32} {Q : Option Value → zM → Prop} {pc : Nat} {lv : List (Nat × Value)} {st : List Value} {m : zM} {x : Int} (hdg : decode (ze_cc (lE L xs)) pc = .ok (.iaload, 1)) (h0 : 0 ≤ x) (h1 : x < L) (hL : L ≤ 3072) (k : Wp (lE L xs) Q (pc + 1) lv (.int (xs x.toNat) :: st) m) : Wp (lE L xs) Q pc lv (.int (iI x) :: .ref 1000 :: st) m := w_sld hdg rfl (iI_in h0 h1 (by omega)) (by rw [iI_clamp (by omega) (by omega)]; exact k)
theorem v_sn {L : Nat} {xs : Nat → Int32} {Q : Option Value → zM → Prop} {pc : Nat} {lv : List (Nat × Value)} {st : List Value} {m : zM} (hdg : decode (ze_cc (lE L xs)) pc = .ok (.arraylength, 1)) (k : Wp (lE L xs) Q (pc + 1) lv (.int (iI (L : Int)) :: st) m) : Wp (lE L xs) Q pc lv (.ref 1000 :: st) m := w_slen hdg rfl (by
  have e : nI L = iI (L : Int) := by show Int32.ofNat L = Int32.ofInt (L : Int); exact (Int32.ofInt_eq_ofNat).symm
  rw [e]; exact k)
theorem cat_r (r : Option Value) : ((r.toList ++ []).map fun (v : Value) => v.category).sum ≤ 8 := by
  cases r with
  | none => exact Nat.zero_le _
  | some v => cases v <;> exact Nat.le_of_ble_eq_true rfl
theorem and31 (x : Int32) : 0 ≤ (x &&& iI 31).toInt ∧ (x &&& iI 31).toInt ≤ 31 := by
  have h := pk_and x (m := iI 31) 5 (by decide +kernel)
  have e : x &&& iI 31 = iI (x.toInt % 32) := by
    rw [h]
    show Int32.ofNat _ = Int32.ofInt _
    rw [← Int32.ofInt_eq_ofNat]
    congr 1
    have e : x.toInt = x.toBitVec.toInt := rfl
    rw [e, BitVec.toInt_eq_toNat_bmod, Int.bmod_def]
    have := x.toBitVec.isLt
    split <;> omega
  rw [e, iI_toInt (by omega) (by omega)]
  omega
theorem lw_c0 {L : Nat} {xs : Nat → Int32} {Q : Option Value → zM → Prop} {I : Nat → Nat → Int32} {J : Nat → Nat → Int64} (hL : L ≤ 3072) {i : Int} (h0 : 0 ≤ i) (h6 : i + 6 ≤ L) (h : Inv I J) (kont : ∀ I' J', Inv I' J' → Wp (lE L xs) Q 942 (lL i) [] (gM I' J')) : Wp (lE L xs) Q 144 (lL i) [] (gM I J) := by
  refine w_aload_n dL_law_144 rfl ?_
  refine w_aload_n dL_law_145 rfl ?_
  refine w_iload_n dL_law_146 rfl ?_
  refine w_iconst (v := iI 1) dL_law_147 rfl ?_
  refine v_iadd dL_law_148 ?_
  refine v_sl dL_law_149 (by omega) (by omega) hL ?_
  refine w_aload_n dL_law_150 rfl ?_
  refine w_iload_n dL_law_151 rfl ?_
  refine w_iconst (v := iI 2) dL_law_152 rfl ?_
  refine v_iadd dL_law_153 ?_
  refine v_sl dL_law_154 (by omega) (by omega) hL ?_
  refine w_aload_n dL_law_155 rfl ?_
  refine w_iload_n dL_law_156 rfl ?_
  refine w_iconst (v := iI 3) dL_law_157 rfl ?_
  refine v_iadd dL_law_158 ?_
  refine v_sl dL_law_159 (by omega) (by omega) hL ?_
  refine w_aload_n dL_law_160 rfl ?_
  refine w_iload_n dL_law_161 rfl ?_
  refine w_iconst (v := iI 4) dL_law_162 rfl ?_
  refine v_iadd dL_law_163 ?_
  refine v_sl dL_law_164 (by omega) (by omega) hL ?_
  refine w_aload_n dL_law_165 rfl ?_
  refine w_iload_n dL_law_166 rfl ?_
  refine w_iconst (v := iI 5) dL_law_167 rfl ?_
  refine v_iadd dL_law_168 ?_
  refine v_sl dL_law_169 (by omega) (by omega) hL ?_
  have c : both yX11_feed kX11_feed yX12_feed kX12_feed [.int (xs (i + 1).toNat), .int (xs (i + 2).toNat), .int (xs (i + 3).toNat), .int (xs (i + 4).toNat), .int (xs (i + 5).toNat)] I J := by
    have c1 := cal_feed h (xs (i + 1).toNat) (xs (i + 2).toNat) (xs (i + 3).toNat) (xs (i + 4).toNat) (xs (i + 5).toNat)
    exact c1
  refine w_callV (as := [.int (xs (i + 1).toNat), .int (xs (i + 2).toNat), .int (xs (i + 3).toNat), .int (xs (i + 4).toNat), .int (xs (i + 5).toNat)]) (id := 0) (ci := 11) (st := []) dL_law_170 lL_13 vX11_feed (Nat.le_of_ble_eq_true rfl) rfl rfl (show 0 < 190 by decide) rfl (by decide) rfl (Nat.le_of_ble_eq_true rfl) (Nat.le_of_ble_eq_true rfl) (cl_mono c (fun r m' hm hr => ?_))
  have hm2 : m'.2.2.2 = 190 := hm
  refine w_aload_n dL_law_173 rfl ?_
  refine w_aload_n dL_law_174 rfl ?_
  refine w_iload_n dL_law_175 rfl ?_
  refine w_iconst (v := iI 1) dL_law_176 rfl ?_
  refine v_iadd dL_law_177 ?_
  refine v_sl dL_law_178 (by omega) (by omega) hL ?_
  refine w_aload_n dL_law_179 rfl ?_
  refine w_iload_n dL_law_180 rfl ?_
  refine w_iconst (v := iI 2) dL_law_181 rfl ?_
  refine v_iadd dL_law_182 ?_
  refine v_sl dL_law_183 (by omega) (by omega) hL ?_
  refine w_aload_n dL_law_184 rfl ?_
  refine w_iload_n dL_law_185 rfl ?_
  refine w_iconst (v := iI 3) dL_law_186 rfl ?_
  refine v_iadd dL_law_187 ?_
  refine v_sl dL_law_188 (by omega) (by omega) hL ?_
  refine w_aload_n dL_law_189 rfl ?_
  refine w_iload_n dL_law_190 rfl ?_
  refine w_iconst (v := iI 4) dL_law_191 rfl ?_
  refine v_iadd dL_law_192 ?_
  refine v_sl dL_law_193 (by omega) (by omega) hL ?_
  refine w_aload_n dL_law_194 rfl ?_
  refine w_iload_n dL_law_195 rfl ?_
  refine w_iconst (v := iI 5) dL_law_196 rfl ?_
  refine v_iadd dL_law_197 ?_
  refine v_sl dL_law_198 (by omega) (by omega) hL ?_
  refine w_callV (as := [.int (xs (i + 1).toNat), .int (xs (i + 2).toNat), .int (xs (i + 3).toNat), .int (xs (i + 4).toNat), .int (xs (i + 5).toNat)]) (id := 171) (ci := 12) (st := r.toList ++ []) dL_law_199 lL_17 vX12_feed (Nat.le_of_ble_eq_true rfl) rfl rfl (by rw [hm2]; decide) rfl (by decide) rfl (cat_r r) (by rw [hm2]; exact Nat.le_of_ble_eq_true rfl) (cl_mono hr (fun r' m'' _ hs => ?_))
  obtain ⟨v, I', J', e1, e2, e3, hi'⟩ := hs
  subst e1 e2 e3
  show Wp (lE L xs) Q 202 (lL i) [.int v, .int v] (gM I' J')
  refine w_icmp_eq 942 dL_law_202 (by decide) (fun _ => kont I' J' hi') (fun q => absurd rfl q)
theorem lw_c1 {L : Nat} {xs : Nat → Int32} {Q : Option Value → zM → Prop} {I : Nat → Nat → Int32} {J : Nat → Nat → Int64} (hL : L ≤ 3072) {i : Int} (h0 : 0 ≤ i) (h6 : i + 6 ≤ L) (h : Inv I J) (kont : ∀ I' J', Inv I' J' → Wp (lE L xs) Q 942 (lL i) [] (gM I' J')) : Wp (lE L xs) Q 207 (lL i) [] (gM I J) := by
  refine w_aload_n dL_law_207 rfl ?_
  refine w_aload_n dL_law_208 rfl ?_
  refine w_iload_n dL_law_209 rfl ?_
  refine w_iconst (v := iI 1) dL_law_210 rfl ?_
  refine v_iadd dL_law_211 ?_
  refine v_sl dL_law_212 (by omega) (by omega) hL ?_
  have c : both yX11_end kX11_end yX12_end kX12_end [.int (xs (i + 1).toNat)] I J := by
    have c1 := cal_end h (n := (xs (i + 1).toNat).toInt) (iI_bd _)
    simp only [iI_of] at c1
    exact c1
  refine w_callV (as := [.int (xs (i + 1).toNat)]) (id := 0) (ci := 11) (st := []) dL_law_213 lL_18 vX11_end (Nat.le_of_ble_eq_true rfl) rfl rfl (show 0 < 190 by decide) rfl (by decide) rfl (Nat.le_of_ble_eq_true rfl) (Nat.le_of_ble_eq_true rfl) (cl_mono c (fun r m' hm hr => ?_))
  have hm2 : m'.2.2.2 = 190 := hm
  refine w_aload_n dL_law_216 rfl ?_
  refine w_aload_n dL_law_217 rfl ?_
  refine w_iload_n dL_law_218 rfl ?_
  refine w_iconst (v := iI 1) dL_law_219 rfl ?_
  refine v_iadd dL_law_220 ?_
  refine v_sl dL_law_221 (by omega) (by omega) hL ?_
  refine w_callV (as := [.int (xs (i + 1).toNat)]) (id := 171) (ci := 12) (st := r.toList ++ []) dL_law_222 lL_22 vX12_end (Nat.le_of_ble_eq_true rfl) rfl rfl (by rw [hm2]; decide) rfl (by decide) rfl (cat_r r) (by rw [hm2]; exact Nat.le_of_ble_eq_true rfl) (cl_mono hr (fun r' m'' _ hs => ?_))
  obtain ⟨v, I', J', e1, e2, e3, hi'⟩ := hs
  subst e1 e2 e3
  show Wp (lE L xs) Q 225 (lL i) [.int v, .int v] (gM I' J')
  refine w_icmp_eq 942 dL_law_225 (by decide) (fun _ => kont I' J' hi') (fun q => absurd rfl q)
theorem lw_c2 {L : Nat} {xs : Nat → Int32} {Q : Option Value → zM → Prop} {I : Nat → Nat → Int32} {J : Nat → Nat → Int64} (hL : L ≤ 3072) {i : Int} (h0 : 0 ≤ i) (h6 : i + 6 ≤ L) (h : Inv I J) (kont : ∀ I' J', Inv I' J' → Wp (lE L xs) Q 942 (lL i) [] (gM I' J')) : Wp (lE L xs) Q 230 (lL i) [] (gM I J) := by
  refine w_aload_n dL_law_230 rfl ?_
  refine w_aload_n dL_law_231 rfl ?_
  refine w_iload_n dL_law_232 rfl ?_
  refine w_iconst (v := iI 1) dL_law_233 rfl ?_
  refine v_iadd dL_law_234 ?_
  refine v_sl dL_law_235 (by omega) (by omega) hL ?_
  have c : both yX11_bit kX11_bit yX12_bit kX12_bit [.int (xs (i + 1).toNat)] I J := by
    have c1 := cal_bit h (b := (xs (i + 1).toNat).toInt) (iI_bd _)
    simp only [iI_of] at c1
    exact c1
  refine w_callV (as := [.int (xs (i + 1).toNat)]) (id := 0) (ci := 11) (st := []) dL_law_236 lL_23 vX11_bit (Nat.le_of_ble_eq_true rfl) rfl rfl (show 0 < 190 by decide) rfl (by decide) rfl (Nat.le_of_ble_eq_true rfl) (Nat.le_of_ble_eq_true rfl) (cl_mono c (fun r m' hm hr => ?_))
  have hm2 : m'.2.2.2 = 190 := hm
  refine w_aload_n dL_law_239 rfl ?_
  refine w_aload_n dL_law_240 rfl ?_
  refine w_iload_n dL_law_241 rfl ?_
  refine w_iconst (v := iI 1) dL_law_242 rfl ?_
  refine v_iadd dL_law_243 ?_
  refine v_sl dL_law_244 (by omega) (by omega) hL ?_
  refine w_callV (as := [.int (xs (i + 1).toNat)]) (id := 171) (ci := 12) (st := r.toList ++ []) dL_law_245 lL_27 vX12_bit (Nat.le_of_ble_eq_true rfl) rfl rfl (by rw [hm2]; decide) rfl (by decide) rfl (cat_r r) (by rw [hm2]; exact Nat.le_of_ble_eq_true rfl) (cl_mono hr (fun r' m'' _ hs => ?_))
  obtain ⟨v, I', J', e1, e2, e3, hi'⟩ := hs
  subst e1 e2 e3
  show Wp (lE L xs) Q 248 (lL i) [.int v, .int v] (gM I' J')
  refine w_icmp_eq 942 dL_law_248 (by decide) (fun _ => kont I' J' hi') (fun q => absurd rfl q)
theorem lw_c3 {L : Nat} {xs : Nat → Int32} {Q : Option Value → zM → Prop} {I : Nat → Nat → Int32} {J : Nat → Nat → Int64} (hL : L ≤ 3072) {i : Int} (h0 : 0 ≤ i) (h6 : i + 6 ≤ L) (h : Inv I J) (kont : ∀ I' J', Inv I' J' → Wp (lE L xs) Q 942 (lL i) [] (gM I' J')) : Wp (lE L xs) Q 253 (lL i) [] (gM I J) := by
  refine w_aload_n dL_law_253 rfl ?_
  refine w_aload_n dL_law_254 rfl ?_
  refine w_iload_n dL_law_255 rfl ?_
  refine w_iconst (v := iI 1) dL_law_256 rfl ?_
  refine v_iadd dL_law_257 ?_
  refine v_sl dL_law_258 (by omega) (by omega) hL ?_
  refine w_aload_n dL_law_259 rfl ?_
  refine w_iload_n dL_law_260 rfl ?_
  refine w_iconst (v := iI 2) dL_law_261 rfl ?_
  refine v_iadd dL_law_262 ?_
  refine v_sl dL_law_263 (by omega) (by omega) hL ?_
  refine w_aload_n dL_law_264 rfl ?_
  refine w_iload_n dL_law_265 rfl ?_
  refine w_iconst (v := iI 3) dL_law_266 rfl ?_
  refine v_iadd dL_law_267 ?_
  refine v_sl dL_law_268 (by omega) (by omega) hL ?_
  have c : both yX11_cell kX11_cell yX12_cell kX12_cell [.int (xs (i + 1).toNat), .int (xs (i + 2).toNat), .int (xs (i + 3).toNat)] I J := by
    have c1 := cal_cell h (b := (xs (i + 1).toNat).toInt) (r := (xs (i + 2).toNat).toInt) (c := (xs (i + 3).toNat).toInt) (iI_bd _) (iI_bd _) (iI_bd _)
    simp only [iI_of] at c1
    exact c1
  refine w_callV (as := [.int (xs (i + 1).toNat), .int (xs (i + 2).toNat), .int (xs (i + 3).toNat)]) (id := 0) (ci := 11) (st := []) dL_law_269 lL_28 vX11_cell (Nat.le_of_ble_eq_true rfl) rfl rfl (show 0 < 190 by decide) rfl (by decide) rfl (Nat.le_of_ble_eq_true rfl) (Nat.le_of_ble_eq_true rfl) (cl_mono c (fun r m' hm hr => ?_))
  have hm2 : m'.2.2.2 = 190 := hm
  refine w_aload_n dL_law_272 rfl ?_
  refine w_aload_n dL_law_273 rfl ?_
  refine w_iload_n dL_law_274 rfl ?_
  refine w_iconst (v := iI 1) dL_law_275 rfl ?_
  refine v_iadd dL_law_276 ?_
  refine v_sl dL_law_277 (by omega) (by omega) hL ?_
  refine w_aload_n dL_law_278 rfl ?_
  refine w_iload_n dL_law_279 rfl ?_
  refine w_iconst (v := iI 2) dL_law_280 rfl ?_
  refine v_iadd dL_law_281 ?_
  refine v_sl dL_law_282 (by omega) (by omega) hL ?_
  refine w_aload_n dL_law_283 rfl ?_
  refine w_iload_n dL_law_284 rfl ?_
  refine w_iconst (v := iI 3) dL_law_285 rfl ?_
  refine v_iadd dL_law_286 ?_
  refine v_sl dL_law_287 (by omega) (by omega) hL ?_
  refine w_callV (as := [.int (xs (i + 1).toNat), .int (xs (i + 2).toNat), .int (xs (i + 3).toNat)]) (id := 171) (ci := 12) (st := r.toList ++ []) dL_law_288 lL_32 vX12_cell (Nat.le_of_ble_eq_true rfl) rfl rfl (by rw [hm2]; decide) rfl (by decide) rfl (cat_r r) (by rw [hm2]; exact Nat.le_of_ble_eq_true rfl) (cl_mono hr (fun r' m'' _ hs => ?_))
  obtain ⟨v, I', J', e1, e2, e3, hi'⟩ := hs
  subst e1 e2 e3
  show Wp (lE L xs) Q 291 (lL i) [.int v, .int v] (gM I' J')
  refine w_icmp_eq 942 dL_law_291 (by decide) (fun _ => kont I' J' hi') (fun q => absurd rfl q)
theorem lw_c4 {L : Nat} {xs : Nat → Int32} {Q : Option Value → zM → Prop} {I : Nat → Nat → Int32} {J : Nat → Nat → Int64} (hL : L ≤ 3072) {i : Int} (h0 : 0 ≤ i) (h6 : i + 6 ≤ L) (h : Inv I J) (kont : ∀ I' J', Inv I' J' → Wp (lE L xs) Q 942 (lL i) [] (gM I' J')) : Wp (lE L xs) Q 296 (lL i) [] (gM I J) := by
  refine w_aload_n dL_law_296 rfl ?_
  refine w_aload_n dL_law_297 rfl ?_
  refine w_iload_n dL_law_298 rfl ?_
  refine w_iconst (v := iI 1) dL_law_299 rfl ?_
  refine v_iadd dL_law_300 ?_
  refine v_sl dL_law_301 (by omega) (by omega) hL ?_
  refine w_aload_n dL_law_302 rfl ?_
  refine w_iload_n dL_law_303 rfl ?_
  refine w_iconst (v := iI 2) dL_law_304 rfl ?_
  refine v_iadd dL_law_305 ?_
  refine v_sl dL_law_306 (by omega) (by omega) hL ?_
  refine w_if_eq 314 dL_law_307 (by decide) (fun c0 => ?_) (fun c0 => ?_)
  · refine w_iconst (v := iI 0) dL_law_314 rfl ?_
    refine w_aload_n dL_law_315 rfl ?_
    refine w_iload_n dL_law_316 rfl ?_
    refine w_iconst (v := iI 3) dL_law_317 rfl ?_
    refine v_iadd dL_law_318 ?_
    refine v_sl dL_law_319 (by omega) (by omega) hL ?_
    refine w_aload_n dL_law_320 rfl ?_
    refine w_iload_n dL_law_321 rfl ?_
    refine w_iconst (v := iI 4) dL_law_322 rfl ?_
    refine v_iadd dL_law_323 ?_
    refine v_sl dL_law_324 (by omega) (by omega) hL ?_
    have c : both yX11_fibre kX11_fibre yX12_fibre kX12_fibre [.int (xs (i + 1).toNat), .int (iI 0), .int (xs (i + 3).toNat), .int (xs (i + 4).toNat)] I J := by
      have c1 := cal_fibre h (b := (xs (i + 1).toNat).toInt) (ac := 0) (i := (xs (i + 3).toNat).toInt) (v := (xs (i + 4).toNat).toInt) (iI_bd _) (iI_bd _) (iI_bd _) (by decide)
      simp only [iI_of] at c1
      exact c1
    refine w_callV (as := [.int (xs (i + 1).toNat), .int (iI 0), .int (xs (i + 3).toNat), .int (xs (i + 4).toNat)]) (id := 0) (ci := 11) (st := []) dL_law_325 lL_33 vX11_fibre (Nat.le_of_ble_eq_true rfl) rfl rfl (show 0 < 190 by decide) rfl (by decide) rfl (Nat.le_of_ble_eq_true rfl) (Nat.le_of_ble_eq_true rfl) (cl_mono c (fun r m' hm hr => ?_))
    have hm2 : m'.2.2.2 = 190 := hm
    refine w_aload_n dL_law_328 rfl ?_
    refine w_aload_n dL_law_329 rfl ?_
    refine w_iload_n dL_law_330 rfl ?_
    refine w_iconst (v := iI 1) dL_law_331 rfl ?_
    refine v_iadd dL_law_332 ?_
    refine v_sl dL_law_333 (by omega) (by omega) hL ?_
    refine w_aload_n dL_law_334 rfl ?_
    refine w_iload_n dL_law_335 rfl ?_
    refine w_iconst (v := iI 2) dL_law_336 rfl ?_
    refine v_iadd dL_law_337 ?_
    refine v_sl dL_law_338 (by omega) (by omega) hL ?_
    refine w_if_eq 346 dL_law_339 (by decide) (fun _ => ?_) (fun c1 => absurd c0 c1)
    refine w_iconst (v := iI 0) dL_law_346 rfl ?_
    refine w_aload_n dL_law_347 rfl ?_
    refine w_iload_n dL_law_348 rfl ?_
    refine w_iconst (v := iI 3) dL_law_349 rfl ?_
    refine v_iadd dL_law_350 ?_
    refine v_sl dL_law_351 (by omega) (by omega) hL ?_
    refine w_aload_n dL_law_352 rfl ?_
    refine w_iload_n dL_law_353 rfl ?_
    refine w_iconst (v := iI 4) dL_law_354 rfl ?_
    refine v_iadd dL_law_355 ?_
    refine v_sl dL_law_356 (by omega) (by omega) hL ?_
    refine w_callV (as := [.int (xs (i + 1).toNat), .int (iI 0), .int (xs (i + 3).toNat), .int (xs (i + 4).toNat)]) (id := 171) (ci := 12) (st := r.toList ++ []) dL_law_357 lL_37 vX12_fibre (Nat.le_of_ble_eq_true rfl) rfl rfl (by rw [hm2]; decide) rfl (by decide) rfl (cat_r r) (by rw [hm2]; exact Nat.le_of_ble_eq_true rfl) (cl_mono hr (fun r' m'' _ hs => ?_))
    obtain ⟨v, I', J', e1, e2, e3, hi'⟩ := hs
    subst e1 e2 e3
    show Wp (lE L xs) Q 360 (lL i) [.int v, .int v] (gM I' J')
    refine w_icmp_eq 942 dL_law_360 (by decide) (fun _ => kont I' J' hi') (fun q => absurd rfl q)
  · refine w_iconst (v := iI 1) dL_law_310 rfl ?_
    refine w_goto 315 dL_law_311 (by decide) ?_
    refine w_aload_n dL_law_315 rfl ?_
    refine w_iload_n dL_law_316 rfl ?_
    refine w_iconst (v := iI 3) dL_law_317 rfl ?_
    refine v_iadd dL_law_318 ?_
    refine v_sl dL_law_319 (by omega) (by omega) hL ?_
    refine w_aload_n dL_law_320 rfl ?_
    refine w_iload_n dL_law_321 rfl ?_
    refine w_iconst (v := iI 4) dL_law_322 rfl ?_
    refine v_iadd dL_law_323 ?_
    refine v_sl dL_law_324 (by omega) (by omega) hL ?_
    have c : both yX11_fibre kX11_fibre yX12_fibre kX12_fibre [.int (xs (i + 1).toNat), .int (iI 1), .int (xs (i + 3).toNat), .int (xs (i + 4).toNat)] I J := by
      have c1 := cal_fibre h (b := (xs (i + 1).toNat).toInt) (ac := 1) (i := (xs (i + 3).toNat).toInt) (v := (xs (i + 4).toNat).toInt) (iI_bd _) (iI_bd _) (iI_bd _) (by decide)
      simp only [iI_of] at c1
      exact c1
    refine w_callV (as := [.int (xs (i + 1).toNat), .int (iI 1), .int (xs (i + 3).toNat), .int (xs (i + 4).toNat)]) (id := 0) (ci := 11) (st := []) dL_law_325 lL_33 vX11_fibre (Nat.le_of_ble_eq_true rfl) rfl rfl (show 0 < 190 by decide) rfl (by decide) rfl (Nat.le_of_ble_eq_true rfl) (Nat.le_of_ble_eq_true rfl) (cl_mono c (fun r m' hm hr => ?_))
    have hm2 : m'.2.2.2 = 190 := hm
    refine w_aload_n dL_law_328 rfl ?_
    refine w_aload_n dL_law_329 rfl ?_
    refine w_iload_n dL_law_330 rfl ?_
    refine w_iconst (v := iI 1) dL_law_331 rfl ?_
    refine v_iadd dL_law_332 ?_
    refine v_sl dL_law_333 (by omega) (by omega) hL ?_
    refine w_aload_n dL_law_334 rfl ?_
    refine w_iload_n dL_law_335 rfl ?_
    refine w_iconst (v := iI 2) dL_law_336 rfl ?_
    refine v_iadd dL_law_337 ?_
    refine v_sl dL_law_338 (by omega) (by omega) hL ?_
    refine w_if_eq 346 dL_law_339 (by decide) (fun c1 => absurd c1 c0) (fun _ => ?_)
    refine w_iconst (v := iI 1) dL_law_342 rfl ?_
    refine w_goto 347 dL_law_343 (by decide) ?_
    refine w_aload_n dL_law_347 rfl ?_
    refine w_iload_n dL_law_348 rfl ?_
    refine w_iconst (v := iI 3) dL_law_349 rfl ?_
    refine v_iadd dL_law_350 ?_
    refine v_sl dL_law_351 (by omega) (by omega) hL ?_
    refine w_aload_n dL_law_352 rfl ?_
    refine w_iload_n dL_law_353 rfl ?_
    refine w_iconst (v := iI 4) dL_law_354 rfl ?_
    refine v_iadd dL_law_355 ?_
    refine v_sl dL_law_356 (by omega) (by omega) hL ?_
    refine w_callV (as := [.int (xs (i + 1).toNat), .int (iI 1), .int (xs (i + 3).toNat), .int (xs (i + 4).toNat)]) (id := 171) (ci := 12) (st := r.toList ++ []) dL_law_357 lL_37 vX12_fibre (Nat.le_of_ble_eq_true rfl) rfl rfl (by rw [hm2]; decide) rfl (by decide) rfl (cat_r r) (by rw [hm2]; exact Nat.le_of_ble_eq_true rfl) (cl_mono hr (fun r' m'' _ hs => ?_))
    obtain ⟨v, I', J', e1, e2, e3, hi'⟩ := hs
    subst e1 e2 e3
    show Wp (lE L xs) Q 360 (lL i) [.int v, .int v] (gM I' J')
    refine w_icmp_eq 942 dL_law_360 (by decide) (fun _ => kont I' J' hi') (fun q => absurd rfl q)
theorem lw_c5 {L : Nat} {xs : Nat → Int32} {Q : Option Value → zM → Prop} {I : Nat → Nat → Int32} {J : Nat → Nat → Int64} (hL : L ≤ 3072) {i : Int} (h0 : 0 ≤ i) (h6 : i + 6 ≤ L) (h : Inv I J) (kont : ∀ I' J', Inv I' J' → Wp (lE L xs) Q 942 (lL i) [] (gM I' J')) : Wp (lE L xs) Q 365 (lL i) [] (gM I J) := by
  refine w_aload_n dL_law_365 rfl ?_
  have c : both yX11_word kX11_word yX12_word kX12_word [] I J := by
    have c1 := cal_word h
    exact c1
  refine w_callV (as := []) (id := 0) (ci := 11) (st := []) dL_law_366 lL_38 vX11_word (Nat.le_of_ble_eq_true rfl) rfl rfl (show 0 < 190 by decide) rfl (by decide) rfl (Nat.le_of_ble_eq_true rfl) (Nat.le_of_ble_eq_true rfl) (cl_mono c (fun r m' hm hr => ?_))
  have hm2 : m'.2.2.2 = 190 := hm
  refine w_aload_n dL_law_369 rfl ?_
  refine w_callV (as := []) (id := 171) (ci := 12) (st := r.toList ++ []) dL_law_370 lL_42 vX12_word (Nat.le_of_ble_eq_true rfl) rfl rfl (by rw [hm2]; decide) rfl (by decide) rfl (cat_r r) (by rw [hm2]; exact Nat.le_of_ble_eq_true rfl) (cl_mono hr (fun r' m'' _ hs => ?_))
  obtain ⟨v, I', J', e1, e2, e3, hi'⟩ := hs
  subst e1 e2 e3
  show Wp (lE L xs) Q 373 (lL i) [.int v, .int v] (gM I' J')
  refine w_icmp_eq 942 dL_law_373 (by decide) (fun _ => kont I' J' hi') (fun q => absurd rfl q)
theorem lw_c6 {L : Nat} {xs : Nat → Int32} {Q : Option Value → zM → Prop} {I : Nat → Nat → Int32} {J : Nat → Nat → Int64} (hL : L ≤ 3072) {i : Int} (h0 : 0 ≤ i) (h6 : i + 6 ≤ L) (h : Inv I J) (kont : ∀ I' J', Inv I' J' → Wp (lE L xs) Q 942 (lL i) [] (gM I' J')) : Wp (lE L xs) Q 378 (lL i) [] (gM I J) := by
  refine w_aload_n dL_law_378 rfl ?_
  refine w_aload_n dL_law_379 rfl ?_
  refine w_iload_n dL_law_380 rfl ?_
  refine w_iconst (v := iI 1) dL_law_381 rfl ?_
  refine v_iadd dL_law_382 ?_
  refine v_sl dL_law_383 (by omega) (by omega) hL ?_
  refine w_aload_n dL_law_384 rfl ?_
  refine w_iload_n dL_law_385 rfl ?_
  refine w_iconst (v := iI 2) dL_law_386 rfl ?_
  refine v_iadd dL_law_387 ?_
  refine v_sl dL_law_388 (by omega) (by omega) hL ?_
  refine w_aload_n dL_law_389 rfl ?_
  refine w_iload_n dL_law_390 rfl ?_
  refine w_iconst (v := iI 3) dL_law_391 rfl ?_
  refine v_iadd dL_law_392 ?_
  refine v_sl dL_law_393 (by omega) (by omega) hL ?_
  have c : both yX11_lay kX11_lay yX12_lay kX12_lay [.int (xs (i + 1).toNat), .int (xs (i + 2).toNat), .int (xs (i + 3).toNat)] I J := by
    have c1 := cal_lay h (b := (xs (i + 1).toNat).toInt) (R := (xs (i + 2).toNat).toInt) (C := (xs (i + 3).toNat).toInt) (iI_bd _) (iI_bd _) (iI_bd _)
    simp only [iI_of] at c1
    exact c1
  refine w_callV (as := [.int (xs (i + 1).toNat), .int (xs (i + 2).toNat), .int (xs (i + 3).toNat)]) (id := 0) (ci := 11) (st := []) dL_law_394 lL_43 vX11_lay (Nat.le_of_ble_eq_true rfl) rfl rfl (show 0 < 190 by decide) rfl (by decide) rfl (Nat.le_of_ble_eq_true rfl) (Nat.le_of_ble_eq_true rfl) (cl_mono c (fun r m' hm hr => ?_))
  have hm2 : m'.2.2.2 = 190 := hm
  refine w_aload_n dL_law_397 rfl ?_
  refine w_aload_n dL_law_398 rfl ?_
  refine w_iload_n dL_law_399 rfl ?_
  refine w_iconst (v := iI 1) dL_law_400 rfl ?_
  refine v_iadd dL_law_401 ?_
  refine v_sl dL_law_402 (by omega) (by omega) hL ?_
  refine w_aload_n dL_law_403 rfl ?_
  refine w_iload_n dL_law_404 rfl ?_
  refine w_iconst (v := iI 2) dL_law_405 rfl ?_
  refine v_iadd dL_law_406 ?_
  refine v_sl dL_law_407 (by omega) (by omega) hL ?_
  refine w_aload_n dL_law_408 rfl ?_
  refine w_iload_n dL_law_409 rfl ?_
  refine w_iconst (v := iI 3) dL_law_410 rfl ?_
  refine v_iadd dL_law_411 ?_
  refine v_sl dL_law_412 (by omega) (by omega) hL ?_
  refine w_callV (as := [.int (xs (i + 1).toNat), .int (xs (i + 2).toNat), .int (xs (i + 3).toNat)]) (id := 171) (ci := 12) (st := r.toList ++ []) dL_law_413 lL_47 vX12_lay (Nat.le_of_ble_eq_true rfl) rfl rfl (by rw [hm2]; decide) rfl (by decide) rfl (cat_r r) (by rw [hm2]; exact Nat.le_of_ble_eq_true rfl) (cl_mono hr (fun r' m'' _ hs => ?_))
  obtain ⟨v, I', J', e1, e2, e3, hi'⟩ := hs
  subst e1 e2 e3
  show Wp (lE L xs) Q 416 (lL i) [.int v, .int v] (gM I' J')
  refine w_icmp_eq 942 dL_law_416 (by decide) (fun _ => kont I' J' hi') (fun q => absurd rfl q)
theorem lw_c7 {L : Nat} {xs : Nat → Int32} {Q : Option Value → zM → Prop} {I : Nat → Nat → Int32} {J : Nat → Nat → Int64} (hL : L ≤ 3072) {i : Int} (h0 : 0 ≤ i) (h6 : i + 6 ≤ L) (h : Inv I J) (kont : ∀ I' J', Inv I' J' → Wp (lE L xs) Q 942 (lL i) [] (gM I' J')) : Wp (lE L xs) Q 421 (lL i) [] (gM I J) := by
  refine w_aload_n dL_law_421 rfl ?_
  refine w_aload_n dL_law_422 rfl ?_
  refine w_iload_n dL_law_423 rfl ?_
  refine w_iconst (v := iI 1) dL_law_424 rfl ?_
  refine v_iadd dL_law_425 ?_
  refine v_sl dL_law_426 (by omega) (by omega) hL ?_
  have c : both yX11_take kX11_take yX12_take kX12_take [.int (xs (i + 1).toNat)] I J := by
    have c1 := cal_take h (b := (xs (i + 1).toNat).toInt) (iI_bd _)
    simp only [iI_of] at c1
    exact c1
  refine w_callV (as := [.int (xs (i + 1).toNat)]) (id := 0) (ci := 11) (st := []) dL_law_427 lL_48 vX11_take (Nat.le_of_ble_eq_true rfl) rfl rfl (show 0 < 190 by decide) rfl (by decide) rfl (Nat.le_of_ble_eq_true rfl) (Nat.le_of_ble_eq_true rfl) (cl_mono c (fun r m' hm hr => ?_))
  have hm2 : m'.2.2.2 = 190 := hm
  refine w_aload_n dL_law_430 rfl ?_
  refine w_aload_n dL_law_431 rfl ?_
  refine w_iload_n dL_law_432 rfl ?_
  refine w_iconst (v := iI 1) dL_law_433 rfl ?_
  refine v_iadd dL_law_434 ?_
  refine v_sl dL_law_435 (by omega) (by omega) hL ?_
  refine w_callV (as := [.int (xs (i + 1).toNat)]) (id := 171) (ci := 12) (st := r.toList ++ []) dL_law_436 lL_51 vX12_take (Nat.le_of_ble_eq_true rfl) rfl rfl (by rw [hm2]; decide) rfl (by decide) rfl (cat_r r) (by rw [hm2]; exact Nat.le_of_ble_eq_true rfl) (cl_mono hr (fun r' m'' _ hs => ?_))
  obtain ⟨v, I', J', e1, e2, e3, hi'⟩ := hs
  subst e1 e2 e3
  show Wp (lE L xs) Q 439 (lL i) [.int v, .int v] (gM I' J')
  refine w_icmp_eq 942 dL_law_439 (by decide) (fun _ => kont I' J' hi') (fun q => absurd rfl q)
theorem lw_c8 {L : Nat} {xs : Nat → Int32} {Q : Option Value → zM → Prop} {I : Nat → Nat → Int32} {J : Nat → Nat → Int64} (hL : L ≤ 3072) {i : Int} (h0 : 0 ≤ i) (h6 : i + 6 ≤ L) (h : Inv I J) (kont : ∀ I' J', Inv I' J' → Wp (lE L xs) Q 942 (lL i) [] (gM I' J')) : Wp (lE L xs) Q 444 (lL i) [] (gM I J) := by
  refine w_aload_n dL_law_444 rfl ?_
  refine w_aload_n dL_law_445 rfl ?_
  refine w_iload_n dL_law_446 rfl ?_
  refine w_iconst (v := iI 1) dL_law_447 rfl ?_
  refine v_iadd dL_law_448 ?_
  refine v_sl dL_law_449 (by omega) (by omega) hL ?_
  refine w_aload_n dL_law_450 rfl ?_
  refine w_iload_n dL_law_451 rfl ?_
  refine w_iconst (v := iI 2) dL_law_452 rfl ?_
  refine v_iadd dL_law_453 ?_
  refine v_sl dL_law_454 (by omega) (by omega) hL ?_
  have c : both yX11_place kX11_place yX12_place kX12_place [.int (xs (i + 1).toNat), .int (xs (i + 2).toNat)] I J := by
    have c1 := cal_place h (b := (xs (i + 1).toNat).toInt) (k := (xs (i + 2).toNat).toInt) (iI_bd _) (iI_bd _)
    simp only [iI_of] at c1
    exact c1
  refine w_callV (as := [.int (xs (i + 1).toNat), .int (xs (i + 2).toNat)]) (id := 0) (ci := 11) (st := []) dL_law_455 lL_52 vX11_place (Nat.le_of_ble_eq_true rfl) rfl rfl (show 0 < 190 by decide) rfl (by decide) rfl (Nat.le_of_ble_eq_true rfl) (Nat.le_of_ble_eq_true rfl) (cl_mono c (fun r m' hm hr => ?_))
  have hm2 : m'.2.2.2 = 190 := hm
  refine w_aload_n dL_law_458 rfl ?_
  refine w_aload_n dL_law_459 rfl ?_
  refine w_iload_n dL_law_460 rfl ?_
  refine w_iconst (v := iI 1) dL_law_461 rfl ?_
  refine v_iadd dL_law_462 ?_
  refine v_sl dL_law_463 (by omega) (by omega) hL ?_
  refine w_aload_n dL_law_464 rfl ?_
  refine w_iload_n dL_law_465 rfl ?_
  refine w_iconst (v := iI 2) dL_law_466 rfl ?_
  refine v_iadd dL_law_467 ?_
  refine v_sl dL_law_468 (by omega) (by omega) hL ?_
  refine w_callV (as := [.int (xs (i + 1).toNat), .int (xs (i + 2).toNat)]) (id := 171) (ci := 12) (st := r.toList ++ []) dL_law_469 lL_56 vX12_place (Nat.le_of_ble_eq_true rfl) rfl rfl (by rw [hm2]; decide) rfl (by decide) rfl (cat_r r) (by rw [hm2]; exact Nat.le_of_ble_eq_true rfl) (cl_mono hr (fun r' m'' _ hs => ?_))
  obtain ⟨v, I', J', e1, e2, e3, hi'⟩ := hs
  subst e1 e2 e3
  show Wp (lE L xs) Q 472 (lL i) [.int v, .int v] (gM I' J')
  refine w_icmp_eq 942 dL_law_472 (by decide) (fun _ => kont I' J' hi') (fun q => absurd rfl q)
theorem lw_c9 {L : Nat} {xs : Nat → Int32} {Q : Option Value → zM → Prop} {I : Nat → Nat → Int32} {J : Nat → Nat → Int64} (hL : L ≤ 3072) {i : Int} (h0 : 0 ≤ i) (h6 : i + 6 ≤ L) (h : Inv I J) (kont : ∀ I' J', Inv I' J' → Wp (lE L xs) Q 942 (lL i) [] (gM I' J')) : Wp (lE L xs) Q 477 (lL i) [] (gM I J) := by
  refine w_aload_n dL_law_477 rfl ?_
  refine w_aload_n dL_law_478 rfl ?_
  refine w_iload_n dL_law_479 rfl ?_
  refine w_iconst (v := iI 1) dL_law_480 rfl ?_
  refine v_iadd dL_law_481 ?_
  refine v_sl dL_law_482 (by omega) (by omega) hL ?_
  refine w_aload_n dL_law_483 rfl ?_
  refine w_iload_n dL_law_484 rfl ?_
  refine w_iconst (v := iI 2) dL_law_485 rfl ?_
  refine v_iadd dL_law_486 ?_
  refine v_sl dL_law_487 (by omega) (by omega) hL ?_
  have c : both yX11_sheet kX11_sheet yX12_sheet kX12_sheet [.int (xs (i + 1).toNat), .int (xs (i + 2).toNat)] I J := by
    have c1 := cal_sheet h (r := (xs (i + 1).toNat).toInt) (c := (xs (i + 2).toNat).toInt) (iI_bd _) (iI_bd _)
    simp only [iI_of] at c1
    exact c1
  refine w_callV (as := [.int (xs (i + 1).toNat), .int (xs (i + 2).toNat)]) (id := 0) (ci := 11) (st := []) dL_law_488 lL_57 vX11_sheet (Nat.le_of_ble_eq_true rfl) rfl rfl (show 0 < 190 by decide) rfl (by decide) rfl (Nat.le_of_ble_eq_true rfl) (Nat.le_of_ble_eq_true rfl) (cl_mono c (fun r m' hm hr => ?_))
  have hm2 : m'.2.2.2 = 190 := hm
  refine w_aload_n dL_law_491 rfl ?_
  refine w_aload_n dL_law_492 rfl ?_
  refine w_iload_n dL_law_493 rfl ?_
  refine w_iconst (v := iI 1) dL_law_494 rfl ?_
  refine v_iadd dL_law_495 ?_
  refine v_sl dL_law_496 (by omega) (by omega) hL ?_
  refine w_aload_n dL_law_497 rfl ?_
  refine w_iload_n dL_law_498 rfl ?_
  refine w_iconst (v := iI 2) dL_law_499 rfl ?_
  refine v_iadd dL_law_500 ?_
  refine v_sl dL_law_501 (by omega) (by omega) hL ?_
  refine w_callV (as := [.int (xs (i + 1).toNat), .int (xs (i + 2).toNat)]) (id := 171) (ci := 12) (st := r.toList ++ []) dL_law_502 lL_60 vX12_sheet (Nat.le_of_ble_eq_true rfl) rfl rfl (by rw [hm2]; decide) rfl (by decide) rfl (cat_r r) (by rw [hm2]; exact Nat.le_of_ble_eq_true rfl) (cl_mono hr (fun r' m'' _ hs => ?_))
  obtain ⟨v, I', J', e1, e2, e3, hi'⟩ := hs
  subst e1 e2 e3
  show Wp (lE L xs) Q 505 (lL i) [.int v, .int v] (gM I' J')
  refine w_icmp_eq 942 dL_law_505 (by decide) (fun _ => kont I' J' hi') (fun q => absurd rfl q)
theorem lw_c10 {L : Nat} {xs : Nat → Int32} {Q : Option Value → zM → Prop} {I : Nat → Nat → Int32} {J : Nat → Nat → Int64} (hL : L ≤ 3072) {i : Int} (h0 : 0 ≤ i) (h6 : i + 6 ≤ L) (h : Inv I J) (kont : ∀ I' J', Inv I' J' → Wp (lE L xs) Q 942 (lL i) [] (gM I' J')) : Wp (lE L xs) Q 510 (lL i) [] (gM I J) := by
  refine w_aload_n dL_law_510 rfl ?_
  refine w_aload_n dL_law_511 rfl ?_
  refine w_iload_n dL_law_512 rfl ?_
  refine w_iconst (v := iI 1) dL_law_513 rfl ?_
  refine v_iadd dL_law_514 ?_
  refine v_sl dL_law_515 (by omega) (by omega) hL ?_
  refine w_aload_n dL_law_516 rfl ?_
  refine w_iload_n dL_law_517 rfl ?_
  refine w_iconst (v := iI 2) dL_law_518 rfl ?_
  refine v_iadd dL_law_519 ?_
  refine v_sl dL_law_520 (by omega) (by omega) hL ?_
  have c : both yX11_whose kX11_whose yX12_whose kX12_whose [.int (xs (i + 1).toNat), .int (xs (i + 2).toNat)] I J := by
    have c1 := cal_whose h (r := (xs (i + 1).toNat).toInt) (c := (xs (i + 2).toNat).toInt) (iI_bd _) (iI_bd _)
    simp only [iI_of] at c1
    exact c1
  refine w_callV (as := [.int (xs (i + 1).toNat), .int (xs (i + 2).toNat)]) (id := 0) (ci := 11) (st := []) dL_law_521 lL_61 vX11_whose (Nat.le_of_ble_eq_true rfl) rfl rfl (show 0 < 190 by decide) rfl (by decide) rfl (Nat.le_of_ble_eq_true rfl) (Nat.le_of_ble_eq_true rfl) (cl_mono c (fun r m' hm hr => ?_))
  have hm2 : m'.2.2.2 = 190 := hm
  refine w_aload_n dL_law_524 rfl ?_
  refine w_aload_n dL_law_525 rfl ?_
  refine w_iload_n dL_law_526 rfl ?_
  refine w_iconst (v := iI 1) dL_law_527 rfl ?_
  refine v_iadd dL_law_528 ?_
  refine v_sl dL_law_529 (by omega) (by omega) hL ?_
  refine w_aload_n dL_law_530 rfl ?_
  refine w_iload_n dL_law_531 rfl ?_
  refine w_iconst (v := iI 2) dL_law_532 rfl ?_
  refine v_iadd dL_law_533 ?_
  refine v_sl dL_law_534 (by omega) (by omega) hL ?_
  refine w_callV (as := [.int (xs (i + 1).toNat), .int (xs (i + 2).toNat)]) (id := 171) (ci := 12) (st := r.toList ++ []) dL_law_535 lL_64 vX12_whose (Nat.le_of_ble_eq_true rfl) rfl rfl (by rw [hm2]; decide) rfl (by decide) rfl (cat_r r) (by rw [hm2]; exact Nat.le_of_ble_eq_true rfl) (cl_mono hr (fun r' m'' _ hs => ?_))
  obtain ⟨v, I', J', e1, e2, e3, hi'⟩ := hs
  subst e1 e2 e3
  show Wp (lE L xs) Q 538 (lL i) [.int v, .int v] (gM I' J')
  refine w_icmp_eq 942 dL_law_538 (by decide) (fun _ => kont I' J' hi') (fun q => absurd rfl q)
theorem lw_c11 {L : Nat} {xs : Nat → Int32} {Q : Option Value → zM → Prop} {I : Nat → Nat → Int32} {J : Nat → Nat → Int64} (hL : L ≤ 3072) {i : Int} (h0 : 0 ≤ i) (h6 : i + 6 ≤ L) (h : Inv I J) (kont : ∀ I' J', Inv I' J' → Wp (lE L xs) Q 942 (lL i) [] (gM I' J')) : Wp (lE L xs) Q 543 (lL i) [] (gM I J) := by
  refine w_aload_n dL_law_543 rfl ?_
  refine w_aload_n dL_law_544 rfl ?_
  refine w_iload_n dL_law_545 rfl ?_
  refine w_iconst (v := iI 1) dL_law_546 rfl ?_
  refine v_iadd dL_law_547 ?_
  refine v_sl dL_law_548 (by omega) (by omega) hL ?_
  refine w_aload_n dL_law_549 rfl ?_
  refine w_iload_n dL_law_550 rfl ?_
  refine w_iconst (v := iI 2) dL_law_551 rfl ?_
  refine v_iadd dL_law_552 ?_
  refine v_sl dL_law_553 (by omega) (by omega) hL ?_
  have c : both yX11_words kX11_words yX12_words kX12_words [.int (xs (i + 1).toNat), .int (xs (i + 2).toNat)] I J := by
    have c1 := cal_words h (r := (xs (i + 1).toNat).toInt) (c := (xs (i + 2).toNat).toInt) (iI_bd _) (iI_bd _)
    simp only [iI_of] at c1
    exact c1
  refine w_callV (as := [.int (xs (i + 1).toNat), .int (xs (i + 2).toNat)]) (id := 0) (ci := 11) (st := []) dL_law_554 lL_65 vX11_words (Nat.le_of_ble_eq_true rfl) rfl rfl (show 0 < 190 by decide) rfl (by decide) rfl (Nat.le_of_ble_eq_true rfl) (Nat.le_of_ble_eq_true rfl) (cl_mono c (fun r m' hm hr => ?_))
  have hm2 : m'.2.2.2 = 190 := hm
  refine w_aload_n dL_law_557 rfl ?_
  refine w_aload_n dL_law_558 rfl ?_
  refine w_iload_n dL_law_559 rfl ?_
  refine w_iconst (v := iI 1) dL_law_560 rfl ?_
  refine v_iadd dL_law_561 ?_
  refine v_sl dL_law_562 (by omega) (by omega) hL ?_
  refine w_aload_n dL_law_563 rfl ?_
  refine w_iload_n dL_law_564 rfl ?_
  refine w_iconst (v := iI 2) dL_law_565 rfl ?_
  refine v_iadd dL_law_566 ?_
  refine v_sl dL_law_567 (by omega) (by omega) hL ?_
  refine w_callV (as := [.int (xs (i + 1).toNat), .int (xs (i + 2).toNat)]) (id := 171) (ci := 12) (st := r.toList ++ []) dL_law_568 lL_68 vX12_words (Nat.le_of_ble_eq_true rfl) rfl rfl (by rw [hm2]; decide) rfl (by decide) rfl (cat_r r) (by rw [hm2]; exact Nat.le_of_ble_eq_true rfl) (cl_mono hr (fun r' m'' _ hs => ?_))
  obtain ⟨v, I', J', e1, e2, e3, hi'⟩ := hs
  subst e1 e2 e3
  show Wp (lE L xs) Q 571 (lL i) [.int v, .int v] (gM I' J')
  refine w_icmp_eq 942 dL_law_571 (by decide) (fun _ => kont I' J' hi') (fun q => absurd rfl q)
theorem lw_c12 {L : Nat} {xs : Nat → Int32} {Q : Option Value → zM → Prop} {I : Nat → Nat → Int32} {J : Nat → Nat → Int64} (hL : L ≤ 3072) {i : Int} (h0 : 0 ≤ i) (h6 : i + 6 ≤ L) (h : Inv I J) (kont : ∀ I' J', Inv I' J' → Wp (lE L xs) Q 942 (lL i) [] (gM I' J')) : Wp (lE L xs) Q 576 (lL i) [] (gM I J) := by
  refine w_aload_n dL_law_576 rfl ?_
  refine w_aload_n dL_law_577 rfl ?_
  refine w_iload_n dL_law_578 rfl ?_
  refine w_iconst (v := iI 1) dL_law_579 rfl ?_
  refine v_iadd dL_law_580 ?_
  refine v_sl dL_law_581 (by omega) (by omega) hL ?_
  refine w_aload_n dL_law_582 rfl ?_
  refine w_iload_n dL_law_583 rfl ?_
  refine w_iconst (v := iI 2) dL_law_584 rfl ?_
  refine v_iadd dL_law_585 ?_
  refine v_sl dL_law_586 (by omega) (by omega) hL ?_
  refine w_aload_n dL_law_587 rfl ?_
  refine w_iload_n dL_law_588 rfl ?_
  refine w_iconst (v := iI 3) dL_law_589 rfl ?_
  refine v_iadd dL_law_590 ?_
  refine v_sl dL_law_591 (by omega) (by omega) hL ?_
  have c : both yX11_read kX11_read yX12_read kX12_read [.int (xs (i + 1).toNat), .int (xs (i + 2).toNat), .int (xs (i + 3).toNat)] I J := by
    have c1 := cal_read h (r := (xs (i + 1).toNat).toInt) (c := (xs (i + 2).toNat).toInt) (t := (xs (i + 3).toNat).toInt) (iI_bd _) (iI_bd _) (iI_bd _)
    simp only [iI_of] at c1
    exact c1
  refine w_callV (as := [.int (xs (i + 1).toNat), .int (xs (i + 2).toNat), .int (xs (i + 3).toNat)]) (id := 0) (ci := 11) (st := []) dL_law_592 lL_69 vX11_read (Nat.le_of_ble_eq_true rfl) rfl rfl (show 0 < 190 by decide) rfl (by decide) rfl (Nat.le_of_ble_eq_true rfl) (Nat.le_of_ble_eq_true rfl) (cl_mono c (fun r m' hm hr => ?_))
  have hm2 : m'.2.2.2 = 190 := hm
  refine w_aload_n dL_law_595 rfl ?_
  refine w_aload_n dL_law_596 rfl ?_
  refine w_iload_n dL_law_597 rfl ?_
  refine w_iconst (v := iI 1) dL_law_598 rfl ?_
  refine v_iadd dL_law_599 ?_
  refine v_sl dL_law_600 (by omega) (by omega) hL ?_
  refine w_aload_n dL_law_601 rfl ?_
  refine w_iload_n dL_law_602 rfl ?_
  refine w_iconst (v := iI 2) dL_law_603 rfl ?_
  refine v_iadd dL_law_604 ?_
  refine v_sl dL_law_605 (by omega) (by omega) hL ?_
  refine w_aload_n dL_law_606 rfl ?_
  refine w_iload_n dL_law_607 rfl ?_
  refine w_iconst (v := iI 3) dL_law_608 rfl ?_
  refine v_iadd dL_law_609 ?_
  refine v_sl dL_law_610 (by omega) (by omega) hL ?_
  refine w_callV (as := [.int (xs (i + 1).toNat), .int (xs (i + 2).toNat), .int (xs (i + 3).toNat)]) (id := 171) (ci := 12) (st := r.toList ++ []) dL_law_611 lL_72 vX12_read (Nat.le_of_ble_eq_true rfl) rfl rfl (by rw [hm2]; decide) rfl (by decide) rfl (cat_r r) (by rw [hm2]; exact Nat.le_of_ble_eq_true rfl) (cl_mono hr (fun r' m'' _ hs => ?_))
  obtain ⟨v, I', J', e1, e2, e3, hi'⟩ := hs
  subst e1 e2 e3
  show Wp (lE L xs) Q 614 (lL i) [.int v, .int v] (gM I' J')
  refine w_icmp_eq 942 dL_law_614 (by decide) (fun _ => kont I' J' hi') (fun q => absurd rfl q)
theorem lw_c13 {L : Nat} {xs : Nat → Int32} {Q : Option Value → zM → Prop} {I : Nat → Nat → Int32} {J : Nat → Nat → Int64} (hL : L ≤ 3072) {i : Int} (h0 : 0 ≤ i) (h6 : i + 6 ≤ L) (h : Inv I J) (kont : ∀ I' J', Inv I' J' → Wp (lE L xs) Q 942 (lL i) [] (gM I' J')) : Wp (lE L xs) Q 619 (lL i) [] (gM I J) := by
  refine w_aload_n dL_law_619 rfl ?_
  have c : both yX11_worth kX11_worth yX12_worth kX12_worth [] I J := by
    have c1 := cal_worth h
    exact c1
  refine w_callV (as := []) (id := 0) (ci := 11) (st := []) dL_law_620 lL_73 vX11_worth (Nat.le_of_ble_eq_true rfl) rfl rfl (show 0 < 190 by decide) rfl (by decide) rfl (Nat.le_of_ble_eq_true rfl) (Nat.le_of_ble_eq_true rfl) (cl_mono c (fun r m' hm hr => ?_))
  have hm2 : m'.2.2.2 = 190 := hm
  refine w_aload_n dL_law_623 rfl ?_
  refine w_callV (as := []) (id := 171) (ci := 12) (st := r.toList ++ []) dL_law_624 lL_76 vX12_worth (Nat.le_of_ble_eq_true rfl) rfl rfl (by rw [hm2]; decide) rfl (by decide) rfl (cat_r r) (by rw [hm2]; exact Nat.le_of_ble_eq_true rfl) (cl_mono hr (fun r' m'' _ hs => ?_))
  obtain ⟨v, I', J', e1, e2, e3, hi'⟩ := hs
  subst e1 e2 e3
  show Wp (lE L xs) Q 627 (lL i) [.int v, .int v] (gM I' J')
  refine w_icmp_eq 942 dL_law_627 (by decide) (fun _ => kont I' J' hi') (fun q => absurd rfl q)
theorem lw_c14 {L : Nat} {xs : Nat → Int32} {Q : Option Value → zM → Prop} {I : Nat → Nat → Int32} {J : Nat → Nat → Int64} (hL : L ≤ 3072) {i : Int} (h0 : 0 ≤ i) (h6 : i + 6 ≤ L) (h : Inv I J) (kont : ∀ I' J', Inv I' J' → Wp (lE L xs) Q 942 (lL i) [] (gM I' J')) : Wp (lE L xs) Q 632 (lL i) [] (gM I J) := by
  refine w_aload_n dL_law_632 rfl ?_
  refine w_aload_n dL_law_633 rfl ?_
  refine w_iload_n dL_law_634 rfl ?_
  refine w_iconst (v := iI 1) dL_law_635 rfl ?_
  refine v_iadd dL_law_636 ?_
  refine v_sl dL_law_637 (by omega) (by omega) hL ?_
  refine w_aload_n dL_law_638 rfl ?_
  refine w_iload_n dL_law_639 rfl ?_
  refine w_iconst (v := iI 2) dL_law_640 rfl ?_
  refine v_iadd dL_law_641 ?_
  refine v_sl dL_law_642 (by omega) (by omega) hL ?_
  have c : both yX11_join kX11_join yX12_join kX12_join [.int (xs (i + 1).toNat), .int (xs (i + 2).toNat)] I J := by
    have c1 := cal_join h (a := (xs (i + 1).toNat).toInt) (b := (xs (i + 2).toNat).toInt) (iI_bd _) (iI_bd _)
    simp only [iI_of] at c1
    exact c1
  refine w_callV (as := [.int (xs (i + 1).toNat), .int (xs (i + 2).toNat)]) (id := 0) (ci := 11) (st := []) dL_law_643 lL_77 vX11_join (Nat.le_of_ble_eq_true rfl) rfl rfl (show 0 < 190 by decide) rfl (by decide) rfl (Nat.le_of_ble_eq_true rfl) (Nat.le_of_ble_eq_true rfl) (cl_mono c (fun r m' hm hr => ?_))
  have hm2 : m'.2.2.2 = 190 := hm
  refine w_aload_n dL_law_646 rfl ?_
  refine w_aload_n dL_law_647 rfl ?_
  refine w_iload_n dL_law_648 rfl ?_
  refine w_iconst (v := iI 1) dL_law_649 rfl ?_
  refine v_iadd dL_law_650 ?_
  refine v_sl dL_law_651 (by omega) (by omega) hL ?_
  refine w_aload_n dL_law_652 rfl ?_
  refine w_iload_n dL_law_653 rfl ?_
  refine w_iconst (v := iI 2) dL_law_654 rfl ?_
  refine v_iadd dL_law_655 ?_
  refine v_sl dL_law_656 (by omega) (by omega) hL ?_
  refine w_callV (as := [.int (xs (i + 1).toNat), .int (xs (i + 2).toNat)]) (id := 171) (ci := 12) (st := r.toList ++ []) dL_law_657 lL_80 vX12_join (Nat.le_of_ble_eq_true rfl) rfl rfl (by rw [hm2]; decide) rfl (by decide) rfl (cat_r r) (by rw [hm2]; exact Nat.le_of_ble_eq_true rfl) (cl_mono hr (fun r' m'' _ hs => ?_))
  obtain ⟨v, I', J', e1, e2, e3, hi'⟩ := hs
  subst e1 e2 e3
  show Wp (lE L xs) Q 660 (lL i) [.int v, .int v] (gM I' J')
  refine w_icmp_eq 942 dL_law_660 (by decide) (fun _ => kont I' J' hi') (fun q => absurd rfl q)
theorem lw_c15 {L : Nat} {xs : Nat → Int32} {Q : Option Value → zM → Prop} {I : Nat → Nat → Int32} {J : Nat → Nat → Int64} (hL : L ≤ 3072) {i : Int} (h0 : 0 ≤ i) (h6 : i + 6 ≤ L) (h : Inv I J) (kont : ∀ I' J', Inv I' J' → Wp (lE L xs) Q 942 (lL i) [] (gM I' J')) : Wp (lE L xs) Q 665 (lL i) [] (gM I J) := by
  refine w_aload_n dL_law_665 rfl ?_
  refine w_aload_n dL_law_666 rfl ?_
  refine w_iload_n dL_law_667 rfl ?_
  refine w_iconst (v := iI 1) dL_law_668 rfl ?_
  refine v_iadd dL_law_669 ?_
  refine v_sl dL_law_670 (by omega) (by omega) hL ?_
  have c : both yX11_joins kX11_joins yX12_joins kX12_joins [.int (xs (i + 1).toNat)] I J := by
    have c1 := cal_joins h (a := (xs (i + 1).toNat).toInt) (iI_bd _)
    simp only [iI_of] at c1
    exact c1
  refine w_callV (as := [.int (xs (i + 1).toNat)]) (id := 0) (ci := 11) (st := []) dL_law_671 lL_81 vX11_joins (Nat.le_of_ble_eq_true rfl) rfl rfl (show 0 < 190 by decide) rfl (by decide) rfl (Nat.le_of_ble_eq_true rfl) (Nat.le_of_ble_eq_true rfl) (cl_mono c (fun r m' hm hr => ?_))
  have hm2 : m'.2.2.2 = 190 := hm
  refine w_aload_n dL_law_674 rfl ?_
  refine w_aload_n dL_law_675 rfl ?_
  refine w_iload_n dL_law_676 rfl ?_
  refine w_iconst (v := iI 1) dL_law_677 rfl ?_
  refine v_iadd dL_law_678 ?_
  refine v_sl dL_law_679 (by omega) (by omega) hL ?_
  refine w_callV (as := [.int (xs (i + 1).toNat)]) (id := 171) (ci := 12) (st := r.toList ++ []) dL_law_680 lL_84 vX12_joins (Nat.le_of_ble_eq_true rfl) rfl rfl (by rw [hm2]; decide) rfl (by decide) rfl (cat_r r) (by rw [hm2]; exact Nat.le_of_ble_eq_true rfl) (cl_mono hr (fun r' m'' _ hs => ?_))
  obtain ⟨v, I', J', e1, e2, e3, hi'⟩ := hs
  subst e1 e2 e3
  show Wp (lE L xs) Q 683 (lL i) [.int v, .int v] (gM I' J')
  refine w_icmp_eq 942 dL_law_683 (by decide) (fun _ => kont I' J' hi') (fun q => absurd rfl q)
theorem lw_c16 {L : Nat} {xs : Nat → Int32} {Q : Option Value → zM → Prop} {I : Nat → Nat → Int32} {J : Nat → Nat → Int64} (hL : L ≤ 3072) {i : Int} (h0 : 0 ≤ i) (h6 : i + 6 ≤ L) (h : Inv I J) (kont : ∀ I' J', Inv I' J' → Wp (lE L xs) Q 942 (lL i) [] (gM I' J')) : Wp (lE L xs) Q 688 (lL i) [] (gM I J) := by
  refine w_aload_n dL_law_688 rfl ?_
  refine w_aload_n dL_law_689 rfl ?_
  refine w_iload_n dL_law_690 rfl ?_
  refine w_iconst (v := iI 1) dL_law_691 rfl ?_
  refine v_iadd dL_law_692 ?_
  refine v_sl dL_law_693 (by omega) (by omega) hL ?_
  refine w_aload_n dL_law_694 rfl ?_
  refine w_iload_n dL_law_695 rfl ?_
  refine w_iconst (v := iI 2) dL_law_696 rfl ?_
  refine v_iadd dL_law_697 ?_
  refine v_sl dL_law_698 (by omega) (by omega) hL ?_
  have c : both yX11_roll kX11_roll yX12_roll kX12_roll [.int (xs (i + 1).toNat), .int (xs (i + 2).toNat)] I J := by
    have c1 := cal_roll h (g := (xs (i + 1).toNat).toInt) (s := (xs (i + 2).toNat).toInt) (iI_bd _) (iI_bd _)
    simp only [iI_of] at c1
    exact c1
  refine w_callV (as := [.int (xs (i + 1).toNat), .int (xs (i + 2).toNat)]) (id := 0) (ci := 11) (st := []) dL_law_699 lL_85 vX11_roll (Nat.le_of_ble_eq_true rfl) rfl rfl (show 0 < 190 by decide) rfl (by decide) rfl (Nat.le_of_ble_eq_true rfl) (Nat.le_of_ble_eq_true rfl) (cl_mono c (fun r m' hm hr => ?_))
  have hm2 : m'.2.2.2 = 190 := hm
  refine w_aload_n dL_law_702 rfl ?_
  refine w_aload_n dL_law_703 rfl ?_
  refine w_iload_n dL_law_704 rfl ?_
  refine w_iconst (v := iI 1) dL_law_705 rfl ?_
  refine v_iadd dL_law_706 ?_
  refine v_sl dL_law_707 (by omega) (by omega) hL ?_
  refine w_aload_n dL_law_708 rfl ?_
  refine w_iload_n dL_law_709 rfl ?_
  refine w_iconst (v := iI 2) dL_law_710 rfl ?_
  refine v_iadd dL_law_711 ?_
  refine v_sl dL_law_712 (by omega) (by omega) hL ?_
  refine w_callV (as := [.int (xs (i + 1).toNat), .int (xs (i + 2).toNat)]) (id := 171) (ci := 12) (st := r.toList ++ []) dL_law_713 lL_88 vX12_roll (Nat.le_of_ble_eq_true rfl) rfl rfl (by rw [hm2]; decide) rfl (by decide) rfl (cat_r r) (by rw [hm2]; exact Nat.le_of_ble_eq_true rfl) (cl_mono hr (fun r' m'' _ hs => ?_))
  obtain ⟨v, I', J', e1, e2, e3, hi'⟩ := hs
  subst e1 e2 e3
  show Wp (lE L xs) Q 716 (lL i) [.int v, .int v] (gM I' J')
  refine w_icmp_eq 942 dL_law_716 (by decide) (fun _ => kont I' J' hi') (fun q => absurd rfl q)
theorem lw_c17 {L : Nat} {xs : Nat → Int32} {Q : Option Value → zM → Prop} {I : Nat → Nat → Int32} {J : Nat → Nat → Int64} (hL : L ≤ 3072) {i : Int} (h0 : 0 ≤ i) (h6 : i + 6 ≤ L) (h : Inv I J) (kont : ∀ I' J', Inv I' J' → Wp (lE L xs) Q 942 (lL i) [] (gM I' J')) : Wp (lE L xs) Q 721 (lL i) [] (gM I J) := by
  refine w_aload_n dL_law_721 rfl ?_
  refine w_aload_n dL_law_722 rfl ?_
  refine w_iload_n dL_law_723 rfl ?_
  refine w_iconst (v := iI 1) dL_law_724 rfl ?_
  refine v_iadd dL_law_725 ?_
  refine v_sl dL_law_726 (by omega) (by omega) hL ?_
  refine w_aload_n dL_law_727 rfl ?_
  refine w_iload_n dL_law_728 rfl ?_
  refine w_iconst (v := iI 2) dL_law_729 rfl ?_
  refine v_iadd dL_law_730 ?_
  refine v_sl dL_law_731 (by omega) (by omega) hL ?_
  have c : both yX11_hole kX11_hole yX12_hole kX12_hole [.int (xs (i + 1).toNat), .int (xs (i + 2).toNat)] I J := by
    have c1 := cal_hole h (b := (xs (i + 1).toNat).toInt) (d := (xs (i + 2).toNat).toInt) (iI_bd _) (iI_bd _)
    simp only [iI_of] at c1
    exact c1
  refine w_callV (as := [.int (xs (i + 1).toNat), .int (xs (i + 2).toNat)]) (id := 0) (ci := 11) (st := []) dL_law_732 lL_89 vX11_hole (Nat.le_of_ble_eq_true rfl) rfl rfl (show 0 < 190 by decide) rfl (by decide) rfl (Nat.le_of_ble_eq_true rfl) (Nat.le_of_ble_eq_true rfl) (cl_mono c (fun r m' hm hr => ?_))
  have hm2 : m'.2.2.2 = 190 := hm
  refine w_aload_n dL_law_735 rfl ?_
  refine w_aload_n dL_law_736 rfl ?_
  refine w_iload_n dL_law_737 rfl ?_
  refine w_iconst (v := iI 1) dL_law_738 rfl ?_
  refine v_iadd dL_law_739 ?_
  refine v_sl dL_law_740 (by omega) (by omega) hL ?_
  refine w_aload_n dL_law_741 rfl ?_
  refine w_iload_n dL_law_742 rfl ?_
  refine w_iconst (v := iI 2) dL_law_743 rfl ?_
  refine v_iadd dL_law_744 ?_
  refine v_sl dL_law_745 (by omega) (by omega) hL ?_
  refine w_callV (as := [.int (xs (i + 1).toNat), .int (xs (i + 2).toNat)]) (id := 171) (ci := 12) (st := r.toList ++ []) dL_law_746 lL_92 vX12_hole (Nat.le_of_ble_eq_true rfl) rfl rfl (by rw [hm2]; decide) rfl (by decide) rfl (cat_r r) (by rw [hm2]; exact Nat.le_of_ble_eq_true rfl) (cl_mono hr (fun r' m'' _ hs => ?_))
  obtain ⟨v, I', J', e1, e2, e3, hi'⟩ := hs
  subst e1 e2 e3
  show Wp (lE L xs) Q 749 (lL i) [.int v, .int v] (gM I' J')
  refine w_icmp_eq 942 dL_law_749 (by decide) (fun _ => kont I' J' hi') (fun q => absurd rfl q)
theorem lw_c18 {L : Nat} {xs : Nat → Int32} {Q : Option Value → zM → Prop} {I : Nat → Nat → Int32} {J : Nat → Nat → Int64} (hL : L ≤ 3072) {i : Int} (h0 : 0 ≤ i) (h6 : i + 6 ≤ L) (h : Inv I J) (kont : ∀ I' J', Inv I' J' → Wp (lE L xs) Q 942 (lL i) [] (gM I' J')) : Wp (lE L xs) Q 754 (lL i) [] (gM I J) := by
  refine w_aload_n dL_law_754 rfl ?_
  refine w_aload_n dL_law_755 rfl ?_
  refine w_iload_n dL_law_756 rfl ?_
  refine w_iconst (v := iI 1) dL_law_757 rfl ?_
  refine v_iadd dL_law_758 ?_
  refine v_sl dL_law_759 (by omega) (by omega) hL ?_
  have c : both yX11_stood kX11_stood yX12_stood kX12_stood [.int (xs (i + 1).toNat)] I J := by
    have c1 := cal_stood h (b := (xs (i + 1).toNat).toInt) (iI_bd _)
    simp only [iI_of] at c1
    exact c1
  refine w_callV (as := [.int (xs (i + 1).toNat)]) (id := 0) (ci := 11) (st := []) dL_law_760 lL_93 vX11_stood (Nat.le_of_ble_eq_true rfl) rfl rfl (show 0 < 190 by decide) rfl (by decide) rfl (Nat.le_of_ble_eq_true rfl) (Nat.le_of_ble_eq_true rfl) (cl_mono c (fun r m' hm hr => ?_))
  have hm2 : m'.2.2.2 = 190 := hm
  refine w_aload_n dL_law_763 rfl ?_
  refine w_aload_n dL_law_764 rfl ?_
  refine w_iload_n dL_law_765 rfl ?_
  refine w_iconst (v := iI 1) dL_law_766 rfl ?_
  refine v_iadd dL_law_767 ?_
  refine v_sl dL_law_768 (by omega) (by omega) hL ?_
  refine w_callV (as := [.int (xs (i + 1).toNat)]) (id := 171) (ci := 12) (st := r.toList ++ []) dL_law_769 lL_96 vX12_stood (Nat.le_of_ble_eq_true rfl) rfl rfl (by rw [hm2]; decide) rfl (by decide) rfl (cat_r r) (by rw [hm2]; exact Nat.le_of_ble_eq_true rfl) (cl_mono hr (fun r' m'' _ hs => ?_))
  obtain ⟨v, I', J', e1, e2, e3, hi'⟩ := hs
  subst e1 e2 e3
  show Wp (lE L xs) Q 772 (lL i) [.int v, .int v] (gM I' J')
  refine w_icmp_eq 942 dL_law_772 (by decide) (fun _ => kont I' J' hi') (fun q => absurd rfl q)
theorem lw_c19 {L : Nat} {xs : Nat → Int32} {Q : Option Value → zM → Prop} {I : Nat → Nat → Int32} {J : Nat → Nat → Int64} (hL : L ≤ 3072) {i : Int} (h0 : 0 ≤ i) (h6 : i + 6 ≤ L) (h : Inv I J) (kont : ∀ I' J', Inv I' J' → Wp (lE L xs) Q 942 (lL i) [] (gM I' J')) : Wp (lE L xs) Q 777 (lL i) [] (gM I J) := by
  refine w_aload_n dL_law_777 rfl ?_
  refine w_aload_n dL_law_778 rfl ?_
  refine w_iload_n dL_law_779 rfl ?_
  refine w_iconst (v := iI 1) dL_law_780 rfl ?_
  refine v_iadd dL_law_781 ?_
  refine v_sl dL_law_782 (by omega) (by omega) hL ?_
  refine w_aload_n dL_law_783 rfl ?_
  refine w_iload_n dL_law_784 rfl ?_
  refine w_iconst (v := iI 2) dL_law_785 rfl ?_
  refine v_iadd dL_law_786 ?_
  refine v_sl dL_law_787 (by omega) (by omega) hL ?_
  have c : both yX11_standing kX11_standing yX12_standing kX12_standing [.int (xs (i + 1).toNat), .int (xs (i + 2).toNat)] I J := by
    have c1 := cal_standing h (b := (xs (i + 1).toNat).toInt) (t := (xs (i + 2).toNat).toInt) (iI_bd _) (iI_bd _)
    simp only [iI_of] at c1
    exact c1
  refine w_callV (as := [.int (xs (i + 1).toNat), .int (xs (i + 2).toNat)]) (id := 0) (ci := 11) (st := []) dL_law_788 lL_97 vX11_standing (Nat.le_of_ble_eq_true rfl) rfl rfl (show 0 < 190 by decide) rfl (by decide) rfl (Nat.le_of_ble_eq_true rfl) (Nat.le_of_ble_eq_true rfl) (cl_mono c (fun r m' hm hr => ?_))
  have hm2 : m'.2.2.2 = 190 := hm
  refine w_aload_n dL_law_791 rfl ?_
  refine w_aload_n dL_law_792 rfl ?_
  refine w_iload_n dL_law_793 rfl ?_
  refine w_iconst (v := iI 1) dL_law_794 rfl ?_
  refine v_iadd dL_law_795 ?_
  refine v_sl dL_law_796 (by omega) (by omega) hL ?_
  refine w_aload_n dL_law_797 rfl ?_
  refine w_iload_n dL_law_798 rfl ?_
  refine w_iconst (v := iI 2) dL_law_799 rfl ?_
  refine v_iadd dL_law_800 ?_
  refine v_sl dL_law_801 (by omega) (by omega) hL ?_
  refine w_callV (as := [.int (xs (i + 1).toNat), .int (xs (i + 2).toNat)]) (id := 171) (ci := 12) (st := r.toList ++ []) dL_law_802 lL_100 vX12_standing (Nat.le_of_ble_eq_true rfl) rfl rfl (by rw [hm2]; decide) rfl (by decide) rfl (cat_r r) (by rw [hm2]; exact Nat.le_of_ble_eq_true rfl) (cl_mono hr (fun r' m'' _ hs => ?_))
  obtain ⟨v, I', J', e1, e2, e3, hi'⟩ := hs
  subst e1 e2 e3
  show Wp (lE L xs) Q 805 (lL i) [.int v, .int v] (gM I' J')
  refine w_icmp_eq 942 dL_law_805 (by decide) (fun _ => kont I' J' hi') (fun q => absurd rfl q)
theorem lw_c20 {L : Nat} {xs : Nat → Int32} {Q : Option Value → zM → Prop} {I : Nat → Nat → Int32} {J : Nat → Nat → Int64} (hL : L ≤ 3072) {i : Int} (h0 : 0 ≤ i) (h6 : i + 6 ≤ L) (h : Inv I J) (kont : ∀ I' J', Inv I' J' → Wp (lE L xs) Q 942 (lL i) [] (gM I' J')) : Wp (lE L xs) Q 810 (lL i) [] (gM I J) := by
  refine w_aload_n dL_law_810 rfl ?_
  have c : both yX11_known kX11_known yX12_known kX12_known [] I J := by
    have c1 := cal_known h
    exact c1
  refine w_callV (as := []) (id := 0) (ci := 11) (st := []) dL_law_811 lL_101 vX11_known (Nat.le_of_ble_eq_true rfl) rfl rfl (show 0 < 190 by decide) rfl (by decide) rfl (Nat.le_of_ble_eq_true rfl) (Nat.le_of_ble_eq_true rfl) (cl_mono c (fun r m' hm hr => ?_))
  have hm2 : m'.2.2.2 = 190 := hm
  refine w_aload_n dL_law_814 rfl ?_
  refine w_callV (as := []) (id := 171) (ci := 12) (st := r.toList ++ []) dL_law_815 lL_104 vX12_known (Nat.le_of_ble_eq_true rfl) rfl rfl (by rw [hm2]; decide) rfl (by decide) rfl (cat_r r) (by rw [hm2]; exact Nat.le_of_ble_eq_true rfl) (cl_mono hr (fun r' m'' _ hs => ?_))
  obtain ⟨v, I', J', e1, e2, e3, hi'⟩ := hs
  subst e1 e2 e3
  show Wp (lE L xs) Q 818 (lL i) [.int v, .int v] (gM I' J')
  refine w_icmp_eq 942 dL_law_818 (by decide) (fun _ => kont I' J' hi') (fun q => absurd rfl q)
theorem lw_c21 {L : Nat} {xs : Nat → Int32} {Q : Option Value → zM → Prop} {I : Nat → Nat → Int32} {J : Nat → Nat → Int64} (hL : L ≤ 3072) {i : Int} (h0 : 0 ≤ i) (h6 : i + 6 ≤ L) (h : Inv I J) (kont : ∀ I' J', Inv I' J' → Wp (lE L xs) Q 942 (lL i) [] (gM I' J')) : Wp (lE L xs) Q 823 (lL i) [] (gM I J) := by
  refine w_aload_n dL_law_823 rfl ?_
  refine w_aload_n dL_law_824 rfl ?_
  refine w_iload_n dL_law_825 rfl ?_
  refine w_iconst (v := iI 1) dL_law_826 rfl ?_
  refine v_iadd dL_law_827 ?_
  refine v_sl dL_law_828 (by omega) (by omega) hL ?_
  refine w_aload_n dL_law_829 rfl ?_
  refine w_iload_n dL_law_830 rfl ?_
  refine w_iconst (v := iI 2) dL_law_831 rfl ?_
  refine v_iadd dL_law_832 ?_
  refine v_sl dL_law_833 (by omega) (by omega) hL ?_
  have c : both yX11_stands kX11_stands yX12_stands kX12_stands [.int (xs (i + 1).toNat), .int (xs (i + 2).toNat)] I J := by
    have c1 := cal_stands h (b := (xs (i + 1).toNat).toInt) (w := (xs (i + 2).toNat).toInt) (iI_bd _) (iI_bd _)
    simp only [iI_of] at c1
    exact c1
  refine w_callV (as := [.int (xs (i + 1).toNat), .int (xs (i + 2).toNat)]) (id := 0) (ci := 11) (st := []) dL_law_834 lL_105 vX11_stands (Nat.le_of_ble_eq_true rfl) rfl rfl (show 0 < 190 by decide) rfl (by decide) rfl (Nat.le_of_ble_eq_true rfl) (Nat.le_of_ble_eq_true rfl) (cl_mono c (fun r m' hm hr => ?_))
  have hm2 : m'.2.2.2 = 190 := hm
  refine w_aload_n dL_law_837 rfl ?_
  refine w_aload_n dL_law_838 rfl ?_
  refine w_iload_n dL_law_839 rfl ?_
  refine w_iconst (v := iI 1) dL_law_840 rfl ?_
  refine v_iadd dL_law_841 ?_
  refine v_sl dL_law_842 (by omega) (by omega) hL ?_
  refine w_aload_n dL_law_843 rfl ?_
  refine w_iload_n dL_law_844 rfl ?_
  refine w_iconst (v := iI 2) dL_law_845 rfl ?_
  refine v_iadd dL_law_846 ?_
  refine v_sl dL_law_847 (by omega) (by omega) hL ?_
  refine w_callV (as := [.int (xs (i + 1).toNat), .int (xs (i + 2).toNat)]) (id := 171) (ci := 12) (st := r.toList ++ []) dL_law_848 lL_108 vX12_stands (Nat.le_of_ble_eq_true rfl) rfl rfl (by rw [hm2]; decide) rfl (by decide) rfl (cat_r r) (by rw [hm2]; exact Nat.le_of_ble_eq_true rfl) (cl_mono hr (fun r' m'' _ hs => ?_))
  obtain ⟨v, I', J', e1, e2, e3, hi'⟩ := hs
  subst e1 e2 e3
  show Wp (lE L xs) Q 851 (lL i) [.int v, .int v] (gM I' J')
  refine w_icmp_eq 942 dL_law_851 (by decide) (fun _ => kont I' J' hi') (fun q => absurd rfl q)
theorem lw_c22 {L : Nat} {xs : Nat → Int32} {Q : Option Value → zM → Prop} {I : Nat → Nat → Int32} {J : Nat → Nat → Int64} (hL : L ≤ 3072) {i : Int} (h0 : 0 ≤ i) (h6 : i + 6 ≤ L) (h : Inv I J) (kont : ∀ I' J', Inv I' J' → Wp (lE L xs) Q 942 (lL i) [] (gM I' J')) : Wp (lE L xs) Q 856 (lL i) [] (gM I J) := by
  refine w_aload_n dL_law_856 rfl ?_
  refine w_aload_n dL_law_857 rfl ?_
  refine w_iload_n dL_law_858 rfl ?_
  refine w_iconst (v := iI 1) dL_law_859 rfl ?_
  refine v_iadd dL_law_860 ?_
  refine v_sl dL_law_861 (by omega) (by omega) hL ?_
  refine w_aload_n dL_law_862 rfl ?_
  refine w_iload_n dL_law_863 rfl ?_
  refine w_iconst (v := iI 2) dL_law_864 rfl ?_
  refine v_iadd dL_law_865 ?_
  refine v_sl dL_law_866 (by omega) (by omega) hL ?_
  refine w_aload_n dL_law_867 rfl ?_
  refine w_iload_n dL_law_868 rfl ?_
  refine w_iconst (v := iI 3) dL_law_869 rfl ?_
  refine v_iadd dL_law_870 ?_
  refine v_sl dL_law_871 (by omega) (by omega) hL ?_
  have c : both yX11_letter kX11_letter yX12_letter kX12_letter [.int (xs (i + 1).toNat), .int (xs (i + 2).toNat), .int (xs (i + 3).toNat)] I J := by
    have c1 := cal_letter h (b := (xs (i + 1).toNat).toInt) (w := (xs (i + 2).toNat).toInt) (t := (xs (i + 3).toNat).toInt) (iI_bd _) (iI_bd _) (iI_bd _)
    simp only [iI_of] at c1
    exact c1
  refine w_callV (as := [.int (xs (i + 1).toNat), .int (xs (i + 2).toNat), .int (xs (i + 3).toNat)]) (id := 0) (ci := 11) (st := []) dL_law_872 lL_109 vX11_letter (Nat.le_of_ble_eq_true rfl) rfl rfl (show 0 < 190 by decide) rfl (by decide) rfl (Nat.le_of_ble_eq_true rfl) (Nat.le_of_ble_eq_true rfl) (cl_mono c (fun r m' hm hr => ?_))
  have hm2 : m'.2.2.2 = 190 := hm
  refine w_aload_n dL_law_875 rfl ?_
  refine w_aload_n dL_law_876 rfl ?_
  refine w_iload_n dL_law_877 rfl ?_
  refine w_iconst (v := iI 1) dL_law_878 rfl ?_
  refine v_iadd dL_law_879 ?_
  refine v_sl dL_law_880 (by omega) (by omega) hL ?_
  refine w_aload_n dL_law_881 rfl ?_
  refine w_iload_n dL_law_882 rfl ?_
  refine w_iconst (v := iI 2) dL_law_883 rfl ?_
  refine v_iadd dL_law_884 ?_
  refine v_sl dL_law_885 (by omega) (by omega) hL ?_
  refine w_aload_n dL_law_886 rfl ?_
  refine w_iload_n dL_law_887 rfl ?_
  refine w_iconst (v := iI 3) dL_law_888 rfl ?_
  refine v_iadd dL_law_889 ?_
  refine v_sl dL_law_890 (by omega) (by omega) hL ?_
  refine w_callV (as := [.int (xs (i + 1).toNat), .int (xs (i + 2).toNat), .int (xs (i + 3).toNat)]) (id := 171) (ci := 12) (st := r.toList ++ []) dL_law_891 lL_112 vX12_letter (Nat.le_of_ble_eq_true rfl) rfl rfl (by rw [hm2]; decide) rfl (by decide) rfl (cat_r r) (by rw [hm2]; exact Nat.le_of_ble_eq_true rfl) (cl_mono hr (fun r' m'' _ hs => ?_))
  obtain ⟨v, I', J', e1, e2, e3, hi'⟩ := hs
  subst e1 e2 e3
  show Wp (lE L xs) Q 894 (lL i) [.int v, .int v] (gM I' J')
  refine w_icmp_eq 942 dL_law_894 (by decide) (fun _ => kont I' J' hi') (fun q => absurd rfl q)
theorem lw_c23 {L : Nat} {xs : Nat → Int32} {Q : Option Value → zM → Prop} {I : Nat → Nat → Int32} {J : Nat → Nat → Int64} (hL : L ≤ 3072) {i : Int} (h0 : 0 ≤ i) (h6 : i + 6 ≤ L) (h : Inv I J) (kont : ∀ I' J', Inv I' J' → Wp (lE L xs) Q 942 (lL i) [] (gM I' J')) : Wp (lE L xs) Q 899 (lL i) [] (gM I J) := by
  refine w_aload_n dL_law_899 rfl ?_
  refine w_aload_n dL_law_900 rfl ?_
  refine w_iload_n dL_law_901 rfl ?_
  refine w_iconst (v := iI 1) dL_law_902 rfl ?_
  refine v_iadd dL_law_903 ?_
  refine v_sl dL_law_904 (by omega) (by omega) hL ?_
  refine w_aload_n dL_law_905 rfl ?_
  refine w_iload_n dL_law_906 rfl ?_
  refine w_iconst (v := iI 2) dL_law_907 rfl ?_
  refine v_iadd dL_law_908 ?_
  refine v_sl dL_law_909 (by omega) (by omega) hL ?_
  refine w_aload_n dL_law_910 rfl ?_
  refine w_iload_n dL_law_911 rfl ?_
  refine w_iconst (v := iI 3) dL_law_912 rfl ?_
  refine v_iadd dL_law_913 ?_
  refine v_sl dL_law_914 (by omega) (by omega) hL ?_
  have c : both yX11_width kX11_width yX12_width kX12_width [.int (xs (i + 1).toNat), .int (xs (i + 2).toNat), .int (xs (i + 3).toNat)] I J := by
    have c1 := cal_width h (b := (xs (i + 1).toNat).toInt) (a := (xs (i + 2).toNat).toInt) (z := (xs (i + 3).toNat).toInt) (iI_bd _) (iI_bd _) (iI_bd _)
    simp only [iI_of] at c1
    exact c1
  refine w_callV (as := [.int (xs (i + 1).toNat), .int (xs (i + 2).toNat), .int (xs (i + 3).toNat)]) (id := 0) (ci := 11) (st := []) dL_law_915 lL_113 vX11_width (Nat.le_of_ble_eq_true rfl) rfl rfl (show 0 < 190 by decide) rfl (by decide) rfl (Nat.le_of_ble_eq_true rfl) (Nat.le_of_ble_eq_true rfl) (cl_mono c (fun r m' hm hr => ?_))
  have hm2 : m'.2.2.2 = 190 := hm
  refine w_aload_n dL_law_918 rfl ?_
  refine w_aload_n dL_law_919 rfl ?_
  refine w_iload_n dL_law_920 rfl ?_
  refine w_iconst (v := iI 1) dL_law_921 rfl ?_
  refine v_iadd dL_law_922 ?_
  refine v_sl dL_law_923 (by omega) (by omega) hL ?_
  refine w_aload_n dL_law_924 rfl ?_
  refine w_iload_n dL_law_925 rfl ?_
  refine w_iconst (v := iI 2) dL_law_926 rfl ?_
  refine v_iadd dL_law_927 ?_
  refine v_sl dL_law_928 (by omega) (by omega) hL ?_
  refine w_aload_n dL_law_929 rfl ?_
  refine w_iload_n dL_law_930 rfl ?_
  refine w_iconst (v := iI 3) dL_law_931 rfl ?_
  refine v_iadd dL_law_932 ?_
  refine v_sl dL_law_933 (by omega) (by omega) hL ?_
  refine w_callV (as := [.int (xs (i + 1).toNat), .int (xs (i + 2).toNat), .int (xs (i + 3).toNat)]) (id := 171) (ci := 12) (st := r.toList ++ []) dL_law_934 lL_116 vX12_width (Nat.le_of_ble_eq_true rfl) rfl rfl (by rw [hm2]; decide) rfl (by decide) rfl (cat_r r) (by rw [hm2]; exact Nat.le_of_ble_eq_true rfl) (cl_mono hr (fun r' m'' _ hs => ?_))
  obtain ⟨v, I', J', e1, e2, e3, hi'⟩ := hs
  subst e1 e2 e3
  show Wp (lE L xs) Q 937 (lL i) [.int v, .int v] (gM I' J')
  refine w_icmp_eq 942 dL_law_937 (by decide) (fun _ => kont I' J' hi') (fun q => absurd rfl q)
theorem lw_loop {L : Nat} {xs : Nat → Int32} {Q : Option Value → zM → Prop} (hL : L ≤ 3072) (hQ : ∀ I J, Q (some (.int (iI 1))) (gM I J)) : ∀ (n : Nat) (i : Int) (I : Nat → Nat → Int32) (J : Nat → Nat → Int64), (4000 - i).toNat < n → 0 ≤ i → i ≤ 3100 → Inv I J → Wp (lE L xs) Q 18 (lL i) [] (gM I J) := by
  intro n
  induction n with
  | zero =>
    intro i I J hn
    exact absurd hn (Nat.not_lt_zero _)
  | succ n ih =>
    intro i I J hn h0 h31 h
    refine w_iload_n dL_law_18 rfl ?_
    refine w_aload_n dL_law_19 rfl ?_
    refine v_sn dL_law_20 ?_
    refine w_bipush (v := iI 6) dL_law_21 (by decide) ?_
    refine v_isub dL_law_23 ?_
    refine v_icmp_gt 948 dL_law_24 (by decide) (by omega) (by omega) (fun c24 => ?_) (fun c24 => ?_)
    · refine w_iconst (v := iI 1) dL_law_948 rfl ?_
      exact w_ret (some (.int (iI 1))) dL_law_949 (Or.inr rfl) rfl (hQ I J)
    · have h6 : i + 6 ≤ L := by omega
      have kont : ∀ I' J', Inv I' J' → Wp (lE L xs) Q 942 (lL i) [] (gM I' J') := by
        intro I' J' h'
        refine v_iinc dL_law_942 rfl rfl rfl ?_
        refine w_goto 18 dL_law_945 (by decide) ?_
        exact ih (i + 6) I' J' (by omega) (by omega) (by omega) h'
      refine w_aload_n dL_law_27 rfl ?_
      refine w_iload_n dL_law_28 rfl ?_
      refine v_sl dL_law_29 h0 (by omega) hL ?_
      refine w_bipush (v := iI 31) dL_law_30 (by decide) ?_
      refine w_iand dL_law_32 ?_
      have z := and31 (xs i.toNat)
      have zz : (xs i.toNat &&& iI 31).toInt = 0 ∨ (xs i.toNat &&& iI 31).toInt = 1 ∨ (xs i.toNat &&& iI 31).toInt = 2 ∨ (xs i.toNat &&& iI 31).toInt = 3 ∨ (xs i.toNat &&& iI 31).toInt = 4 ∨ (xs i.toNat &&& iI 31).toInt = 5 ∨ (xs i.toNat &&& iI 31).toInt = 6 ∨ (xs i.toNat &&& iI 31).toInt = 7 ∨ (xs i.toNat &&& iI 31).toInt = 8 ∨ (xs i.toNat &&& iI 31).toInt = 9 ∨ (xs i.toNat &&& iI 31).toInt = 10 ∨ (xs i.toNat &&& iI 31).toInt = 11 ∨ (xs i.toNat &&& iI 31).toInt = 12 ∨ (xs i.toNat &&& iI 31).toInt = 13 ∨ (xs i.toNat &&& iI 31).toInt = 14 ∨ (xs i.toNat &&& iI 31).toInt = 15 ∨ (xs i.toNat &&& iI 31).toInt = 16 ∨ (xs i.toNat &&& iI 31).toInt = 17 ∨ (xs i.toNat &&& iI 31).toInt = 18 ∨ (xs i.toNat &&& iI 31).toInt = 19 ∨ (xs i.toNat &&& iI 31).toInt = 20 ∨ (xs i.toNat &&& iI 31).toInt = 21 ∨ (xs i.toNat &&& iI 31).toInt = 22 ∨ (xs i.toNat &&& iI 31).toInt = 23 ∨ 24 ≤ (xs i.toNat &&& iI 31).toInt := by omega
      rcases zz with e | e | e | e | e | e | e | e | e | e | e | e | e | e | e | e | e | e | e | e | e | e | e | e | e
      · exact w_tabIn (off := 111) 144 dL_law_33 (by rw [e]; decide) (by rw [e]; decide) (by rw [e]; rfl) (by decide) (lw_c0 hL h0 h6 h kont)
      · exact w_tabIn (off := 174) 207 dL_law_33 (by rw [e]; decide) (by rw [e]; decide) (by rw [e]; rfl) (by decide) (lw_c1 hL h0 h6 h kont)
      · exact w_tabIn (off := 197) 230 dL_law_33 (by rw [e]; decide) (by rw [e]; decide) (by rw [e]; rfl) (by decide) (lw_c2 hL h0 h6 h kont)
      · exact w_tabIn (off := 220) 253 dL_law_33 (by rw [e]; decide) (by rw [e]; decide) (by rw [e]; rfl) (by decide) (lw_c3 hL h0 h6 h kont)
      · exact w_tabIn (off := 263) 296 dL_law_33 (by rw [e]; decide) (by rw [e]; decide) (by rw [e]; rfl) (by decide) (lw_c4 hL h0 h6 h kont)
      · exact w_tabIn (off := 332) 365 dL_law_33 (by rw [e]; decide) (by rw [e]; decide) (by rw [e]; rfl) (by decide) (lw_c5 hL h0 h6 h kont)
      · exact w_tabIn (off := 345) 378 dL_law_33 (by rw [e]; decide) (by rw [e]; decide) (by rw [e]; rfl) (by decide) (lw_c6 hL h0 h6 h kont)
      · exact w_tabIn (off := 388) 421 dL_law_33 (by rw [e]; decide) (by rw [e]; decide) (by rw [e]; rfl) (by decide) (lw_c7 hL h0 h6 h kont)
      · exact w_tabIn (off := 411) 444 dL_law_33 (by rw [e]; decide) (by rw [e]; decide) (by rw [e]; rfl) (by decide) (lw_c8 hL h0 h6 h kont)
      · exact w_tabIn (off := 444) 477 dL_law_33 (by rw [e]; decide) (by rw [e]; decide) (by rw [e]; rfl) (by decide) (lw_c9 hL h0 h6 h kont)
      · exact w_tabIn (off := 477) 510 dL_law_33 (by rw [e]; decide) (by rw [e]; decide) (by rw [e]; rfl) (by decide) (lw_c10 hL h0 h6 h kont)
      · exact w_tabIn (off := 510) 543 dL_law_33 (by rw [e]; decide) (by rw [e]; decide) (by rw [e]; rfl) (by decide) (lw_c11 hL h0 h6 h kont)
      · exact w_tabIn (off := 543) 576 dL_law_33 (by rw [e]; decide) (by rw [e]; decide) (by rw [e]; rfl) (by decide) (lw_c12 hL h0 h6 h kont)
      · exact w_tabIn (off := 586) 619 dL_law_33 (by rw [e]; decide) (by rw [e]; decide) (by rw [e]; rfl) (by decide) (lw_c13 hL h0 h6 h kont)
      · exact w_tabIn (off := 599) 632 dL_law_33 (by rw [e]; decide) (by rw [e]; decide) (by rw [e]; rfl) (by decide) (lw_c14 hL h0 h6 h kont)
      · exact w_tabIn (off := 632) 665 dL_law_33 (by rw [e]; decide) (by rw [e]; decide) (by rw [e]; rfl) (by decide) (lw_c15 hL h0 h6 h kont)
      · exact w_tabIn (off := 655) 688 dL_law_33 (by rw [e]; decide) (by rw [e]; decide) (by rw [e]; rfl) (by decide) (lw_c16 hL h0 h6 h kont)
      · exact w_tabIn (off := 688) 721 dL_law_33 (by rw [e]; decide) (by rw [e]; decide) (by rw [e]; rfl) (by decide) (lw_c17 hL h0 h6 h kont)
      · exact w_tabIn (off := 721) 754 dL_law_33 (by rw [e]; decide) (by rw [e]; decide) (by rw [e]; rfl) (by decide) (lw_c18 hL h0 h6 h kont)
      · exact w_tabIn (off := 744) 777 dL_law_33 (by rw [e]; decide) (by rw [e]; decide) (by rw [e]; rfl) (by decide) (lw_c19 hL h0 h6 h kont)
      · exact w_tabIn (off := 777) 810 dL_law_33 (by rw [e]; decide) (by rw [e]; decide) (by rw [e]; rfl) (by decide) (lw_c20 hL h0 h6 h kont)
      · exact w_tabIn (off := 790) 823 dL_law_33 (by rw [e]; decide) (by rw [e]; decide) (by rw [e]; rfl) (by decide) (lw_c21 hL h0 h6 h kont)
      · exact w_tabIn (off := 823) 856 dL_law_33 (by rw [e]; decide) (by rw [e]; decide) (by rw [e]; rfl) (by decide) (lw_c22 hL h0 h6 h kont)
      · exact w_tabIn (off := 866) 899 dL_law_33 (by rw [e]; decide) (by rw [e]; decide) (by rw [e]; rfl) (by decide) (lw_c23 hL h0 h6 h kont)
      · exact w_tabOut 942 dL_law_33 (Or.inr (by omega)) (by decide) (kont I J h)
