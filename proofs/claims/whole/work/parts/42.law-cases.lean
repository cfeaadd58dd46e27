set_option maxHeartbeats 4000000 in
set_option maxRecDepth 100000 in
theorem lw_set {p : Program} {l : Launch} {e : Env} {s : State} {m : MethodId} {below : List Frame} {meth : Method} {c : Code} {H : Heap} {locs : List Loc} {Q : State → Prop} {dC : Nat → ClassId} {dI : Nat → Nat → Nat} {cI cJ cZ : ClassId} {b L t1 t2 i K : Nat} {xs : Nat → Int32} {ad ad2 : Nat → Nat} {σ τ : St} {ls : Array Slot} (E : lX p s m meth c b L xs dC dI cI cJ cZ t1 t2) (hi : i + 5 ≤ L) (hK5 : K < 1000) (hR : Rel K σ τ) (hP : va_P (dC, dI) vwCl (w2 cI cJ cZ ad ad2 σ τ) H) (hD : va_D (fun q : Nat => s.heap.size ≤ q) (w2 cI cJ cZ ad ad2 σ τ)) (hS : va_S (fun q : Nat => s.heap.size ≤ q) s.heap H locs) (hl : lv_has ls 4 [(0, .ref b), (1, .ref (ad 0)), (2, .ref (ad2 0)), (3, .int (nI i))]) (kk : ∀ (σ' τ' : St) (H1 : Heap) (locs1 : List Loc), Rel (K + 1) σ' τ' → va_P (dC, dI) vwCl (w2 cI cJ cZ ad ad2 σ' τ') H1 → va_D (fun q : Nat => s.heap.size ≤ q) (w2 cI cJ cZ ad ad2 σ' τ') → va_S (fun q : Nat => s.heap.size ≤ q) s.heap H1 locs1 → W p l e room_1 s m #[Value.ref b] below meth c H1 locs1 600000 7302250 Q (F0 m 725 ls [])) : W p l e room_1 s m #[Value.ref b] below meth c H locs 600000 7302250 Q (F0 m 140 ls []) := by
  obtain ⟨C0, hK, hXS, hX, hbl, hL⟩ := E
  obtain ⟨hx, hb, hml, hown, hT, hr, hlocks⟩ := id C0
  have hA : ∀ q : Nat, s.heap.size ≤ q → (fun q : Nat => s.heap.size ≤ q) q := fun _ h => h
  have hbA : ¬ (fun q : Nat => s.heap.size ≤ q) b := Nat.not_le.mpr hbl
  have hi1 : vp_in (nI i + 1) L := by rw [show (1 : Int32) = nI 1 from rfl, nI_add]; exact vp_in_nI (by omega) (by omega)
  have hi2 : vp_in (nI i + 2) L := by rw [show (2 : Int32) = nI 2 from rfl, nI_add]; exact vp_in_nI (by omega) (by omega)
  refine lv_aload_n hx hb dL_law_140 rfl (lv_at hl 1 rfl) ?_
  refine lv_aload_n hx hb dL_law_141 rfl (lv_at hl 0 rfl) ?_
  refine lv_iload_n hx hb dL_law_142 rfl (lv_at hl 3 rfl) ?_
  refine lv_iconst (v := 1) hx hb dL_law_143 (by decide) ?_
  refine lv_iadd hx hb dL_law_144 ?_
  refine va_sld hx hb hX hbl hbA hS hi1 dL_law_145 ?_
  refine lv_aload_n hx hb dL_law_146 rfl (lv_at hl 0 rfl) ?_
  refine lv_iload_n hx hb dL_law_147 rfl (lv_at hl 3 rfl) ?_
  refine lv_iconst (v := 2) hx hb dL_law_148 (by decide) ?_
  refine lv_iadd hx hb dL_law_149 ?_
  refine va_sld hx hb hX hbl hbA hS hi2 dL_law_150 ?_
  obtain ⟨r, σ', τ', h1, h2, hR'⟩ := op_set (F := 2000) (by decide) hR (xs (nI i + 1).toNatClampNeg) (xs (nI i + 2).toNatClampNeg)
  refine lc7_i (As := [.int (xs (nI i + 1).toNatClampNeg), .int (xs (nI i + 2).toNatClampNeg)]) (rest := []) C0 (mX7_set l dC dI cI cJ cZ ad 2000 σ (xs (nI i + 1).toNatClampNeg) (xs (nI i + 2).toNatClampNeg) h1 H.size t1 t2) (wV_good wm_7_9 wm_7_10 wm_7_11 wm_1_2 wm_7_12) yd_X7_set ⟨rfl, rfl, Nat.le_of_ble_eq_true rfl, Nat.le_of_ble_eq_true rfl, Nat.le_of_ble_eq_true rfl, Nat.le_of_ble_eq_true rfl⟩ xS_b (xS_of hXS hS (cv_free hD hS hA w2_7)) hK hP hD hS hA hl.1 rfl (Nat.le_of_ble_eq_true rfl) dL_law_151 (fun H locs hP hD hS => ?_)
  refine lv_aload_n hx hb dL_law_154 rfl (lv_at hl 2 rfl) ?_
  refine lv_aload_n hx hb dL_law_155 rfl (lv_at hl 0 rfl) ?_
  refine lv_iload_n hx hb dL_law_156 rfl (lv_at hl 3 rfl) ?_
  refine lv_iconst (v := 1) hx hb dL_law_157 (by decide) ?_
  refine lv_iadd hx hb dL_law_158 ?_
  refine va_sld hx hb hX hbl hbA hS hi1 dL_law_159 ?_
  refine lv_aload_n hx hb dL_law_160 rfl (lv_at hl 0 rfl) ?_
  refine lv_iload_n hx hb dL_law_161 rfl (lv_at hl 3 rfl) ?_
  refine lv_iconst (v := 2) hx hb dL_law_162 (by decide) ?_
  refine lv_iadd hx hb dL_law_163 ?_
  refine va_sld hx hb hX hbl hbA hS hi2 dL_law_164 ?_
  refine lc8_i (As := [.int (xs (nI i + 1).toNatClampNeg), .int (xs (nI i + 2).toNatClampNeg)]) (rest := [.int (r)]) C0 (mX8_set l dC dI cI cJ cZ ad2 2000 τ (xs (nI i + 1).toNatClampNeg) (xs (nI i + 2).toNatClampNeg) h2 H.size) (wV_good wm_11_11 wm_11_12 wm_11_13 wm_1_5 wm_11_14) yd_X8_set ⟨rfl, rfl, Nat.le_of_ble_eq_true rfl, Nat.le_of_ble_eq_true rfl, Nat.le_of_ble_eq_true rfl, Nat.le_of_ble_eq_true rfl⟩  hK hP hD hS hA hl.1 rfl (Nat.le_of_ble_eq_true rfl) dL_law_165 (fun H locs hP hD hS => ?_)
  refine lv_icmp_eq (tgt := 725) hx hb dL_law_168 (by decide) (fun _ => ?_) (fun h => absurd rfl h)
  exact kk σ' τ' H locs hR' hP hD hS
set_option maxHeartbeats 4000000 in
set_option maxRecDepth 100000 in
theorem lw_row {p : Program} {l : Launch} {e : Env} {s : State} {m : MethodId} {below : List Frame} {meth : Method} {c : Code} {H : Heap} {locs : List Loc} {Q : State → Prop} {dC : Nat → ClassId} {dI : Nat → Nat → Nat} {cI cJ cZ : ClassId} {b L t1 t2 i K : Nat} {xs : Nat → Int32} {ad ad2 : Nat → Nat} {σ τ : St} {ls : Array Slot} (E : lX p s m meth c b L xs dC dI cI cJ cZ t1 t2) (hi : i + 5 ≤ L) (hK5 : K < 1000) (hR : Rel K σ τ) (hP : va_P (dC, dI) vwCl (w2 cI cJ cZ ad ad2 σ τ) H) (hD : va_D (fun q : Nat => s.heap.size ≤ q) (w2 cI cJ cZ ad ad2 σ τ)) (hS : va_S (fun q : Nat => s.heap.size ≤ q) s.heap H locs) (hl : lv_has ls 4 [(0, .ref b), (1, .ref (ad 0)), (2, .ref (ad2 0)), (3, .int (nI i))]) (kk : ∀ (σ' τ' : St) (H1 : Heap) (locs1 : List Loc), Rel (K + 1) σ' τ' → va_P (dC, dI) vwCl (w2 cI cJ cZ ad ad2 σ' τ') H1 → va_D (fun q : Nat => s.heap.size ≤ q) (w2 cI cJ cZ ad ad2 σ' τ') → va_S (fun q : Nat => s.heap.size ≤ q) s.heap H1 locs1 → W p l e room_1 s m #[Value.ref b] below meth c H1 locs1 600000 7302250 Q (F0 m 725 ls [])) : W p l e room_1 s m #[Value.ref b] below meth c H locs 600000 7302250 Q (F0 m 173 ls []) := by
  obtain ⟨C0, hK, hXS, hX, hbl, hL⟩ := E
  obtain ⟨hx, hb, hml, hown, hT, hr, hlocks⟩ := id C0
  have hA : ∀ q : Nat, s.heap.size ≤ q → (fun q : Nat => s.heap.size ≤ q) q := fun _ h => h
  have hbA : ¬ (fun q : Nat => s.heap.size ≤ q) b := Nat.not_le.mpr hbl
  have hi1 : vp_in (nI i + 1) L := by rw [show (1 : Int32) = nI 1 from rfl, nI_add]; exact vp_in_nI (by omega) (by omega)
  have hi2 : vp_in (nI i + 2) L := by rw [show (2 : Int32) = nI 2 from rfl, nI_add]; exact vp_in_nI (by omega) (by omega)
  have hi3 : vp_in (nI i + 3) L := by rw [show (3 : Int32) = nI 3 from rfl, nI_add]; exact vp_in_nI (by omega) (by omega)
  have hi4 : vp_in (nI i + 4) L := by rw [show (4 : Int32) = nI 4 from rfl, nI_add]; exact vp_in_nI (by omega) (by omega)
  refine lv_aload_n hx hb dL_law_173 rfl (lv_at hl 1 rfl) ?_
  refine lv_aload_n hx hb dL_law_174 rfl (lv_at hl 0 rfl) ?_
  refine lv_iload_n hx hb dL_law_175 rfl (lv_at hl 3 rfl) ?_
  refine lv_iconst (v := 1) hx hb dL_law_176 (by decide) ?_
  refine lv_iadd hx hb dL_law_177 ?_
  refine va_sld hx hb hX hbl hbA hS hi1 dL_law_178 ?_
  refine lv_i2l (v := (xs (nI i + 1).toNatClampNeg).toInt64) hx hb dL_law_179 rfl ?_
  refine lv_bipush (v := 32) hx hb dL_law_180 (by decide) ?_
  refine lv_lshl (v := (xs (nI i + 1).toNatClampNeg).toInt64 <<< ((32 : Int32).toInt64 &&& 63)) hx hb dL_law_182 rfl ?_
  refine lv_aload_n hx hb dL_law_183 rfl (lv_at hl 0 rfl) ?_
  refine lv_iload_n hx hb dL_law_184 rfl (lv_at hl 3 rfl) ?_
  refine lv_iconst (v := 2) hx hb dL_law_185 (by decide) ?_
  refine lv_iadd hx hb dL_law_186 ?_
  refine va_sld hx hb hX hbl hbA hS hi2 dL_law_187 ?_
  refine lv_i2l (v := (xs (nI i + 2).toNatClampNeg).toInt64) hx hb dL_law_188 rfl ?_
  refine lv_ldc2 (v := 4294967295) hx hb hown (hT _ wm_1_6) dL_law_189 ?_
  refine lv_land hx hb dL_law_192 ?_
  refine lv_lor hx hb dL_law_193 ?_
  refine lv_aload_n hx hb dL_law_194 rfl (lv_at hl 0 rfl) ?_
  refine lv_iload_n hx hb dL_law_195 rfl (lv_at hl 3 rfl) ?_
  refine lv_iconst (v := 3) hx hb dL_law_196 (by decide) ?_
  refine lv_iadd hx hb dL_law_197 ?_
  refine va_sld hx hb hX hbl hbA hS hi3 dL_law_198 ?_
  refine lv_i2l (v := (xs (nI i + 3).toNatClampNeg).toInt64) hx hb dL_law_199 rfl ?_
  refine lv_bipush (v := 32) hx hb dL_law_200 (by decide) ?_
  refine lv_lshl (v := (xs (nI i + 3).toNatClampNeg).toInt64 <<< ((32 : Int32).toInt64 &&& 63)) hx hb dL_law_202 rfl ?_
  refine lv_aload_n hx hb dL_law_203 rfl (lv_at hl 0 rfl) ?_
  refine lv_iload_n hx hb dL_law_204 rfl (lv_at hl 3 rfl) ?_
  refine lv_iconst (v := 4) hx hb dL_law_205 (by decide) ?_
  refine lv_iadd hx hb dL_law_206 ?_
  refine va_sld hx hb hX hbl hbA hS hi4 dL_law_207 ?_
  refine lv_i2l (v := (xs (nI i + 4).toNatClampNeg).toInt64) hx hb dL_law_208 rfl ?_
  refine lv_ldc2 (v := 4294967295) hx hb hown (hT _ wm_1_6) dL_law_209 ?_
  refine lv_land hx hb dL_law_212 ?_
  refine lv_lor hx hb dL_law_213 ?_
  obtain ⟨r, σ', τ', h1, h2, hR'⟩ := op_row (F := 2000) (by decide) hR (((xs (nI i + 1).toNatClampNeg).toInt64 <<< ((32 : Int32).toInt64 &&& 63)) ||| (((xs (nI i + 2).toNatClampNeg).toInt64) &&& 4294967295)) (((xs (nI i + 3).toNatClampNeg).toInt64 <<< ((32 : Int32).toInt64 &&& 63)) ||| (((xs (nI i + 4).toNatClampNeg).toInt64) &&& 4294967295))
  refine lc7_i (As := [.long (((xs (nI i + 1).toNatClampNeg).toInt64 <<< ((32 : Int32).toInt64 &&& 63)) ||| (((xs (nI i + 2).toNatClampNeg).toInt64) &&& 4294967295)), .long (((xs (nI i + 3).toNatClampNeg).toInt64 <<< ((32 : Int32).toInt64 &&& 63)) ||| (((xs (nI i + 4).toNatClampNeg).toInt64) &&& 4294967295))]) (rest := []) C0 (mX7_row l dC dI cI cJ cZ ad 2000 σ (((xs (nI i + 1).toNatClampNeg).toInt64 <<< ((32 : Int32).toInt64 &&& 63)) ||| (((xs (nI i + 2).toNatClampNeg).toInt64) &&& 4294967295)) (((xs (nI i + 3).toNatClampNeg).toInt64 <<< ((32 : Int32).toInt64 &&& 63)) ||| (((xs (nI i + 4).toNatClampNeg).toInt64) &&& 4294967295)) h1 H.size) (wV_good wm_13_10 wm_13_11 wm_13_12 wm_1_2 wm_13_13) yd_X7_row ⟨rfl, rfl, Nat.le_of_ble_eq_true rfl, Nat.le_of_ble_eq_true rfl, Nat.le_of_ble_eq_true rfl, Nat.le_of_ble_eq_true rfl⟩ xC_b (fun U _ hW => xC_w hW hXS.1) hK hP hD hS hA hl.1 rfl (Nat.le_of_ble_eq_true rfl) dL_law_214 (fun H locs hP hD hS => ?_)
  refine lv_aload_n hx hb dL_law_217 rfl (lv_at hl 2 rfl) ?_
  refine lv_aload_n hx hb dL_law_218 rfl (lv_at hl 0 rfl) ?_
  refine lv_iload_n hx hb dL_law_219 rfl (lv_at hl 3 rfl) ?_
  refine lv_iconst (v := 1) hx hb dL_law_220 (by decide) ?_
  refine lv_iadd hx hb dL_law_221 ?_
  refine va_sld hx hb hX hbl hbA hS hi1 dL_law_222 ?_
  refine lv_i2l (v := (xs (nI i + 1).toNatClampNeg).toInt64) hx hb dL_law_223 rfl ?_
  refine lv_bipush (v := 32) hx hb dL_law_224 (by decide) ?_
  refine lv_lshl (v := (xs (nI i + 1).toNatClampNeg).toInt64 <<< ((32 : Int32).toInt64 &&& 63)) hx hb dL_law_226 rfl ?_
  refine lv_aload_n hx hb dL_law_227 rfl (lv_at hl 0 rfl) ?_
  refine lv_iload_n hx hb dL_law_228 rfl (lv_at hl 3 rfl) ?_
  refine lv_iconst (v := 2) hx hb dL_law_229 (by decide) ?_
  refine lv_iadd hx hb dL_law_230 ?_
  refine va_sld hx hb hX hbl hbA hS hi2 dL_law_231 ?_
  refine lv_i2l (v := (xs (nI i + 2).toNatClampNeg).toInt64) hx hb dL_law_232 rfl ?_
  refine lv_ldc2 (v := 4294967295) hx hb hown (hT _ wm_1_6) dL_law_233 ?_
  refine lv_land hx hb dL_law_236 ?_
  refine lv_lor hx hb dL_law_237 ?_
  refine lv_aload_n hx hb dL_law_238 rfl (lv_at hl 0 rfl) ?_
  refine lv_iload_n hx hb dL_law_239 rfl (lv_at hl 3 rfl) ?_
  refine lv_iconst (v := 3) hx hb dL_law_240 (by decide) ?_
  refine lv_iadd hx hb dL_law_241 ?_
  refine va_sld hx hb hX hbl hbA hS hi3 dL_law_242 ?_
  refine lv_i2l (v := (xs (nI i + 3).toNatClampNeg).toInt64) hx hb dL_law_243 rfl ?_
  refine lv_bipush (v := 32) hx hb dL_law_244 (by decide) ?_
  refine lv_lshl (v := (xs (nI i + 3).toNatClampNeg).toInt64 <<< ((32 : Int32).toInt64 &&& 63)) hx hb dL_law_246 rfl ?_
  refine lv_aload_n hx hb dL_law_247 rfl (lv_at hl 0 rfl) ?_
  refine lv_iload_n hx hb dL_law_248 rfl (lv_at hl 3 rfl) ?_
  refine lv_iconst (v := 4) hx hb dL_law_249 (by decide) ?_
  refine lv_iadd hx hb dL_law_250 ?_
  refine va_sld hx hb hX hbl hbA hS hi4 dL_law_251 ?_
  refine lv_i2l (v := (xs (nI i + 4).toNatClampNeg).toInt64) hx hb dL_law_252 rfl ?_
  refine lv_ldc2 (v := 4294967295) hx hb hown (hT _ wm_1_6) dL_law_253 ?_
  refine lv_land hx hb dL_law_256 ?_
  refine lv_lor hx hb dL_law_257 ?_
  refine lc8_i (As := [.long (((xs (nI i + 1).toNatClampNeg).toInt64 <<< ((32 : Int32).toInt64 &&& 63)) ||| (((xs (nI i + 2).toNatClampNeg).toInt64) &&& 4294967295)), .long (((xs (nI i + 3).toNatClampNeg).toInt64 <<< ((32 : Int32).toInt64 &&& 63)) ||| (((xs (nI i + 4).toNatClampNeg).toInt64) &&& 4294967295))]) (rest := [.int (r)]) C0 (mX8_row l dC dI cI cJ cZ ad2 2000 τ (((xs (nI i + 1).toNatClampNeg).toInt64 <<< ((32 : Int32).toInt64 &&& 63)) ||| (((xs (nI i + 2).toNatClampNeg).toInt64) &&& 4294967295)) (((xs (nI i + 3).toNatClampNeg).toInt64 <<< ((32 : Int32).toInt64 &&& 63)) ||| (((xs (nI i + 4).toNatClampNeg).toInt64) &&& 4294967295)) h2 H.size) (wV_good wm_13_22 wm_13_23 wm_14_0 wm_1_5 wm_14_1) yd_X8_row ⟨rfl, rfl, Nat.le_of_ble_eq_true rfl, Nat.le_of_ble_eq_true rfl, Nat.le_of_ble_eq_true rfl, Nat.le_of_ble_eq_true rfl⟩  hK hP hD hS hA hl.1 rfl (Nat.le_of_ble_eq_true rfl) dL_law_258 (fun H locs hP hD hS => ?_)
  refine lv_icmp_eq (tgt := 725) hx hb dL_law_261 (by decide) (fun _ => ?_) (fun h => absurd rfl h)
  exact kk σ' τ' H locs hR' hP hD hS
set_option maxHeartbeats 4000000 in
set_option maxRecDepth 100000 in
theorem lw_mark {p : Program} {l : Launch} {e : Env} {s : State} {m : MethodId} {below : List Frame} {meth : Method} {c : Code} {H : Heap} {locs : List Loc} {Q : State → Prop} {dC : Nat → ClassId} {dI : Nat → Nat → Nat} {cI cJ cZ : ClassId} {b L t1 t2 i K : Nat} {xs : Nat → Int32} {ad ad2 : Nat → Nat} {σ τ : St} {ls : Array Slot} (E : lX p s m meth c b L xs dC dI cI cJ cZ t1 t2) (hi : i + 5 ≤ L) (hK5 : K < 1000) (hR : Rel K σ τ) (hP : va_P (dC, dI) vwCl (w2 cI cJ cZ ad ad2 σ τ) H) (hD : va_D (fun q : Nat => s.heap.size ≤ q) (w2 cI cJ cZ ad ad2 σ τ)) (hS : va_S (fun q : Nat => s.heap.size ≤ q) s.heap H locs) (hl : lv_has ls 4 [(0, .ref b), (1, .ref (ad 0)), (2, .ref (ad2 0)), (3, .int (nI i))]) (kk : ∀ (σ' τ' : St) (H1 : Heap) (locs1 : List Loc), Rel (K + 1) σ' τ' → va_P (dC, dI) vwCl (w2 cI cJ cZ ad ad2 σ' τ') H1 → va_D (fun q : Nat => s.heap.size ≤ q) (w2 cI cJ cZ ad ad2 σ' τ') → va_S (fun q : Nat => s.heap.size ≤ q) s.heap H1 locs1 → W p l e room_1 s m #[Value.ref b] below meth c H1 locs1 600000 7302250 Q (F0 m 725 ls [])) : W p l e room_1 s m #[Value.ref b] below meth c H locs 600000 7302250 Q (F0 m 266 ls []) := by
  obtain ⟨C0, hK, hXS, hX, hbl, hL⟩ := E
  obtain ⟨hx, hb, hml, hown, hT, hr, hlocks⟩ := id C0
  have hA : ∀ q : Nat, s.heap.size ≤ q → (fun q : Nat => s.heap.size ≤ q) q := fun _ h => h
  have hbA : ¬ (fun q : Nat => s.heap.size ≤ q) b := Nat.not_le.mpr hbl
  refine lv_aload_n hx hb dL_law_266 rfl (lv_at hl 1 rfl) ?_
  obtain ⟨r, σ', τ', h1, h2, hR'⟩ := op_mark (F := 2000) (by decide) hR 
  refine lc7_i (As := []) (rest := []) C0 (mX7_mark l dC dI cI cJ cZ ad 2000 σ  h1 H.size) (wV_good wm_14_6 wm_14_7 wm_14_8 wm_1_2 wm_14_9) yd_X7_mark ⟨rfl, rfl, Nat.le_of_ble_eq_true rfl, Nat.le_of_ble_eq_true rfl, Nat.le_of_ble_eq_true rfl, Nat.le_of_ble_eq_true rfl⟩ xC_b (fun U _ hW => xC_w hW hXS.1) hK hP hD hS hA hl.1 rfl (Nat.le_of_ble_eq_true rfl) dL_law_267 (fun H locs hP hD hS => ?_)
  refine lv_aload_n hx hb dL_law_270 rfl (lv_at hl 2 rfl) ?_
  refine lc8_i (As := []) (rest := [.int (r)]) C0 (mX8_mark l dC dI cI cJ cZ ad2 2000 τ  h2 H.size) (wV_good wm_14_18 wm_14_19 wm_14_20 wm_1_5 wm_14_21) yd_X8_mark ⟨rfl, rfl, Nat.le_of_ble_eq_true rfl, Nat.le_of_ble_eq_true rfl, Nat.le_of_ble_eq_true rfl, Nat.le_of_ble_eq_true rfl⟩  hK hP hD hS hA hl.1 rfl (Nat.le_of_ble_eq_true rfl) dL_law_271 (fun H locs hP hD hS => ?_)
  refine lv_icmp_eq (tgt := 725) hx hb dL_law_274 (by decide) (fun _ => ?_) (fun h => absurd rfl h)
  exact kk σ' τ' H locs hR' hP hD hS
set_option maxHeartbeats 4000000 in
set_option maxRecDepth 100000 in
theorem lw_tick {p : Program} {l : Launch} {e : Env} {s : State} {m : MethodId} {below : List Frame} {meth : Method} {c : Code} {H : Heap} {locs : List Loc} {Q : State → Prop} {dC : Nat → ClassId} {dI : Nat → Nat → Nat} {cI cJ cZ : ClassId} {b L t1 t2 i K : Nat} {xs : Nat → Int32} {ad ad2 : Nat → Nat} {σ τ : St} {ls : Array Slot} (E : lX p s m meth c b L xs dC dI cI cJ cZ t1 t2) (hi : i + 5 ≤ L) (hK5 : K < 1000) (hR : Rel K σ τ) (hP : va_P (dC, dI) vwCl (w2 cI cJ cZ ad ad2 σ τ) H) (hD : va_D (fun q : Nat => s.heap.size ≤ q) (w2 cI cJ cZ ad ad2 σ τ)) (hS : va_S (fun q : Nat => s.heap.size ≤ q) s.heap H locs) (hl : lv_has ls 4 [(0, .ref b), (1, .ref (ad 0)), (2, .ref (ad2 0)), (3, .int (nI i))]) (kk : ∀ (σ' τ' : St) (H1 : Heap) (locs1 : List Loc), Rel (K + 1) σ' τ' → va_P (dC, dI) vwCl (w2 cI cJ cZ ad ad2 σ' τ') H1 → va_D (fun q : Nat => s.heap.size ≤ q) (w2 cI cJ cZ ad ad2 σ' τ') → va_S (fun q : Nat => s.heap.size ≤ q) s.heap H1 locs1 → W p l e room_1 s m #[Value.ref b] below meth c H1 locs1 600000 7302250 Q (F0 m 725 ls [])) : W p l e room_1 s m #[Value.ref b] below meth c H locs 600000 7302250 Q (F0 m 279 ls []) := by
  obtain ⟨C0, hK, hXS, hX, hbl, hL⟩ := E
  obtain ⟨hx, hb, hml, hown, hT, hr, hlocks⟩ := id C0
  have hA : ∀ q : Nat, s.heap.size ≤ q → (fun q : Nat => s.heap.size ≤ q) q := fun _ h => h
  have hbA : ¬ (fun q : Nat => s.heap.size ≤ q) b := Nat.not_le.mpr hbl
  have hi1 : vp_in (nI i + 1) L := by rw [show (1 : Int32) = nI 1 from rfl, nI_add]; exact vp_in_nI (by omega) (by omega)
  refine lv_aload_n hx hb dL_law_279 rfl (lv_at hl 1 rfl) ?_
  refine lv_aload_n hx hb dL_law_280 rfl (lv_at hl 0 rfl) ?_
  refine lv_iload_n hx hb dL_law_281 rfl (lv_at hl 3 rfl) ?_
  refine lv_iconst (v := 1) hx hb dL_law_282 (by decide) ?_
  refine lv_iadd hx hb dL_law_283 ?_
  refine va_sld hx hb hX hbl hbA hS hi1 dL_law_284 ?_
  obtain ⟨r, σ', τ', h1, h2, hR'⟩ := op_tick (F := 2000) (by decide) hR (xs (nI i + 1).toNatClampNeg)
  refine lc7_i (As := [.int (xs (nI i + 1).toNatClampNeg)]) (rest := []) C0 (mX7_tick l dC dI cI cJ cZ ad 2000 σ (xs (nI i + 1).toNatClampNeg) h1 H.size) (wV_good wm_14_22 wm_14_23 wm_15_0 wm_1_2 wm_15_1) yd_X7_tick ⟨rfl, rfl, Nat.le_of_ble_eq_true rfl, Nat.le_of_ble_eq_true rfl, Nat.le_of_ble_eq_true rfl, Nat.le_of_ble_eq_true rfl⟩ xC_b (fun U _ hW => xC_w hW hXS.1) hK hP hD hS hA hl.1 rfl (Nat.le_of_ble_eq_true rfl) dL_law_285 (fun H locs hP hD hS => ?_)
  refine lv_aload_n hx hb dL_law_288 rfl (lv_at hl 2 rfl) ?_
  refine lv_aload_n hx hb dL_law_289 rfl (lv_at hl 0 rfl) ?_
  refine lv_iload_n hx hb dL_law_290 rfl (lv_at hl 3 rfl) ?_
  refine lv_iconst (v := 1) hx hb dL_law_291 (by decide) ?_
  refine lv_iadd hx hb dL_law_292 ?_
  refine va_sld hx hb hX hbl hbA hS hi1 dL_law_293 ?_
  refine lc8_i (As := [.int (xs (nI i + 1).toNatClampNeg)]) (rest := [.int (r)]) C0 (mX8_tick l dC dI cI cJ cZ ad2 2000 τ (xs (nI i + 1).toNatClampNeg) h2 H.size) (wV_good wm_16_15 wm_16_16 wm_16_17 wm_1_5 wm_16_18) yd_X8_tick ⟨rfl, rfl, Nat.le_of_ble_eq_true rfl, Nat.le_of_ble_eq_true rfl, Nat.le_of_ble_eq_true rfl, Nat.le_of_ble_eq_true rfl⟩  hK hP hD hS hA hl.1 rfl (Nat.le_of_ble_eq_true rfl) dL_law_294 (fun H locs hP hD hS => ?_)
  refine lv_icmp_eq (tgt := 725) hx hb dL_law_297 (by decide) (fun _ => ?_) (fun h => absurd rfl h)
  exact kk σ' τ' H locs hR' hP hD hS
set_option maxHeartbeats 4000000 in
set_option maxRecDepth 100000 in
theorem lw_serve {p : Program} {l : Launch} {e : Env} {s : State} {m : MethodId} {below : List Frame} {meth : Method} {c : Code} {H : Heap} {locs : List Loc} {Q : State → Prop} {dC : Nat → ClassId} {dI : Nat → Nat → Nat} {cI cJ cZ : ClassId} {b L t1 t2 i K : Nat} {xs : Nat → Int32} {ad ad2 : Nat → Nat} {σ τ : St} {ls : Array Slot} (E : lX p s m meth c b L xs dC dI cI cJ cZ t1 t2) (hi : i + 5 ≤ L) (hK5 : K < 1000) (hR : Rel K σ τ) (hP : va_P (dC, dI) vwCl (w2 cI cJ cZ ad ad2 σ τ) H) (hD : va_D (fun q : Nat => s.heap.size ≤ q) (w2 cI cJ cZ ad ad2 σ τ)) (hS : va_S (fun q : Nat => s.heap.size ≤ q) s.heap H locs) (hl : lv_has ls 4 [(0, .ref b), (1, .ref (ad 0)), (2, .ref (ad2 0)), (3, .int (nI i))]) (kk : ∀ (σ' τ' : St) (H1 : Heap) (locs1 : List Loc), Rel (K + 1) σ' τ' → va_P (dC, dI) vwCl (w2 cI cJ cZ ad ad2 σ' τ') H1 → va_D (fun q : Nat => s.heap.size ≤ q) (w2 cI cJ cZ ad ad2 σ' τ') → va_S (fun q : Nat => s.heap.size ≤ q) s.heap H1 locs1 → W p l e room_1 s m #[Value.ref b] below meth c H1 locs1 600000 7302250 Q (F0 m 725 ls [])) : W p l e room_1 s m #[Value.ref b] below meth c H locs 600000 7302250 Q (F0 m 302 ls []) := by
  obtain ⟨C0, hK, hXS, hX, hbl, hL⟩ := E
  obtain ⟨hx, hb, hml, hown, hT, hr, hlocks⟩ := id C0
  have hA : ∀ q : Nat, s.heap.size ≤ q → (fun q : Nat => s.heap.size ≤ q) q := fun _ h => h
  have hbA : ¬ (fun q : Nat => s.heap.size ≤ q) b := Nat.not_le.mpr hbl
  have hi1 : vp_in (nI i + 1) L := by rw [show (1 : Int32) = nI 1 from rfl, nI_add]; exact vp_in_nI (by omega) (by omega)
  refine lv_aload_n hx hb dL_law_302 rfl (lv_at hl 1 rfl) ?_
  refine lv_aload_n hx hb dL_law_303 rfl (lv_at hl 0 rfl) ?_
  refine lv_iload_n hx hb dL_law_304 rfl (lv_at hl 3 rfl) ?_
  refine lv_iconst (v := 1) hx hb dL_law_305 (by decide) ?_
  refine lv_iadd hx hb dL_law_306 ?_
  refine va_sld hx hb hX hbl hbA hS hi1 dL_law_307 ?_
  obtain ⟨r, σ', τ', h1, h2, hR'⟩ := op_serve (F := 2000) (by decide) hK5 hR (xs (nI i + 1).toNatClampNeg)
  refine lc7_i (As := [.int (xs (nI i + 1).toNatClampNeg)]) (rest := []) C0 (mX7_serve l dC dI cI cJ cZ ad 2000 σ (xs (nI i + 1).toNatClampNeg) h1 H.size) (wV_good wm_17_0 wm_17_1 wm_17_2 wm_1_2 wm_17_3) yd_X7_serve ⟨rfl, rfl, Nat.le_of_ble_eq_true rfl, Nat.le_of_ble_eq_true rfl, Nat.le_of_ble_eq_true rfl, Nat.le_of_ble_eq_true rfl⟩ xC_b (fun U _ hW => xC_w hW hXS.1) hK hP hD hS hA hl.1 rfl (Nat.le_of_ble_eq_true rfl) dL_law_308 (fun H locs hP hD hS => ?_)
  refine lv_aload_n hx hb dL_law_311 rfl (lv_at hl 2 rfl) ?_
  refine lv_aload_n hx hb dL_law_312 rfl (lv_at hl 0 rfl) ?_
  refine lv_iload_n hx hb dL_law_313 rfl (lv_at hl 3 rfl) ?_
  refine lv_iconst (v := 1) hx hb dL_law_314 (by decide) ?_
  refine lv_iadd hx hb dL_law_315 ?_
  refine va_sld hx hb hX hbl hbA hS hi1 dL_law_316 ?_
  refine lc8_i (As := [.int (xs (nI i + 1).toNatClampNeg)]) (rest := [.int (r)]) C0 (mX8_serve l dC dI cI cJ cZ ad2 2000 τ (xs (nI i + 1).toNatClampNeg) h2 H.size) (wV_good wm_18_10 wm_18_11 wm_18_12 wm_1_5 wm_18_13) yd_X8_serve ⟨rfl, rfl, Nat.le_of_ble_eq_true rfl, Nat.le_of_ble_eq_true rfl, Nat.le_of_ble_eq_true rfl, Nat.le_of_ble_eq_true rfl⟩  hK hP hD hS hA hl.1 rfl (Nat.le_of_ble_eq_true rfl) dL_law_317 (fun H locs hP hD hS => ?_)
  refine lv_icmp_eq (tgt := 725) hx hb dL_law_320 (by decide) (fun _ => ?_) (fun h => absurd rfl h)
  exact kk σ' τ' H locs hR' hP hD hS
set_option maxHeartbeats 4000000 in
set_option maxRecDepth 100000 in
theorem lw_refuse {p : Program} {l : Launch} {e : Env} {s : State} {m : MethodId} {below : List Frame} {meth : Method} {c : Code} {H : Heap} {locs : List Loc} {Q : State → Prop} {dC : Nat → ClassId} {dI : Nat → Nat → Nat} {cI cJ cZ : ClassId} {b L t1 t2 i K : Nat} {xs : Nat → Int32} {ad ad2 : Nat → Nat} {σ τ : St} {ls : Array Slot} (E : lX p s m meth c b L xs dC dI cI cJ cZ t1 t2) (hi : i + 5 ≤ L) (hK5 : K < 1000) (hR : Rel K σ τ) (hP : va_P (dC, dI) vwCl (w2 cI cJ cZ ad ad2 σ τ) H) (hD : va_D (fun q : Nat => s.heap.size ≤ q) (w2 cI cJ cZ ad ad2 σ τ)) (hS : va_S (fun q : Nat => s.heap.size ≤ q) s.heap H locs) (hl : lv_has ls 4 [(0, .ref b), (1, .ref (ad 0)), (2, .ref (ad2 0)), (3, .int (nI i))]) (kk : ∀ (σ' τ' : St) (H1 : Heap) (locs1 : List Loc), Rel (K + 1) σ' τ' → va_P (dC, dI) vwCl (w2 cI cJ cZ ad ad2 σ' τ') H1 → va_D (fun q : Nat => s.heap.size ≤ q) (w2 cI cJ cZ ad ad2 σ' τ') → va_S (fun q : Nat => s.heap.size ≤ q) s.heap H1 locs1 → W p l e room_1 s m #[Value.ref b] below meth c H1 locs1 600000 7302250 Q (F0 m 725 ls [])) : W p l e room_1 s m #[Value.ref b] below meth c H locs 600000 7302250 Q (F0 m 325 ls []) := by
  obtain ⟨C0, hK, hXS, hX, hbl, hL⟩ := E
  obtain ⟨hx, hb, hml, hown, hT, hr, hlocks⟩ := id C0
  have hA : ∀ q : Nat, s.heap.size ≤ q → (fun q : Nat => s.heap.size ≤ q) q := fun _ h => h
  have hbA : ¬ (fun q : Nat => s.heap.size ≤ q) b := Nat.not_le.mpr hbl
  have hi1 : vp_in (nI i + 1) L := by rw [show (1 : Int32) = nI 1 from rfl, nI_add]; exact vp_in_nI (by omega) (by omega)
  have hi2 : vp_in (nI i + 2) L := by rw [show (2 : Int32) = nI 2 from rfl, nI_add]; exact vp_in_nI (by omega) (by omega)
  refine lv_aload_n hx hb dL_law_325 rfl (lv_at hl 1 rfl) ?_
  refine lv_aload_n hx hb dL_law_326 rfl (lv_at hl 0 rfl) ?_
  refine lv_iload_n hx hb dL_law_327 rfl (lv_at hl 3 rfl) ?_
  refine lv_iconst (v := 1) hx hb dL_law_328 (by decide) ?_
  refine lv_iadd hx hb dL_law_329 ?_
  refine va_sld hx hb hX hbl hbA hS hi1 dL_law_330 ?_
  refine lv_aload_n hx hb dL_law_331 rfl (lv_at hl 0 rfl) ?_
  refine lv_iload_n hx hb dL_law_332 rfl (lv_at hl 3 rfl) ?_
  refine lv_iconst (v := 2) hx hb dL_law_333 (by decide) ?_
  refine lv_iadd hx hb dL_law_334 ?_
  refine va_sld hx hb hX hbl hbA hS hi2 dL_law_335 ?_
  obtain ⟨r, σ', τ', h1, h2, hR'⟩ := op_refuse (F := 2000) (by decide) hR (xs (nI i + 1).toNatClampNeg) (xs (nI i + 2).toNatClampNeg)
  refine lc7_i (As := [.int (xs (nI i + 1).toNatClampNeg), .int (xs (nI i + 2).toNatClampNeg)]) (rest := []) C0 (mX7_refuse l dC dI cI cJ cZ ad 2000 σ (xs (nI i + 1).toNatClampNeg) (xs (nI i + 2).toNatClampNeg) h1 H.size) (wV_good wm_19_2 wm_19_3 wm_19_4 wm_1_2 wm_19_5) yd_X7_refuse ⟨rfl, rfl, Nat.le_of_ble_eq_true rfl, Nat.le_of_ble_eq_true rfl, Nat.le_of_ble_eq_true rfl, Nat.le_of_ble_eq_true rfl⟩ xC_b (fun U _ hW => xC_w hW hXS.1) hK hP hD hS hA hl.1 rfl (Nat.le_of_ble_eq_true rfl) dL_law_336 (fun H locs hP hD hS => ?_)
  refine lv_aload_n hx hb dL_law_339 rfl (lv_at hl 2 rfl) ?_
  refine lv_aload_n hx hb dL_law_340 rfl (lv_at hl 0 rfl) ?_
  refine lv_iload_n hx hb dL_law_341 rfl (lv_at hl 3 rfl) ?_
  refine lv_iconst (v := 1) hx hb dL_law_342 (by decide) ?_
  refine lv_iadd hx hb dL_law_343 ?_
  refine va_sld hx hb hX hbl hbA hS hi1 dL_law_344 ?_
  refine lv_aload_n hx hb dL_law_345 rfl (lv_at hl 0 rfl) ?_
  refine lv_iload_n hx hb dL_law_346 rfl (lv_at hl 3 rfl) ?_
  refine lv_iconst (v := 2) hx hb dL_law_347 (by decide) ?_
  refine lv_iadd hx hb dL_law_348 ?_
  refine va_sld hx hb hX hbl hbA hS hi2 dL_law_349 ?_
  refine lc8_i (As := [.int (xs (nI i + 1).toNatClampNeg), .int (xs (nI i + 2).toNatClampNeg)]) (rest := [.int (r)]) C0 (mX8_refuse l dC dI cI cJ cZ ad2 2000 τ (xs (nI i + 1).toNatClampNeg) (xs (nI i + 2).toNatClampNeg) h2 H.size) (wV_good wm_19_10 wm_19_11 wm_19_12 wm_1_5 wm_19_13) yd_X8_refuse ⟨rfl, rfl, Nat.le_of_ble_eq_true rfl, Nat.le_of_ble_eq_true rfl, Nat.le_of_ble_eq_true rfl, Nat.le_of_ble_eq_true rfl⟩  hK hP hD hS hA hl.1 rfl (Nat.le_of_ble_eq_true rfl) dL_law_350 (fun H locs hP hD hS => ?_)
  refine lv_icmp_eq (tgt := 725) hx hb dL_law_353 (by decide) (fun _ => ?_) (fun h => absurd rfl h)
  exact kk σ' τ' H locs hR' hP hD hS
set_option maxHeartbeats 4000000 in
set_option maxRecDepth 100000 in
theorem lw_arrive {p : Program} {l : Launch} {e : Env} {s : State} {m : MethodId} {below : List Frame} {meth : Method} {c : Code} {H : Heap} {locs : List Loc} {Q : State → Prop} {dC : Nat → ClassId} {dI : Nat → Nat → Nat} {cI cJ cZ : ClassId} {b L t1 t2 i K : Nat} {xs : Nat → Int32} {ad ad2 : Nat → Nat} {σ τ : St} {ls : Array Slot} (E : lX p s m meth c b L xs dC dI cI cJ cZ t1 t2) (hi : i + 5 ≤ L) (hK5 : K < 1000) (hR : Rel K σ τ) (hP : va_P (dC, dI) vwCl (w2 cI cJ cZ ad ad2 σ τ) H) (hD : va_D (fun q : Nat => s.heap.size ≤ q) (w2 cI cJ cZ ad ad2 σ τ)) (hS : va_S (fun q : Nat => s.heap.size ≤ q) s.heap H locs) (hl : lv_has ls 4 [(0, .ref b), (1, .ref (ad 0)), (2, .ref (ad2 0)), (3, .int (nI i))]) (kk : ∀ (σ' τ' : St) (H1 : Heap) (locs1 : List Loc), Rel (K + 1) σ' τ' → va_P (dC, dI) vwCl (w2 cI cJ cZ ad ad2 σ' τ') H1 → va_D (fun q : Nat => s.heap.size ≤ q) (w2 cI cJ cZ ad ad2 σ' τ') → va_S (fun q : Nat => s.heap.size ≤ q) s.heap H1 locs1 → W p l e room_1 s m #[Value.ref b] below meth c H1 locs1 600000 7302250 Q (F0 m 725 ls [])) : W p l e room_1 s m #[Value.ref b] below meth c H locs 600000 7302250 Q (F0 m 358 ls []) := by
  obtain ⟨C0, hK, hXS, hX, hbl, hL⟩ := E
  obtain ⟨hx, hb, hml, hown, hT, hr, hlocks⟩ := id C0
  have hA : ∀ q : Nat, s.heap.size ≤ q → (fun q : Nat => s.heap.size ≤ q) q := fun _ h => h
  have hbA : ¬ (fun q : Nat => s.heap.size ≤ q) b := Nat.not_le.mpr hbl
  have hi1 : vp_in (nI i + 1) L := by rw [show (1 : Int32) = nI 1 from rfl, nI_add]; exact vp_in_nI (by omega) (by omega)
  refine lv_aload_n hx hb dL_law_358 rfl (lv_at hl 1 rfl) ?_
  refine lv_aload_n hx hb dL_law_359 rfl (lv_at hl 0 rfl) ?_
  refine lv_iload_n hx hb dL_law_360 rfl (lv_at hl 3 rfl) ?_
  refine lv_iconst (v := 1) hx hb dL_law_361 (by decide) ?_
  refine lv_iadd hx hb dL_law_362 ?_
  refine va_sld hx hb hX hbl hbA hS hi1 dL_law_363 ?_
  obtain ⟨r, σ', τ', h1, h2, hR'⟩ := op_arrive (F := 2000) (by decide) hR (xs (nI i + 1).toNatClampNeg)
  refine lc7_i (As := [.int (xs (nI i + 1).toNatClampNeg)]) (rest := []) C0 (mX7_arrive l dC dI cI cJ cZ ad 2000 σ (xs (nI i + 1).toNatClampNeg) h1 H.size) (wV_good wm_19_14 wm_19_15 wm_19_16 wm_1_2 wm_19_17) yd_X7_arrive ⟨rfl, rfl, Nat.le_of_ble_eq_true rfl, Nat.le_of_ble_eq_true rfl, Nat.le_of_ble_eq_true rfl, Nat.le_of_ble_eq_true rfl⟩ xC_b (fun U _ hW => xC_w hW hXS.1) hK hP hD hS hA hl.1 rfl (Nat.le_of_ble_eq_true rfl) dL_law_364 (fun H locs hP hD hS => ?_)
  refine lv_aload_n hx hb dL_law_367 rfl (lv_at hl 2 rfl) ?_
  refine lv_aload_n hx hb dL_law_368 rfl (lv_at hl 0 rfl) ?_
  refine lv_iload_n hx hb dL_law_369 rfl (lv_at hl 3 rfl) ?_
  refine lv_iconst (v := 1) hx hb dL_law_370 (by decide) ?_
  refine lv_iadd hx hb dL_law_371 ?_
  refine va_sld hx hb hX hbl hbA hS hi1 dL_law_372 ?_
  refine lc8_i (As := [.int (xs (nI i + 1).toNatClampNeg)]) (rest := [.int (r)]) C0 (mX8_arrive l dC dI cI cJ cZ ad2 2000 τ (xs (nI i + 1).toNatClampNeg) h2 H.size) (wV_good wm_21_2 wm_21_3 wm_21_4 wm_1_5 wm_21_5) yd_X8_arrive ⟨rfl, rfl, Nat.le_of_ble_eq_true rfl, Nat.le_of_ble_eq_true rfl, Nat.le_of_ble_eq_true rfl, Nat.le_of_ble_eq_true rfl⟩  hK hP hD hS hA hl.1 rfl (Nat.le_of_ble_eq_true rfl) dL_law_373 (fun H locs hP hD hS => ?_)
  refine lv_icmp_eq (tgt := 725) hx hb dL_law_376 (by decide) (fun _ => ?_) (fun h => absurd rfl h)
  exact kk σ' τ' H locs hR' hP hD hS
set_option maxHeartbeats 4000000 in
set_option maxRecDepth 100000 in
theorem lw_lose {p : Program} {l : Launch} {e : Env} {s : State} {m : MethodId} {below : List Frame} {meth : Method} {c : Code} {H : Heap} {locs : List Loc} {Q : State → Prop} {dC : Nat → ClassId} {dI : Nat → Nat → Nat} {cI cJ cZ : ClassId} {b L t1 t2 i K : Nat} {xs : Nat → Int32} {ad ad2 : Nat → Nat} {σ τ : St} {ls : Array Slot} (E : lX p s m meth c b L xs dC dI cI cJ cZ t1 t2) (hi : i + 5 ≤ L) (hK5 : K < 1000) (hR : Rel K σ τ) (hP : va_P (dC, dI) vwCl (w2 cI cJ cZ ad ad2 σ τ) H) (hD : va_D (fun q : Nat => s.heap.size ≤ q) (w2 cI cJ cZ ad ad2 σ τ)) (hS : va_S (fun q : Nat => s.heap.size ≤ q) s.heap H locs) (hl : lv_has ls 4 [(0, .ref b), (1, .ref (ad 0)), (2, .ref (ad2 0)), (3, .int (nI i))]) (kk : ∀ (σ' τ' : St) (H1 : Heap) (locs1 : List Loc), Rel (K + 1) σ' τ' → va_P (dC, dI) vwCl (w2 cI cJ cZ ad ad2 σ' τ') H1 → va_D (fun q : Nat => s.heap.size ≤ q) (w2 cI cJ cZ ad ad2 σ' τ') → va_S (fun q : Nat => s.heap.size ≤ q) s.heap H1 locs1 → W p l e room_1 s m #[Value.ref b] below meth c H1 locs1 600000 7302250 Q (F0 m 725 ls [])) : W p l e room_1 s m #[Value.ref b] below meth c H locs 600000 7302250 Q (F0 m 381 ls []) := by
  obtain ⟨C0, hK, hXS, hX, hbl, hL⟩ := E
  obtain ⟨hx, hb, hml, hown, hT, hr, hlocks⟩ := id C0
  have hA : ∀ q : Nat, s.heap.size ≤ q → (fun q : Nat => s.heap.size ≤ q) q := fun _ h => h
  have hbA : ¬ (fun q : Nat => s.heap.size ≤ q) b := Nat.not_le.mpr hbl
  have hi1 : vp_in (nI i + 1) L := by rw [show (1 : Int32) = nI 1 from rfl, nI_add]; exact vp_in_nI (by omega) (by omega)
  have hi2 : vp_in (nI i + 2) L := by rw [show (2 : Int32) = nI 2 from rfl, nI_add]; exact vp_in_nI (by omega) (by omega)
  refine lv_aload_n hx hb dL_law_381 rfl (lv_at hl 1 rfl) ?_
  refine lv_aload_n hx hb dL_law_382 rfl (lv_at hl 0 rfl) ?_
  refine lv_iload_n hx hb dL_law_383 rfl (lv_at hl 3 rfl) ?_
  refine lv_iconst (v := 1) hx hb dL_law_384 (by decide) ?_
  refine lv_iadd hx hb dL_law_385 ?_
  refine va_sld hx hb hX hbl hbA hS hi1 dL_law_386 ?_
  refine lv_aload_n hx hb dL_law_387 rfl (lv_at hl 0 rfl) ?_
  refine lv_iload_n hx hb dL_law_388 rfl (lv_at hl 3 rfl) ?_
  refine lv_iconst (v := 2) hx hb dL_law_389 (by decide) ?_
  refine lv_iadd hx hb dL_law_390 ?_
  refine va_sld hx hb hX hbl hbA hS hi2 dL_law_391 ?_
  obtain ⟨r, σ', τ', h1, h2, hR'⟩ := op_lose (F := 2000) (by decide) hR (xs (nI i + 1).toNatClampNeg) (xs (nI i + 2).toNatClampNeg)
  refine lc7_i (As := [.int (xs (nI i + 1).toNatClampNeg), .int (xs (nI i + 2).toNatClampNeg)]) (rest := []) C0 (mX7_lose l dC dI cI cJ cZ ad 2000 σ (xs (nI i + 1).toNatClampNeg) (xs (nI i + 2).toNatClampNeg) h1 H.size) (wV_good wm_21_10 wm_21_11 wm_21_12 wm_1_2 wm_21_13) yd_X7_lose ⟨rfl, rfl, Nat.le_of_ble_eq_true rfl, Nat.le_of_ble_eq_true rfl, Nat.le_of_ble_eq_true rfl, Nat.le_of_ble_eq_true rfl⟩ xC_b (fun U _ hW => xC_w hW hXS.1) hK hP hD hS hA hl.1 rfl (Nat.le_of_ble_eq_true rfl) dL_law_392 (fun H locs hP hD hS => ?_)
  refine lv_aload_n hx hb dL_law_395 rfl (lv_at hl 2 rfl) ?_
  refine lv_aload_n hx hb dL_law_396 rfl (lv_at hl 0 rfl) ?_
  refine lv_iload_n hx hb dL_law_397 rfl (lv_at hl 3 rfl) ?_
  refine lv_iconst (v := 1) hx hb dL_law_398 (by decide) ?_
  refine lv_iadd hx hb dL_law_399 ?_
  refine va_sld hx hb hX hbl hbA hS hi1 dL_law_400 ?_
  refine lv_aload_n hx hb dL_law_401 rfl (lv_at hl 0 rfl) ?_
  refine lv_iload_n hx hb dL_law_402 rfl (lv_at hl 3 rfl) ?_
  refine lv_iconst (v := 2) hx hb dL_law_403 (by decide) ?_
  refine lv_iadd hx hb dL_law_404 ?_
  refine va_sld hx hb hX hbl hbA hS hi2 dL_law_405 ?_
  refine lc8_i (As := [.int (xs (nI i + 1).toNatClampNeg), .int (xs (nI i + 2).toNatClampNeg)]) (rest := [.int (r)]) C0 (mX8_lose l dC dI cI cJ cZ ad2 2000 τ (xs (nI i + 1).toNatClampNeg) (xs (nI i + 2).toNatClampNeg) h2 H.size) (wV_good wm_21_18 wm_21_19 wm_21_20 wm_1_5 wm_21_21) yd_X8_lose ⟨rfl, rfl, Nat.le_of_ble_eq_true rfl, Nat.le_of_ble_eq_true rfl, Nat.le_of_ble_eq_true rfl, Nat.le_of_ble_eq_true rfl⟩  hK hP hD hS hA hl.1 rfl (Nat.le_of_ble_eq_true rfl) dL_law_406 (fun H locs hP hD hS => ?_)
  refine lv_icmp_eq (tgt := 725) hx hb dL_law_409 (by decide) (fun _ => ?_) (fun h => absurd rfl h)
  exact kk σ' τ' H locs hR' hP hD hS
set_option maxHeartbeats 4000000 in
set_option maxRecDepth 100000 in
theorem lw_twice {p : Program} {l : Launch} {e : Env} {s : State} {m : MethodId} {below : List Frame} {meth : Method} {c : Code} {H : Heap} {locs : List Loc} {Q : State → Prop} {dC : Nat → ClassId} {dI : Nat → Nat → Nat} {cI cJ cZ : ClassId} {b L t1 t2 i K : Nat} {xs : Nat → Int32} {ad ad2 : Nat → Nat} {σ τ : St} {ls : Array Slot} (E : lX p s m meth c b L xs dC dI cI cJ cZ t1 t2) (hi : i + 5 ≤ L) (hK5 : K < 1000) (hR : Rel K σ τ) (hP : va_P (dC, dI) vwCl (w2 cI cJ cZ ad ad2 σ τ) H) (hD : va_D (fun q : Nat => s.heap.size ≤ q) (w2 cI cJ cZ ad ad2 σ τ)) (hS : va_S (fun q : Nat => s.heap.size ≤ q) s.heap H locs) (hl : lv_has ls 4 [(0, .ref b), (1, .ref (ad 0)), (2, .ref (ad2 0)), (3, .int (nI i))]) (kk : ∀ (σ' τ' : St) (H1 : Heap) (locs1 : List Loc), Rel (K + 1) σ' τ' → va_P (dC, dI) vwCl (w2 cI cJ cZ ad ad2 σ' τ') H1 → va_D (fun q : Nat => s.heap.size ≤ q) (w2 cI cJ cZ ad ad2 σ' τ') → va_S (fun q : Nat => s.heap.size ≤ q) s.heap H1 locs1 → W p l e room_1 s m #[Value.ref b] below meth c H1 locs1 600000 7302250 Q (F0 m 725 ls [])) : W p l e room_1 s m #[Value.ref b] below meth c H locs 600000 7302250 Q (F0 m 414 ls []) := by
  obtain ⟨C0, hK, hXS, hX, hbl, hL⟩ := E
  obtain ⟨hx, hb, hml, hown, hT, hr, hlocks⟩ := id C0
  have hA : ∀ q : Nat, s.heap.size ≤ q → (fun q : Nat => s.heap.size ≤ q) q := fun _ h => h
  have hbA : ¬ (fun q : Nat => s.heap.size ≤ q) b := Nat.not_le.mpr hbl
  have hi1 : vp_in (nI i + 1) L := by rw [show (1 : Int32) = nI 1 from rfl, nI_add]; exact vp_in_nI (by omega) (by omega)
  have hi2 : vp_in (nI i + 2) L := by rw [show (2 : Int32) = nI 2 from rfl, nI_add]; exact vp_in_nI (by omega) (by omega)
  refine lv_aload_n hx hb dL_law_414 rfl (lv_at hl 1 rfl) ?_
  refine lv_aload_n hx hb dL_law_415 rfl (lv_at hl 0 rfl) ?_
  refine lv_iload_n hx hb dL_law_416 rfl (lv_at hl 3 rfl) ?_
  refine lv_iconst (v := 1) hx hb dL_law_417 (by decide) ?_
  refine lv_iadd hx hb dL_law_418 ?_
  refine va_sld hx hb hX hbl hbA hS hi1 dL_law_419 ?_
  refine lv_aload_n hx hb dL_law_420 rfl (lv_at hl 0 rfl) ?_
  refine lv_iload_n hx hb dL_law_421 rfl (lv_at hl 3 rfl) ?_
  refine lv_iconst (v := 2) hx hb dL_law_422 (by decide) ?_
  refine lv_iadd hx hb dL_law_423 ?_
  refine va_sld hx hb hX hbl hbA hS hi2 dL_law_424 ?_
  obtain ⟨r, σ', τ', h1, h2, hR'⟩ := op_twice (F := 2000) (by decide) hR (xs (nI i + 1).toNatClampNeg) (xs (nI i + 2).toNatClampNeg)
  refine lc7_i (As := [.int (xs (nI i + 1).toNatClampNeg), .int (xs (nI i + 2).toNatClampNeg)]) (rest := []) C0 (mX7_twice l dC dI cI cJ cZ ad 2000 σ (xs (nI i + 1).toNatClampNeg) (xs (nI i + 2).toNatClampNeg) h1 H.size) (wV_good wm_21_22 wm_21_23 wm_22_0 wm_1_2 wm_22_1) yd_X7_twice ⟨rfl, rfl, Nat.le_of_ble_eq_true rfl, Nat.le_of_ble_eq_true rfl, Nat.le_of_ble_eq_true rfl, Nat.le_of_ble_eq_true rfl⟩ xC_b (fun U _ hW => xC_w hW hXS.1) hK hP hD hS hA hl.1 rfl (Nat.le_of_ble_eq_true rfl) dL_law_425 (fun H locs hP hD hS => ?_)
  refine lv_aload_n hx hb dL_law_428 rfl (lv_at hl 2 rfl) ?_
  refine lv_aload_n hx hb dL_law_429 rfl (lv_at hl 0 rfl) ?_
  refine lv_iload_n hx hb dL_law_430 rfl (lv_at hl 3 rfl) ?_
  refine lv_iconst (v := 1) hx hb dL_law_431 (by decide) ?_
  refine lv_iadd hx hb dL_law_432 ?_
  refine va_sld hx hb hX hbl hbA hS hi1 dL_law_433 ?_
  refine lv_aload_n hx hb dL_law_434 rfl (lv_at hl 0 rfl) ?_
  refine lv_iload_n hx hb dL_law_435 rfl (lv_at hl 3 rfl) ?_
  refine lv_iconst (v := 2) hx hb dL_law_436 (by decide) ?_
  refine lv_iadd hx hb dL_law_437 ?_
  refine va_sld hx hb hX hbl hbA hS hi2 dL_law_438 ?_
  refine lc8_i (As := [.int (xs (nI i + 1).toNatClampNeg), .int (xs (nI i + 2).toNatClampNeg)]) (rest := [.int (r)]) C0 (mX8_twice l dC dI cI cJ cZ ad2 2000 τ (xs (nI i + 1).toNatClampNeg) (xs (nI i + 2).toNatClampNeg) h2 H.size) (wV_good wm_22_2 wm_22_3 wm_22_4 wm_1_5 wm_22_5) yd_X8_twice ⟨rfl, rfl, Nat.le_of_ble_eq_true rfl, Nat.le_of_ble_eq_true rfl, Nat.le_of_ble_eq_true rfl, Nat.le_of_ble_eq_true rfl⟩  hK hP hD hS hA hl.1 rfl (Nat.le_of_ble_eq_true rfl) dL_law_439 (fun H locs hP hD hS => ?_)
  refine lv_icmp_eq (tgt := 725) hx hb dL_law_442 (by decide) (fun _ => ?_) (fun h => absurd rfl h)
  exact kk σ' τ' H locs hR' hP hD hS
set_option maxHeartbeats 4000000 in
set_option maxRecDepth 100000 in
theorem lw_under {p : Program} {l : Launch} {e : Env} {s : State} {m : MethodId} {below : List Frame} {meth : Method} {c : Code} {H : Heap} {locs : List Loc} {Q : State → Prop} {dC : Nat → ClassId} {dI : Nat → Nat → Nat} {cI cJ cZ : ClassId} {b L t1 t2 i K : Nat} {xs : Nat → Int32} {ad ad2 : Nat → Nat} {σ τ : St} {ls : Array Slot} (E : lX p s m meth c b L xs dC dI cI cJ cZ t1 t2) (hi : i + 5 ≤ L) (hK5 : K < 1000) (hR : Rel K σ τ) (hP : va_P (dC, dI) vwCl (w2 cI cJ cZ ad ad2 σ τ) H) (hD : va_D (fun q : Nat => s.heap.size ≤ q) (w2 cI cJ cZ ad ad2 σ τ)) (hS : va_S (fun q : Nat => s.heap.size ≤ q) s.heap H locs) (hl : lv_has ls 4 [(0, .ref b), (1, .ref (ad 0)), (2, .ref (ad2 0)), (3, .int (nI i))]) (kk : ∀ (σ' τ' : St) (H1 : Heap) (locs1 : List Loc), Rel (K + 1) σ' τ' → va_P (dC, dI) vwCl (w2 cI cJ cZ ad ad2 σ' τ') H1 → va_D (fun q : Nat => s.heap.size ≤ q) (w2 cI cJ cZ ad ad2 σ' τ') → va_S (fun q : Nat => s.heap.size ≤ q) s.heap H1 locs1 → W p l e room_1 s m #[Value.ref b] below meth c H1 locs1 600000 7302250 Q (F0 m 725 ls [])) : W p l e room_1 s m #[Value.ref b] below meth c H locs 600000 7302250 Q (F0 m 447 ls []) := by
  obtain ⟨C0, hK, hXS, hX, hbl, hL⟩ := E
  obtain ⟨hx, hb, hml, hown, hT, hr, hlocks⟩ := id C0
  have hA : ∀ q : Nat, s.heap.size ≤ q → (fun q : Nat => s.heap.size ≤ q) q := fun _ h => h
  have hbA : ¬ (fun q : Nat => s.heap.size ≤ q) b := Nat.not_le.mpr hbl
  have hi1 : vp_in (nI i + 1) L := by rw [show (1 : Int32) = nI 1 from rfl, nI_add]; exact vp_in_nI (by omega) (by omega)
  have hi2 : vp_in (nI i + 2) L := by rw [show (2 : Int32) = nI 2 from rfl, nI_add]; exact vp_in_nI (by omega) (by omega)
  refine lv_aload_n hx hb dL_law_447 rfl (lv_at hl 1 rfl) ?_
  refine lv_aload_n hx hb dL_law_448 rfl (lv_at hl 0 rfl) ?_
  refine lv_iload_n hx hb dL_law_449 rfl (lv_at hl 3 rfl) ?_
  refine lv_iconst (v := 1) hx hb dL_law_450 (by decide) ?_
  refine lv_iadd hx hb dL_law_451 ?_
  refine va_sld hx hb hX hbl hbA hS hi1 dL_law_452 ?_
  refine lv_aload_n hx hb dL_law_453 rfl (lv_at hl 0 rfl) ?_
  refine lv_iload_n hx hb dL_law_454 rfl (lv_at hl 3 rfl) ?_
  refine lv_iconst (v := 2) hx hb dL_law_455 (by decide) ?_
  refine lv_iadd hx hb dL_law_456 ?_
  refine va_sld hx hb hX hbl hbA hS hi2 dL_law_457 ?_
  obtain ⟨r, h1, h2⟩ := op_under hR (xs (nI i + 1).toNatClampNeg) (xs (nI i + 2).toNatClampNeg)
  refine lc7_i (As := [.int (xs (nI i + 1).toNatClampNeg), .int (xs (nI i + 2).toNatClampNeg)]) (rest := []) C0 (mX7_under l dC dI cI cJ cZ ad σ (xs (nI i + 1).toNatClampNeg) (xs (nI i + 2).toNatClampNeg) h1 H.size) (wV_good wm_22_6 wm_22_7 wm_22_8 wm_1_2 wm_22_9) yd_X7_under ⟨rfl, rfl, Nat.le_of_ble_eq_true rfl, Nat.le_of_ble_eq_true rfl, Nat.le_of_ble_eq_true rfl, Nat.le_of_ble_eq_true rfl⟩ xC_b (fun U _ hW => xC_w hW hXS.1) hK hP hD hS hA hl.1 rfl (Nat.le_of_ble_eq_true rfl) dL_law_458 (fun H locs hP hD hS => ?_)
  refine lv_aload_n hx hb dL_law_461 rfl (lv_at hl 2 rfl) ?_
  refine lv_aload_n hx hb dL_law_462 rfl (lv_at hl 0 rfl) ?_
  refine lv_iload_n hx hb dL_law_463 rfl (lv_at hl 3 rfl) ?_
  refine lv_iconst (v := 1) hx hb dL_law_464 (by decide) ?_
  refine lv_iadd hx hb dL_law_465 ?_
  refine va_sld hx hb hX hbl hbA hS hi1 dL_law_466 ?_
  refine lv_aload_n hx hb dL_law_467 rfl (lv_at hl 0 rfl) ?_
  refine lv_iload_n hx hb dL_law_468 rfl (lv_at hl 3 rfl) ?_
  refine lv_iconst (v := 2) hx hb dL_law_469 (by decide) ?_
  refine lv_iadd hx hb dL_law_470 ?_
  refine va_sld hx hb hX hbl hbA hS hi2 dL_law_471 ?_
  refine lc8_i (As := [.int (xs (nI i + 1).toNatClampNeg), .int (xs (nI i + 2).toNatClampNeg)]) (rest := [.int (r)]) C0 (mX8_under l dC dI cI cJ cZ ad2 τ (xs (nI i + 1).toNatClampNeg) (xs (nI i + 2).toNatClampNeg) h2 H.size) (wV_good wm_22_10 wm_22_11 wm_22_12 wm_1_5 wm_22_13) yd_X8_under ⟨rfl, rfl, Nat.le_of_ble_eq_true rfl, Nat.le_of_ble_eq_true rfl, Nat.le_of_ble_eq_true rfl, Nat.le_of_ble_eq_true rfl⟩  hK hP hD hS hA hl.1 rfl (Nat.le_of_ble_eq_true rfl) dL_law_472 (fun H locs hP hD hS => ?_)
  refine lv_icmp_eq (tgt := 725) hx hb dL_law_475 (by decide) (fun _ => ?_) (fun h => absurd rfl h)
  exact kk σ τ H locs (Rel_K hR) hP hD hS
set_option maxHeartbeats 4000000 in
set_option maxRecDepth 100000 in
theorem lw_out {p : Program} {l : Launch} {e : Env} {s : State} {m : MethodId} {below : List Frame} {meth : Method} {c : Code} {H : Heap} {locs : List Loc} {Q : State → Prop} {dC : Nat → ClassId} {dI : Nat → Nat → Nat} {cI cJ cZ : ClassId} {b L t1 t2 i K : Nat} {xs : Nat → Int32} {ad ad2 : Nat → Nat} {σ τ : St} {ls : Array Slot} (E : lX p s m meth c b L xs dC dI cI cJ cZ t1 t2) (hi : i + 5 ≤ L) (hK5 : K < 1000) (hR : Rel K σ τ) (hP : va_P (dC, dI) vwCl (w2 cI cJ cZ ad ad2 σ τ) H) (hD : va_D (fun q : Nat => s.heap.size ≤ q) (w2 cI cJ cZ ad ad2 σ τ)) (hS : va_S (fun q : Nat => s.heap.size ≤ q) s.heap H locs) (hl : lv_has ls 4 [(0, .ref b), (1, .ref (ad 0)), (2, .ref (ad2 0)), (3, .int (nI i))]) (kk : ∀ (σ' τ' : St) (H1 : Heap) (locs1 : List Loc), Rel (K + 1) σ' τ' → va_P (dC, dI) vwCl (w2 cI cJ cZ ad ad2 σ' τ') H1 → va_D (fun q : Nat => s.heap.size ≤ q) (w2 cI cJ cZ ad ad2 σ' τ') → va_S (fun q : Nat => s.heap.size ≤ q) s.heap H1 locs1 → W p l e room_1 s m #[Value.ref b] below meth c H1 locs1 600000 7302250 Q (F0 m 725 ls [])) : W p l e room_1 s m #[Value.ref b] below meth c H locs 600000 7302250 Q (F0 m 480 ls []) := by
  obtain ⟨C0, hK, hXS, hX, hbl, hL⟩ := E
  obtain ⟨hx, hb, hml, hown, hT, hr, hlocks⟩ := id C0
  have hA : ∀ q : Nat, s.heap.size ≤ q → (fun q : Nat => s.heap.size ≤ q) q := fun _ h => h
  have hbA : ¬ (fun q : Nat => s.heap.size ≤ q) b := Nat.not_le.mpr hbl
  have hi1 : vp_in (nI i + 1) L := by rw [show (1 : Int32) = nI 1 from rfl, nI_add]; exact vp_in_nI (by omega) (by omega)
  have hi2 : vp_in (nI i + 2) L := by rw [show (2 : Int32) = nI 2 from rfl, nI_add]; exact vp_in_nI (by omega) (by omega)
  refine lv_aload_n hx hb dL_law_480 rfl (lv_at hl 1 rfl) ?_
  refine lv_aload_n hx hb dL_law_481 rfl (lv_at hl 0 rfl) ?_
  refine lv_iload_n hx hb dL_law_482 rfl (lv_at hl 3 rfl) ?_
  refine lv_iconst (v := 1) hx hb dL_law_483 (by decide) ?_
  refine lv_iadd hx hb dL_law_484 ?_
  refine va_sld hx hb hX hbl hbA hS hi1 dL_law_485 ?_
  refine lv_aload_n hx hb dL_law_486 rfl (lv_at hl 0 rfl) ?_
  refine lv_iload_n hx hb dL_law_487 rfl (lv_at hl 3 rfl) ?_
  refine lv_iconst (v := 2) hx hb dL_law_488 (by decide) ?_
  refine lv_iadd hx hb dL_law_489 ?_
  refine va_sld hx hb hX hbl hbA hS hi2 dL_law_490 ?_
  obtain ⟨r, h1, h2⟩ := op_out hR (xs (nI i + 1).toNatClampNeg) (xs (nI i + 2).toNatClampNeg)
  refine lc7_i (As := [.int (xs (nI i + 1).toNatClampNeg), .int (xs (nI i + 2).toNatClampNeg)]) (rest := []) C0 (mX7_out l dC dI cI cJ cZ ad σ (xs (nI i + 1).toNatClampNeg) (xs (nI i + 2).toNatClampNeg) h1 H.size) (wV_good wm_22_14 wm_22_15 wm_22_16 wm_1_2 wm_22_17) yd_X7_out ⟨rfl, rfl, Nat.le_of_ble_eq_true rfl, Nat.le_of_ble_eq_true rfl, Nat.le_of_ble_eq_true rfl, Nat.le_of_ble_eq_true rfl⟩ xC_b (fun U _ hW => xC_w hW hXS.1) hK hP hD hS hA hl.1 rfl (Nat.le_of_ble_eq_true rfl) dL_law_491 (fun H locs hP hD hS => ?_)
  refine lv_aload_n hx hb dL_law_494 rfl (lv_at hl 2 rfl) ?_
  refine lv_aload_n hx hb dL_law_495 rfl (lv_at hl 0 rfl) ?_
  refine lv_iload_n hx hb dL_law_496 rfl (lv_at hl 3 rfl) ?_
  refine lv_iconst (v := 1) hx hb dL_law_497 (by decide) ?_
  refine lv_iadd hx hb dL_law_498 ?_
  refine va_sld hx hb hX hbl hbA hS hi1 dL_law_499 ?_
  refine lv_aload_n hx hb dL_law_500 rfl (lv_at hl 0 rfl) ?_
  refine lv_iload_n hx hb dL_law_501 rfl (lv_at hl 3 rfl) ?_
  refine lv_iconst (v := 2) hx hb dL_law_502 (by decide) ?_
  refine lv_iadd hx hb dL_law_503 ?_
  refine va_sld hx hb hX hbl hbA hS hi2 dL_law_504 ?_
  refine lc8_i (As := [.int (xs (nI i + 1).toNatClampNeg), .int (xs (nI i + 2).toNatClampNeg)]) (rest := [.int (r)]) C0 (mX8_out l dC dI cI cJ cZ ad2 τ (xs (nI i + 1).toNatClampNeg) (xs (nI i + 2).toNatClampNeg) h2 H.size) (wV_good wm_23_6 wm_23_7 wm_23_8 wm_1_5 wm_23_9) yd_X8_out ⟨rfl, rfl, Nat.le_of_ble_eq_true rfl, Nat.le_of_ble_eq_true rfl, Nat.le_of_ble_eq_true rfl, Nat.le_of_ble_eq_true rfl⟩  hK hP hD hS hA hl.1 rfl (Nat.le_of_ble_eq_true rfl) dL_law_505 (fun H locs hP hD hS => ?_)
  refine lv_icmp_eq (tgt := 725) hx hb dL_law_508 (by decide) (fun _ => ?_) (fun h => absurd rfl h)
  exact kk σ τ H locs (Rel_K hR) hP hD hS
set_option maxHeartbeats 4000000 in
set_option maxRecDepth 100000 in
theorem lw_value {p : Program} {l : Launch} {e : Env} {s : State} {m : MethodId} {below : List Frame} {meth : Method} {c : Code} {H : Heap} {locs : List Loc} {Q : State → Prop} {dC : Nat → ClassId} {dI : Nat → Nat → Nat} {cI cJ cZ : ClassId} {b L t1 t2 i K : Nat} {xs : Nat → Int32} {ad ad2 : Nat → Nat} {σ τ : St} {ls : Array Slot} (E : lX p s m meth c b L xs dC dI cI cJ cZ t1 t2) (hi : i + 5 ≤ L) (hK5 : K < 1000) (hR : Rel K σ τ) (hP : va_P (dC, dI) vwCl (w2 cI cJ cZ ad ad2 σ τ) H) (hD : va_D (fun q : Nat => s.heap.size ≤ q) (w2 cI cJ cZ ad ad2 σ τ)) (hS : va_S (fun q : Nat => s.heap.size ≤ q) s.heap H locs) (hl : lv_has ls 4 [(0, .ref b), (1, .ref (ad 0)), (2, .ref (ad2 0)), (3, .int (nI i))]) (kk : ∀ (σ' τ' : St) (H1 : Heap) (locs1 : List Loc), Rel (K + 1) σ' τ' → va_P (dC, dI) vwCl (w2 cI cJ cZ ad ad2 σ' τ') H1 → va_D (fun q : Nat => s.heap.size ≤ q) (w2 cI cJ cZ ad ad2 σ' τ') → va_S (fun q : Nat => s.heap.size ≤ q) s.heap H1 locs1 → W p l e room_1 s m #[Value.ref b] below meth c H1 locs1 600000 7302250 Q (F0 m 725 ls [])) : W p l e room_1 s m #[Value.ref b] below meth c H locs 600000 7302250 Q (F0 m 513 ls []) := by
  obtain ⟨C0, hK, hXS, hX, hbl, hL⟩ := E
  obtain ⟨hx, hb, hml, hown, hT, hr, hlocks⟩ := id C0
  have hA : ∀ q : Nat, s.heap.size ≤ q → (fun q : Nat => s.heap.size ≤ q) q := fun _ h => h
  have hbA : ¬ (fun q : Nat => s.heap.size ≤ q) b := Nat.not_le.mpr hbl
  have hi1 : vp_in (nI i + 1) L := by rw [show (1 : Int32) = nI 1 from rfl, nI_add]; exact vp_in_nI (by omega) (by omega)
  refine lv_aload_n hx hb dL_law_513 rfl (lv_at hl 1 rfl) ?_
  refine lv_aload_n hx hb dL_law_514 rfl (lv_at hl 0 rfl) ?_
  refine lv_iload_n hx hb dL_law_515 rfl (lv_at hl 3 rfl) ?_
  refine lv_iconst (v := 1) hx hb dL_law_516 (by decide) ?_
  refine lv_iadd hx hb dL_law_517 ?_
  refine va_sld hx hb hX hbl hbA hS hi1 dL_law_518 ?_
  obtain ⟨r, h1, h2⟩ := op_value hR (xs (nI i + 1).toNatClampNeg)
  refine lc7_l (As := [.int (xs (nI i + 1).toNatClampNeg)]) (rest := []) C0 (mX7_value l dC dI cI cJ cZ ad σ (xs (nI i + 1).toNatClampNeg) h1 H.size) (wV_good wm_23_10 wm_23_11 wm_23_12 wm_1_2 wm_23_13) yd_X7_value ⟨rfl, rfl, Nat.le_of_ble_eq_true rfl, Nat.le_of_ble_eq_true rfl, Nat.le_of_ble_eq_true rfl, Nat.le_of_ble_eq_true rfl⟩ xC_b (fun U hW => xC_w hW hXS.1) hK hP hD hS hA hl.1 rfl (Nat.le_of_ble_eq_true rfl) dL_law_519 (fun H locs hP hD hS => ?_)
  refine lv_aload_n hx hb dL_law_522 rfl (lv_at hl 2 rfl) ?_
  refine lv_aload_n hx hb dL_law_523 rfl (lv_at hl 0 rfl) ?_
  refine lv_iload_n hx hb dL_law_524 rfl (lv_at hl 3 rfl) ?_
  refine lv_iconst (v := 1) hx hb dL_law_525 (by decide) ?_
  refine lv_iadd hx hb dL_law_526 ?_
  refine va_sld hx hb hX hbl hbA hS hi1 dL_law_527 ?_
  refine lc8_l (As := [.int (xs (nI i + 1).toNatClampNeg)]) (rest := [.long (r)]) C0 (mX8_value l dC dI cI cJ cZ ad2 τ (xs (nI i + 1).toNatClampNeg) h2 H.size) (wV_good wm_23_18 wm_23_19 wm_23_20 wm_1_5 wm_23_21) yd_X8_value ⟨rfl, rfl, Nat.le_of_ble_eq_true rfl, Nat.le_of_ble_eq_true rfl, Nat.le_of_ble_eq_true rfl, Nat.le_of_ble_eq_true rfl⟩  hK hP hD hS hA hl.1 rfl (Nat.le_of_ble_eq_true rfl) dL_law_528 (fun H locs hP hD hS => ?_)
  refine lc_eq (tgt := 725) hx hb dL_law_531 dL_law_532 (by decide) (fun _ => ?_) (fun h => absurd rfl h)
  exact kk σ τ H locs (Rel_K hR) hP hD hS
set_option maxHeartbeats 4000000 in
set_option maxRecDepth 100000 in
theorem lw_item {p : Program} {l : Launch} {e : Env} {s : State} {m : MethodId} {below : List Frame} {meth : Method} {c : Code} {H : Heap} {locs : List Loc} {Q : State → Prop} {dC : Nat → ClassId} {dI : Nat → Nat → Nat} {cI cJ cZ : ClassId} {b L t1 t2 i K : Nat} {xs : Nat → Int32} {ad ad2 : Nat → Nat} {σ τ : St} {ls : Array Slot} (E : lX p s m meth c b L xs dC dI cI cJ cZ t1 t2) (hi : i + 5 ≤ L) (hK5 : K < 1000) (hR : Rel K σ τ) (hP : va_P (dC, dI) vwCl (w2 cI cJ cZ ad ad2 σ τ) H) (hD : va_D (fun q : Nat => s.heap.size ≤ q) (w2 cI cJ cZ ad ad2 σ τ)) (hS : va_S (fun q : Nat => s.heap.size ≤ q) s.heap H locs) (hl : lv_has ls 4 [(0, .ref b), (1, .ref (ad 0)), (2, .ref (ad2 0)), (3, .int (nI i))]) (kk : ∀ (σ' τ' : St) (H1 : Heap) (locs1 : List Loc), Rel (K + 1) σ' τ' → va_P (dC, dI) vwCl (w2 cI cJ cZ ad ad2 σ' τ') H1 → va_D (fun q : Nat => s.heap.size ≤ q) (w2 cI cJ cZ ad ad2 σ' τ') → va_S (fun q : Nat => s.heap.size ≤ q) s.heap H1 locs1 → W p l e room_1 s m #[Value.ref b] below meth c H1 locs1 600000 7302250 Q (F0 m 725 ls [])) : W p l e room_1 s m #[Value.ref b] below meth c H locs 600000 7302250 Q (F0 m 537 ls []) := by
  obtain ⟨C0, hK, hXS, hX, hbl, hL⟩ := E
  obtain ⟨hx, hb, hml, hown, hT, hr, hlocks⟩ := id C0
  have hA : ∀ q : Nat, s.heap.size ≤ q → (fun q : Nat => s.heap.size ≤ q) q := fun _ h => h
  have hbA : ¬ (fun q : Nat => s.heap.size ≤ q) b := Nat.not_le.mpr hbl
  have hi1 : vp_in (nI i + 1) L := by rw [show (1 : Int32) = nI 1 from rfl, nI_add]; exact vp_in_nI (by omega) (by omega)
  have hi2 : vp_in (nI i + 2) L := by rw [show (2 : Int32) = nI 2 from rfl, nI_add]; exact vp_in_nI (by omega) (by omega)
  refine lv_aload_n hx hb dL_law_537 rfl (lv_at hl 1 rfl) ?_
  refine lv_aload_n hx hb dL_law_538 rfl (lv_at hl 0 rfl) ?_
  refine lv_iload_n hx hb dL_law_539 rfl (lv_at hl 3 rfl) ?_
  refine lv_iconst (v := 1) hx hb dL_law_540 (by decide) ?_
  refine lv_iadd hx hb dL_law_541 ?_
  refine va_sld hx hb hX hbl hbA hS hi1 dL_law_542 ?_
  refine lv_aload_n hx hb dL_law_543 rfl (lv_at hl 0 rfl) ?_
  refine lv_iload_n hx hb dL_law_544 rfl (lv_at hl 3 rfl) ?_
  refine lv_iconst (v := 2) hx hb dL_law_545 (by decide) ?_
  refine lv_iadd hx hb dL_law_546 ?_
  refine va_sld hx hb hX hbl hbA hS hi2 dL_law_547 ?_
  obtain ⟨r, h1, h2⟩ := op_item (F := 2000) (by decide) hR (xs (nI i + 1).toNatClampNeg) (xs (nI i + 2).toNatClampNeg)
  refine lc7_i (As := [.int (xs (nI i + 1).toNatClampNeg), .int (xs (nI i + 2).toNatClampNeg)]) (rest := []) C0 (mX7_item l dC dI cI cJ cZ ad 2000 σ (xs (nI i + 1).toNatClampNeg) (xs (nI i + 2).toNatClampNeg) h1 H.size) (wV_good wm_24_2 wm_24_3 wm_24_4 wm_1_2 wm_24_5) yd_X7_item ⟨rfl, rfl, Nat.le_of_ble_eq_true rfl, Nat.le_of_ble_eq_true rfl, Nat.le_of_ble_eq_true rfl, Nat.le_of_ble_eq_true rfl⟩ xC_b (fun U _ hW => xC_w hW hXS.1) hK hP hD hS hA hl.1 rfl (Nat.le_of_ble_eq_true rfl) dL_law_548 (fun H locs hP hD hS => ?_)
  refine lv_aload_n hx hb dL_law_551 rfl (lv_at hl 2 rfl) ?_
  refine lv_aload_n hx hb dL_law_552 rfl (lv_at hl 0 rfl) ?_
  refine lv_iload_n hx hb dL_law_553 rfl (lv_at hl 3 rfl) ?_
  refine lv_iconst (v := 1) hx hb dL_law_554 (by decide) ?_
  refine lv_iadd hx hb dL_law_555 ?_
  refine va_sld hx hb hX hbl hbA hS hi1 dL_law_556 ?_
  refine lv_aload_n hx hb dL_law_557 rfl (lv_at hl 0 rfl) ?_
  refine lv_iload_n hx hb dL_law_558 rfl (lv_at hl 3 rfl) ?_
  refine lv_iconst (v := 2) hx hb dL_law_559 (by decide) ?_
  refine lv_iadd hx hb dL_law_560 ?_
  refine va_sld hx hb hX hbl hbA hS hi2 dL_law_561 ?_
  refine lc8_i (As := [.int (xs (nI i + 1).toNatClampNeg), .int (xs (nI i + 2).toNatClampNeg)]) (rest := [.int (r)]) C0 (mX8_item l dC dI cI cJ cZ ad2 2000 τ (xs (nI i + 1).toNatClampNeg) (xs (nI i + 2).toNatClampNeg) h2 H.size) (wV_good wm_24_7 wm_24_8 wm_24_9 wm_1_5 wm_24_10) yd_X8_item ⟨rfl, rfl, Nat.le_of_ble_eq_true rfl, Nat.le_of_ble_eq_true rfl, Nat.le_of_ble_eq_true rfl, Nat.le_of_ble_eq_true rfl⟩  hK hP hD hS hA hl.1 rfl (Nat.le_of_ble_eq_true rfl) dL_law_562 (fun H locs hP hD hS => ?_)
  refine lv_icmp_eq (tgt := 725) hx hb dL_law_565 (by decide) (fun _ => ?_) (fun h => absurd rfl h)
  exact kk σ τ H locs (Rel_K hR) hP hD hS
set_option maxHeartbeats 4000000 in
set_option maxRecDepth 100000 in
theorem lw_count {p : Program} {l : Launch} {e : Env} {s : State} {m : MethodId} {below : List Frame} {meth : Method} {c : Code} {H : Heap} {locs : List Loc} {Q : State → Prop} {dC : Nat → ClassId} {dI : Nat → Nat → Nat} {cI cJ cZ : ClassId} {b L t1 t2 i K : Nat} {xs : Nat → Int32} {ad ad2 : Nat → Nat} {σ τ : St} {ls : Array Slot} (E : lX p s m meth c b L xs dC dI cI cJ cZ t1 t2) (hi : i + 5 ≤ L) (hK5 : K < 1000) (hR : Rel K σ τ) (hP : va_P (dC, dI) vwCl (w2 cI cJ cZ ad ad2 σ τ) H) (hD : va_D (fun q : Nat => s.heap.size ≤ q) (w2 cI cJ cZ ad ad2 σ τ)) (hS : va_S (fun q : Nat => s.heap.size ≤ q) s.heap H locs) (hl : lv_has ls 4 [(0, .ref b), (1, .ref (ad 0)), (2, .ref (ad2 0)), (3, .int (nI i))]) (kk : ∀ (σ' τ' : St) (H1 : Heap) (locs1 : List Loc), Rel (K + 1) σ' τ' → va_P (dC, dI) vwCl (w2 cI cJ cZ ad ad2 σ' τ') H1 → va_D (fun q : Nat => s.heap.size ≤ q) (w2 cI cJ cZ ad ad2 σ' τ') → va_S (fun q : Nat => s.heap.size ≤ q) s.heap H1 locs1 → W p l e room_1 s m #[Value.ref b] below meth c H1 locs1 600000 7302250 Q (F0 m 725 ls [])) : W p l e room_1 s m #[Value.ref b] below meth c H locs 600000 7302250 Q (F0 m 570 ls []) := by
  obtain ⟨C0, hK, hXS, hX, hbl, hL⟩ := E
  obtain ⟨hx, hb, hml, hown, hT, hr, hlocks⟩ := id C0
  have hA : ∀ q : Nat, s.heap.size ≤ q → (fun q : Nat => s.heap.size ≤ q) q := fun _ h => h
  have hbA : ¬ (fun q : Nat => s.heap.size ≤ q) b := Nat.not_le.mpr hbl
  have hi1 : vp_in (nI i + 1) L := by rw [show (1 : Int32) = nI 1 from rfl, nI_add]; exact vp_in_nI (by omega) (by omega)
  have hi2 : vp_in (nI i + 2) L := by rw [show (2 : Int32) = nI 2 from rfl, nI_add]; exact vp_in_nI (by omega) (by omega)
  refine lv_aload_n hx hb dL_law_570 rfl (lv_at hl 1 rfl) ?_
  refine lv_aload_n hx hb dL_law_571 rfl (lv_at hl 0 rfl) ?_
  refine lv_iload_n hx hb dL_law_572 rfl (lv_at hl 3 rfl) ?_
  refine lv_iconst (v := 1) hx hb dL_law_573 (by decide) ?_
  refine lv_iadd hx hb dL_law_574 ?_
  refine va_sld hx hb hX hbl hbA hS hi1 dL_law_575 ?_
  refine lv_i2l (v := (xs (nI i + 1).toNatClampNeg).toInt64) hx hb dL_law_576 rfl ?_
  refine lv_bipush (v := 32) hx hb dL_law_577 (by decide) ?_
  refine lv_lshl (v := (xs (nI i + 1).toNatClampNeg).toInt64 <<< ((32 : Int32).toInt64 &&& 63)) hx hb dL_law_579 rfl ?_
  refine lv_aload_n hx hb dL_law_580 rfl (lv_at hl 0 rfl) ?_
  refine lv_iload_n hx hb dL_law_581 rfl (lv_at hl 3 rfl) ?_
  refine lv_iconst (v := 2) hx hb dL_law_582 (by decide) ?_
  refine lv_iadd hx hb dL_law_583 ?_
  refine va_sld hx hb hX hbl hbA hS hi2 dL_law_584 ?_
  refine lv_i2l (v := (xs (nI i + 2).toNatClampNeg).toInt64) hx hb dL_law_585 rfl ?_
  refine lv_ldc2 (v := 4294967295) hx hb hown (hT _ wm_1_6) dL_law_586 ?_
  refine lv_land hx hb dL_law_589 ?_
  refine lv_lor hx hb dL_law_590 ?_
  obtain ⟨r, h1, h2⟩ := op_count (F := 2000) (by decide) hR (((xs (nI i + 1).toNatClampNeg).toInt64 <<< ((32 : Int32).toInt64 &&& 63)) ||| (((xs (nI i + 2).toNatClampNeg).toInt64) &&& 4294967295))
  refine lc7_i (As := [.long (((xs (nI i + 1).toNatClampNeg).toInt64 <<< ((32 : Int32).toInt64 &&& 63)) ||| (((xs (nI i + 2).toNatClampNeg).toInt64) &&& 4294967295))]) (rest := []) C0 (mX7_count l dC dI cI cJ cZ ad 2000 σ (((xs (nI i + 1).toNatClampNeg).toInt64 <<< ((32 : Int32).toInt64 &&& 63)) ||| (((xs (nI i + 2).toNatClampNeg).toInt64) &&& 4294967295)) h1 H.size) (wV_good wm_24_11 wm_24_12 wm_24_13 wm_1_2 wm_24_14) yd_X7_count ⟨rfl, rfl, Nat.le_of_ble_eq_true rfl, Nat.le_of_ble_eq_true rfl, Nat.le_of_ble_eq_true rfl, Nat.le_of_ble_eq_true rfl⟩ xC_b (fun U _ hW => xC_w hW hXS.1) hK hP hD hS hA hl.1 rfl (Nat.le_of_ble_eq_true rfl) dL_law_591 (fun H locs hP hD hS => ?_)
  refine lv_aload_n hx hb dL_law_594 rfl (lv_at hl 2 rfl) ?_
  refine lv_aload_n hx hb dL_law_595 rfl (lv_at hl 0 rfl) ?_
  refine lv_iload_n hx hb dL_law_596 rfl (lv_at hl 3 rfl) ?_
  refine lv_iconst (v := 1) hx hb dL_law_597 (by decide) ?_
  refine lv_iadd hx hb dL_law_598 ?_
  refine va_sld hx hb hX hbl hbA hS hi1 dL_law_599 ?_
  refine lv_i2l (v := (xs (nI i + 1).toNatClampNeg).toInt64) hx hb dL_law_600 rfl ?_
  refine lv_bipush (v := 32) hx hb dL_law_601 (by decide) ?_
  refine lv_lshl (v := (xs (nI i + 1).toNatClampNeg).toInt64 <<< ((32 : Int32).toInt64 &&& 63)) hx hb dL_law_603 rfl ?_
  refine lv_aload_n hx hb dL_law_604 rfl (lv_at hl 0 rfl) ?_
  refine lv_iload_n hx hb dL_law_605 rfl (lv_at hl 3 rfl) ?_
  refine lv_iconst (v := 2) hx hb dL_law_606 (by decide) ?_
  refine lv_iadd hx hb dL_law_607 ?_
  refine va_sld hx hb hX hbl hbA hS hi2 dL_law_608 ?_
  refine lv_i2l (v := (xs (nI i + 2).toNatClampNeg).toInt64) hx hb dL_law_609 rfl ?_
  refine lv_ldc2 (v := 4294967295) hx hb hown (hT _ wm_1_6) dL_law_610 ?_
  refine lv_land hx hb dL_law_613 ?_
  refine lv_lor hx hb dL_law_614 ?_
  refine lc8_i (As := [.long (((xs (nI i + 1).toNatClampNeg).toInt64 <<< ((32 : Int32).toInt64 &&& 63)) ||| (((xs (nI i + 2).toNatClampNeg).toInt64) &&& 4294967295))]) (rest := [.int (r)]) C0 (mX8_count l dC dI cI cJ cZ ad2 2000 τ (((xs (nI i + 1).toNatClampNeg).toInt64 <<< ((32 : Int32).toInt64 &&& 63)) ||| (((xs (nI i + 2).toNatClampNeg).toInt64) &&& 4294967295)) h2 H.size) (wV_good wm_24_16 wm_24_17 wm_24_18 wm_1_5 wm_24_19) yd_X8_count ⟨rfl, rfl, Nat.le_of_ble_eq_true rfl, Nat.le_of_ble_eq_true rfl, Nat.le_of_ble_eq_true rfl, Nat.le_of_ble_eq_true rfl⟩  hK hP hD hS hA hl.1 rfl (Nat.le_of_ble_eq_true rfl) dL_law_615 (fun H locs hP hD hS => ?_)
  refine lv_icmp_eq (tgt := 725) hx hb dL_law_618 (by decide) (fun _ => ?_) (fun h => absurd rfl h)
  exact kk σ τ H locs (Rel_K hR) hP hD hS
set_option maxHeartbeats 4000000 in
set_option maxRecDepth 100000 in
theorem lw_kept {p : Program} {l : Launch} {e : Env} {s : State} {m : MethodId} {below : List Frame} {meth : Method} {c : Code} {H : Heap} {locs : List Loc} {Q : State → Prop} {dC : Nat → ClassId} {dI : Nat → Nat → Nat} {cI cJ cZ : ClassId} {b L t1 t2 i K : Nat} {xs : Nat → Int32} {ad ad2 : Nat → Nat} {σ τ : St} {ls : Array Slot} (E : lX p s m meth c b L xs dC dI cI cJ cZ t1 t2) (hi : i + 5 ≤ L) (hK5 : K < 1000) (hR : Rel K σ τ) (hP : va_P (dC, dI) vwCl (w2 cI cJ cZ ad ad2 σ τ) H) (hD : va_D (fun q : Nat => s.heap.size ≤ q) (w2 cI cJ cZ ad ad2 σ τ)) (hS : va_S (fun q : Nat => s.heap.size ≤ q) s.heap H locs) (hl : lv_has ls 4 [(0, .ref b), (1, .ref (ad 0)), (2, .ref (ad2 0)), (3, .int (nI i))]) (kk : ∀ (σ' τ' : St) (H1 : Heap) (locs1 : List Loc), Rel (K + 1) σ' τ' → va_P (dC, dI) vwCl (w2 cI cJ cZ ad ad2 σ' τ') H1 → va_D (fun q : Nat => s.heap.size ≤ q) (w2 cI cJ cZ ad ad2 σ' τ') → va_S (fun q : Nat => s.heap.size ≤ q) s.heap H1 locs1 → W p l e room_1 s m #[Value.ref b] below meth c H1 locs1 600000 7302250 Q (F0 m 725 ls [])) : W p l e room_1 s m #[Value.ref b] below meth c H locs 600000 7302250 Q (F0 m 623 ls []) := by
  obtain ⟨C0, hK, hXS, hX, hbl, hL⟩ := E
  obtain ⟨hx, hb, hml, hown, hT, hr, hlocks⟩ := id C0
  have hA : ∀ q : Nat, s.heap.size ≤ q → (fun q : Nat => s.heap.size ≤ q) q := fun _ h => h
  have hbA : ¬ (fun q : Nat => s.heap.size ≤ q) b := Nat.not_le.mpr hbl
  have hi1 : vp_in (nI i + 1) L := by rw [show (1 : Int32) = nI 1 from rfl, nI_add]; exact vp_in_nI (by omega) (by omega)
  have hi2 : vp_in (nI i + 2) L := by rw [show (2 : Int32) = nI 2 from rfl, nI_add]; exact vp_in_nI (by omega) (by omega)
  refine lv_aload_n hx hb dL_law_623 rfl (lv_at hl 1 rfl) ?_
  refine lv_aload_n hx hb dL_law_624 rfl (lv_at hl 0 rfl) ?_
  refine lv_iload_n hx hb dL_law_625 rfl (lv_at hl 3 rfl) ?_
  refine lv_iconst (v := 1) hx hb dL_law_626 (by decide) ?_
  refine lv_iadd hx hb dL_law_627 ?_
  refine va_sld hx hb hX hbl hbA hS hi1 dL_law_628 ?_
  refine lv_i2l (v := (xs (nI i + 1).toNatClampNeg).toInt64) hx hb dL_law_629 rfl ?_
  refine lv_bipush (v := 32) hx hb dL_law_630 (by decide) ?_
  refine lv_lshl (v := (xs (nI i + 1).toNatClampNeg).toInt64 <<< ((32 : Int32).toInt64 &&& 63)) hx hb dL_law_632 rfl ?_
  refine lv_aload_n hx hb dL_law_633 rfl (lv_at hl 0 rfl) ?_
  refine lv_iload_n hx hb dL_law_634 rfl (lv_at hl 3 rfl) ?_
  refine lv_iconst (v := 2) hx hb dL_law_635 (by decide) ?_
  refine lv_iadd hx hb dL_law_636 ?_
  refine va_sld hx hb hX hbl hbA hS hi2 dL_law_637 ?_
  refine lv_i2l (v := (xs (nI i + 2).toNatClampNeg).toInt64) hx hb dL_law_638 rfl ?_
  refine lv_ldc2 (v := 4294967295) hx hb hown (hT _ wm_1_6) dL_law_639 ?_
  refine lv_land hx hb dL_law_642 ?_
  refine lv_lor hx hb dL_law_643 ?_
  obtain ⟨r, h1, h2⟩ := op_kept (F := 2000) (by decide) hR (((xs (nI i + 1).toNatClampNeg).toInt64 <<< ((32 : Int32).toInt64 &&& 63)) ||| (((xs (nI i + 2).toNatClampNeg).toInt64) &&& 4294967295))
  refine lc7_i (As := [.long (((xs (nI i + 1).toNatClampNeg).toInt64 <<< ((32 : Int32).toInt64 &&& 63)) ||| (((xs (nI i + 2).toNatClampNeg).toInt64) &&& 4294967295))]) (rest := []) C0 (mX7_kept l dC dI cI cJ cZ ad 2000 σ (((xs (nI i + 1).toNatClampNeg).toInt64 <<< ((32 : Int32).toInt64 &&& 63)) ||| (((xs (nI i + 2).toNatClampNeg).toInt64) &&& 4294967295)) h1 H.size) (wV_good wm_24_20 wm_24_21 wm_24_22 wm_1_2 wm_24_23) yd_X7_kept ⟨rfl, rfl, Nat.le_of_ble_eq_true rfl, Nat.le_of_ble_eq_true rfl, Nat.le_of_ble_eq_true rfl, Nat.le_of_ble_eq_true rfl⟩ xC_b (fun U _ hW => xC_w hW hXS.1) hK hP hD hS hA hl.1 rfl (Nat.le_of_ble_eq_true rfl) dL_law_644 (fun H locs hP hD hS => ?_)
  refine lv_aload_n hx hb dL_law_647 rfl (lv_at hl 2 rfl) ?_
  refine lv_aload_n hx hb dL_law_648 rfl (lv_at hl 0 rfl) ?_
  refine lv_iload_n hx hb dL_law_649 rfl (lv_at hl 3 rfl) ?_
  refine lv_iconst (v := 1) hx hb dL_law_650 (by decide) ?_
  refine lv_iadd hx hb dL_law_651 ?_
  refine va_sld hx hb hX hbl hbA hS hi1 dL_law_652 ?_
  refine lv_i2l (v := (xs (nI i + 1).toNatClampNeg).toInt64) hx hb dL_law_653 rfl ?_
  refine lv_bipush (v := 32) hx hb dL_law_654 (by decide) ?_
  refine lv_lshl (v := (xs (nI i + 1).toNatClampNeg).toInt64 <<< ((32 : Int32).toInt64 &&& 63)) hx hb dL_law_656 rfl ?_
  refine lv_aload_n hx hb dL_law_657 rfl (lv_at hl 0 rfl) ?_
  refine lv_iload_n hx hb dL_law_658 rfl (lv_at hl 3 rfl) ?_
  refine lv_iconst (v := 2) hx hb dL_law_659 (by decide) ?_
  refine lv_iadd hx hb dL_law_660 ?_
  refine va_sld hx hb hX hbl hbA hS hi2 dL_law_661 ?_
  refine lv_i2l (v := (xs (nI i + 2).toNatClampNeg).toInt64) hx hb dL_law_662 rfl ?_
  refine lv_ldc2 (v := 4294967295) hx hb hown (hT _ wm_1_6) dL_law_663 ?_
  refine lv_land hx hb dL_law_666 ?_
  refine lv_lor hx hb dL_law_667 ?_
  refine lc8_i (As := [.long (((xs (nI i + 1).toNatClampNeg).toInt64 <<< ((32 : Int32).toInt64 &&& 63)) ||| (((xs (nI i + 2).toNatClampNeg).toInt64) &&& 4294967295))]) (rest := [.int (r)]) C0 (mX8_kept l dC dI cI cJ cZ ad2 2000 τ (((xs (nI i + 1).toNatClampNeg).toInt64 <<< ((32 : Int32).toInt64 &&& 63)) ||| (((xs (nI i + 2).toNatClampNeg).toInt64) &&& 4294967295)) h2 H.size) (wV_good wm_25_0 wm_25_1 wm_25_2 wm_1_5 wm_25_3) yd_X8_kept ⟨rfl, rfl, Nat.le_of_ble_eq_true rfl, Nat.le_of_ble_eq_true rfl, Nat.le_of_ble_eq_true rfl, Nat.le_of_ble_eq_true rfl⟩  hK hP hD hS hA hl.1 rfl (Nat.le_of_ble_eq_true rfl) dL_law_668 (fun H locs hP hD hS => ?_)
  refine lv_icmp_eq (tgt := 725) hx hb dL_law_671 (by decide) (fun _ => ?_) (fun h => absurd rfl h)
  exact kk σ τ H locs (Rel_K hR) hP hD hS
set_option maxHeartbeats 4000000 in
set_option maxRecDepth 100000 in
theorem lw_save {p : Program} {l : Launch} {e : Env} {s : State} {m : MethodId} {below : List Frame} {meth : Method} {c : Code} {H : Heap} {locs : List Loc} {Q : State → Prop} {dC : Nat → ClassId} {dI : Nat → Nat → Nat} {cI cJ cZ : ClassId} {b L t1 t2 i K : Nat} {xs : Nat → Int32} {ad ad2 : Nat → Nat} {σ τ : St} {ls : Array Slot} (E : lX p s m meth c b L xs dC dI cI cJ cZ t1 t2) (hi : i + 5 ≤ L) (hK5 : K < 1000) (hR : Rel K σ τ) (hP : va_P (dC, dI) vwCl (w2 cI cJ cZ ad ad2 σ τ) H) (hD : va_D (fun q : Nat => s.heap.size ≤ q) (w2 cI cJ cZ ad ad2 σ τ)) (hS : va_S (fun q : Nat => s.heap.size ≤ q) s.heap H locs) (hl : lv_has ls 4 [(0, .ref b), (1, .ref (ad 0)), (2, .ref (ad2 0)), (3, .int (nI i))]) (kk : ∀ (σ' τ' : St) (H1 : Heap) (locs1 : List Loc), Rel (K + 1) σ' τ' → va_P (dC, dI) vwCl (w2 cI cJ cZ ad ad2 σ' τ') H1 → va_D (fun q : Nat => s.heap.size ≤ q) (w2 cI cJ cZ ad ad2 σ' τ') → va_S (fun q : Nat => s.heap.size ≤ q) s.heap H1 locs1 → W p l e room_1 s m #[Value.ref b] below meth c H1 locs1 600000 7302250 Q (F0 m 725 ls [])) : W p l e room_1 s m #[Value.ref b] below meth c H locs 600000 7302250 Q (F0 m 676 ls []) := by
  obtain ⟨C0, hK, hXS, hX, hbl, hL⟩ := E
  obtain ⟨hx, hb, hml, hown, hT, hr, hlocks⟩ := id C0
  have hA : ∀ q : Nat, s.heap.size ≤ q → (fun q : Nat => s.heap.size ≤ q) q := fun _ h => h
  have hbA : ¬ (fun q : Nat => s.heap.size ≤ q) b := Nat.not_le.mpr hbl
  refine lv_aload_n hx hb dL_law_676 rfl (lv_at hl 1 rfl) ?_
  obtain ⟨r, σ', τ', h1, h2, hR'⟩ := op_save (F := 2000) (by decide) hR 
  refine lc7_i (As := []) (rest := []) C0 (mX7_save l dC dI cI cJ cZ ad 2000 σ  h1 H.size) (wV_good wm_25_4 wm_25_5 wm_25_6 wm_1_2 wm_25_7) yd_X7_save ⟨rfl, rfl, Nat.le_of_ble_eq_true rfl, Nat.le_of_ble_eq_true rfl, Nat.le_of_ble_eq_true rfl, Nat.le_of_ble_eq_true rfl⟩ xC_b (fun U _ hW => xC_w hW hXS.1) hK hP hD hS hA hl.1 rfl (Nat.le_of_ble_eq_true rfl) dL_law_677 (fun H locs hP hD hS => ?_)
  refine lv_aload_n hx hb dL_law_680 rfl (lv_at hl 2 rfl) ?_
  refine lc8_i (As := []) (rest := [.int (r)]) C0 (mX8_save l dC dI cI cJ cZ ad2 2000 τ  h2 H.size) (wV_good wm_25_17 wm_25_18 wm_25_19 wm_1_5 wm_25_20) yd_X8_save ⟨rfl, rfl, Nat.le_of_ble_eq_true rfl, Nat.le_of_ble_eq_true rfl, Nat.le_of_ble_eq_true rfl, Nat.le_of_ble_eq_true rfl⟩  hK hP hD hS hA hl.1 rfl (Nat.le_of_ble_eq_true rfl) dL_law_681 (fun H locs hP hD hS => ?_)
  refine lv_icmp_eq (tgt := 725) hx hb dL_law_684 (by decide) (fun _ => ?_) (fun h => absurd rfl h)
  exact kk σ' τ' H locs hR' hP hD hS
set_option maxHeartbeats 4000000 in
set_option maxRecDepth 100000 in
theorem lw_restart {p : Program} {l : Launch} {e : Env} {s : State} {m : MethodId} {below : List Frame} {meth : Method} {c : Code} {H : Heap} {locs : List Loc} {Q : State → Prop} {dC : Nat → ClassId} {dI : Nat → Nat → Nat} {cI cJ cZ : ClassId} {b L t1 t2 i K : Nat} {xs : Nat → Int32} {ad ad2 : Nat → Nat} {σ τ : St} {ls : Array Slot} (E : lX p s m meth c b L xs dC dI cI cJ cZ t1 t2) (hi : i + 5 ≤ L) (hK5 : K < 1000) (hR : Rel K σ τ) (hP : va_P (dC, dI) vwCl (w2 cI cJ cZ ad ad2 σ τ) H) (hD : va_D (fun q : Nat => s.heap.size ≤ q) (w2 cI cJ cZ ad ad2 σ τ)) (hS : va_S (fun q : Nat => s.heap.size ≤ q) s.heap H locs) (hl : lv_has ls 4 [(0, .ref b), (1, .ref (ad 0)), (2, .ref (ad2 0)), (3, .int (nI i))]) (kk : ∀ (σ' τ' : St) (H1 : Heap) (locs1 : List Loc), Rel (K + 1) σ' τ' → va_P (dC, dI) vwCl (w2 cI cJ cZ ad ad2 σ' τ') H1 → va_D (fun q : Nat => s.heap.size ≤ q) (w2 cI cJ cZ ad ad2 σ' τ') → va_S (fun q : Nat => s.heap.size ≤ q) s.heap H1 locs1 → W p l e room_1 s m #[Value.ref b] below meth c H1 locs1 600000 7302250 Q (F0 m 725 ls [])) : W p l e room_1 s m #[Value.ref b] below meth c H locs 600000 7302250 Q (F0 m 689 ls []) := by
  obtain ⟨C0, hK, hXS, hX, hbl, hL⟩ := E
  obtain ⟨hx, hb, hml, hown, hT, hr, hlocks⟩ := id C0
  have hA : ∀ q : Nat, s.heap.size ≤ q → (fun q : Nat => s.heap.size ≤ q) q := fun _ h => h
  have hbA : ¬ (fun q : Nat => s.heap.size ≤ q) b := Nat.not_le.mpr hbl
  refine lv_aload_n hx hb dL_law_689 rfl (lv_at hl 1 rfl) ?_
  obtain ⟨r, σ', τ', h1, h2, hR'⟩ := op_restart (F := 2000) (by decide) hR 
  refine lc7_i (As := []) (rest := []) C0 (mX7_restart l dC dI cI cJ cZ ad 2000 σ  h1 H.size) (wV_good wm_25_23 wm_26_0 wm_26_1 wm_1_2 wm_26_2) yd_X7_restart ⟨rfl, rfl, Nat.le_of_ble_eq_true rfl, Nat.le_of_ble_eq_true rfl, Nat.le_of_ble_eq_true rfl, Nat.le_of_ble_eq_true rfl⟩ xC_b (fun U _ hW => xC_w hW hXS.1) hK hP hD hS hA hl.1 rfl (Nat.le_of_ble_eq_true rfl) dL_law_690 (fun H locs hP hD hS => ?_)
  refine lv_aload_n hx hb dL_law_693 rfl (lv_at hl 2 rfl) ?_
  refine lc8_i (As := []) (rest := [.int (r)]) C0 (mX8_restart l dC dI cI cJ cZ ad2 2000 τ  h2 H.size) (wV_good wm_26_19 wm_26_20 wm_26_21 wm_1_5 wm_26_22) yd_X8_restart ⟨rfl, rfl, Nat.le_of_ble_eq_true rfl, Nat.le_of_ble_eq_true rfl, Nat.le_of_ble_eq_true rfl, Nat.le_of_ble_eq_true rfl⟩  hK hP hD hS hA hl.1 rfl (Nat.le_of_ble_eq_true rfl) dL_law_694 (fun H locs hP hD hS => ?_)
  refine lv_icmp_eq (tgt := 725) hx hb dL_law_697 (by decide) (fun _ => ?_) (fun h => absurd rfl h)
  exact kk σ' τ' H locs hR' hP hD hS
set_option maxHeartbeats 4000000 in
set_option maxRecDepth 100000 in
theorem lw_told {p : Program} {l : Launch} {e : Env} {s : State} {m : MethodId} {below : List Frame} {meth : Method} {c : Code} {H : Heap} {locs : List Loc} {Q : State → Prop} {dC : Nat → ClassId} {dI : Nat → Nat → Nat} {cI cJ cZ : ClassId} {b L t1 t2 i K : Nat} {xs : Nat → Int32} {ad ad2 : Nat → Nat} {σ τ : St} {ls : Array Slot} (E : lX p s m meth c b L xs dC dI cI cJ cZ t1 t2) (hi : i + 5 ≤ L) (hK5 : K < 1000) (hR : Rel K σ τ) (hP : va_P (dC, dI) vwCl (w2 cI cJ cZ ad ad2 σ τ) H) (hD : va_D (fun q : Nat => s.heap.size ≤ q) (w2 cI cJ cZ ad ad2 σ τ)) (hS : va_S (fun q : Nat => s.heap.size ≤ q) s.heap H locs) (hl : lv_has ls 4 [(0, .ref b), (1, .ref (ad 0)), (2, .ref (ad2 0)), (3, .int (nI i))]) (kk : ∀ (σ' τ' : St) (H1 : Heap) (locs1 : List Loc), Rel (K + 1) σ' τ' → va_P (dC, dI) vwCl (w2 cI cJ cZ ad ad2 σ' τ') H1 → va_D (fun q : Nat => s.heap.size ≤ q) (w2 cI cJ cZ ad ad2 σ' τ') → va_S (fun q : Nat => s.heap.size ≤ q) s.heap H1 locs1 → W p l e room_1 s m #[Value.ref b] below meth c H1 locs1 600000 7302250 Q (F0 m 725 ls [])) : W p l e room_1 s m #[Value.ref b] below meth c H locs 600000 7302250 Q (F0 m 702 ls []) := by
  obtain ⟨C0, hK, hXS, hX, hbl, hL⟩ := E
  obtain ⟨hx, hb, hml, hown, hT, hr, hlocks⟩ := id C0
  have hA : ∀ q : Nat, s.heap.size ≤ q → (fun q : Nat => s.heap.size ≤ q) q := fun _ h => h
  have hbA : ¬ (fun q : Nat => s.heap.size ≤ q) b := Nat.not_le.mpr hbl
  have hi1 : vp_in (nI i + 1) L := by rw [show (1 : Int32) = nI 1 from rfl, nI_add]; exact vp_in_nI (by omega) (by omega)
  refine lv_aload_n hx hb dL_law_702 rfl (lv_at hl 1 rfl) ?_
  refine lv_aload_n hx hb dL_law_703 rfl (lv_at hl 0 rfl) ?_
  refine lv_iload_n hx hb dL_law_704 rfl (lv_at hl 3 rfl) ?_
  refine lv_iconst (v := 1) hx hb dL_law_705 (by decide) ?_
  refine lv_iadd hx hb dL_law_706 ?_
  refine va_sld hx hb hX hbl hbA hS hi1 dL_law_707 ?_
  obtain ⟨r, h1, h2⟩ := op_told (F := 2000) (by decide) hR (xs (nI i + 1).toNatClampNeg)
  refine lc7_i (As := [.int (xs (nI i + 1).toNatClampNeg)]) (rest := []) C0 (mX7_told l dC dI cI cJ cZ ad σ (xs (nI i + 1).toNatClampNeg) h1 H.size) (wV_good wm_27_0 wm_27_1 wm_27_2 wm_1_2 wm_27_3) yd_X7_told ⟨rfl, rfl, Nat.le_of_ble_eq_true rfl, Nat.le_of_ble_eq_true rfl, Nat.le_of_ble_eq_true rfl, Nat.le_of_ble_eq_true rfl⟩ xC_b (fun U _ hW => xC_w hW hXS.1) hK hP hD hS hA hl.1 rfl (Nat.le_of_ble_eq_true rfl) dL_law_708 (fun H locs hP hD hS => ?_)
  refine lv_aload_n hx hb dL_law_711 rfl (lv_at hl 2 rfl) ?_
  refine lv_aload_n hx hb dL_law_712 rfl (lv_at hl 0 rfl) ?_
  refine lv_iload_n hx hb dL_law_713 rfl (lv_at hl 3 rfl) ?_
  refine lv_iconst (v := 1) hx hb dL_law_714 (by decide) ?_
  refine lv_iadd hx hb dL_law_715 ?_
  refine va_sld hx hb hX hbl hbA hS hi1 dL_law_716 ?_
  refine lc8_i (As := [.int (xs (nI i + 1).toNatClampNeg)]) (rest := [.int (r)]) C0 (mX8_told l dC dI cI cJ cZ ad2 2000 τ (xs (nI i + 1).toNatClampNeg) h2 H.size) (wV_good wm_27_4 wm_27_5 wm_27_6 wm_1_5 wm_27_7) yd_X8_told ⟨rfl, rfl, Nat.le_of_ble_eq_true rfl, Nat.le_of_ble_eq_true rfl, Nat.le_of_ble_eq_true rfl, Nat.le_of_ble_eq_true rfl⟩  hK hP hD hS hA hl.1 rfl (Nat.le_of_ble_eq_true rfl) dL_law_717 (fun H locs hP hD hS => ?_)
  refine lv_icmp_eq (tgt := 725) hx hb dL_law_720 (by decide) (fun _ => ?_) (fun h => absurd rfl h)
  exact kk σ τ H locs (Rel_K hR) hP hD hS
