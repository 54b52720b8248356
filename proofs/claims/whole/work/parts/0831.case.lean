set_option maxHeartbeats 1000000 in
set_option maxRecDepth 20000 in
theorem lc_0 {p : Program} {l : Launch} {e : Env} {s : State} {m : MethodId} {below : List Frame} {meth : Method} {c : Code} {H : Heap} {locs : List Loc} {cells slots : Nat} {Q : State → Prop} {ls : Array Slot} {b L : Nat} {xs : Nat → Int32} {dC : Nat → ClassId} {dI : Nat → Nat → Nat} {cI cZ cR cW : ClassId} {X : Nat → Nat} {o om : Nat} {am : Nat → Nat} {u : ob_AX} {S : ob_SX} {mm : ob_B} {i : Nat} (C : lw_K p s m c b L xs (dC, dI) cI cZ cR cW X) (hiv : ob_iv S mm) (hP : va_P (dC, dI) vwCl (ob_wx o cI cR cW u S ++ ob_w5 om am cI cZ mm) H) (hD : va_D (fun q : Nat => s.heap.size ≤ q) (ob_wx o cI cR cW u S ++ ob_w5 om am cI cZ mm)) (hS : va_S (fun q : Nat => s.heap.size ≤ q) s.heap H locs) (hl : lv_has ls 4 [(0, .ref b), (1, .ref o), (2, .ref om), (3, .int (nI i))]) (hi : i + 6 ≤ L) (hL : L ≤ 384) (hcs : cells + 300 ≤ 600000 ∧ slots + 2350 ≤ 7302250)
    (kk : ∀ (u' : ob_AX) (S' : ob_SX) (m' : ob_B) (H1 : Heap) (locs1 : List Loc), ob_iv S' m' → va_P (dC, dI) vwCl (ob_wx o cI cR cW u' S' ++ ob_w5 om am cI cZ m') H1 → va_D (fun q : Nat => s.heap.size ≤ q) (ob_wx o cI cR cW u' S' ++ ob_w5 om am cI cZ m') → va_S (fun q : Nat => s.heap.size ≤ q) s.heap H1 locs1 → W p l e room_1 s m #[Value.ref b] below meth c H1 locs1 (cells + 300) (slots + 2350) Q (F0 m 1335 ls [])) : W p l e room_1 s m #[Value.ref b] below meth c H locs cells slots Q (F0 m 200 ls []) := by
  obtain ⟨hx, hb, -, -, hts, -⟩ := id C
  obtain ⟨r, S', m', hX, hM, hv⟩ := op_row (l := l) (dC := dC) (dI := dI) (cI := cI) (cZ := cZ) (cR := cR) (cW := cW) (X := X) (o := o) (om := om) (am := am) (xs (i + 1)) (xs (i + 2)) (xs (i + 3)) u S mm hiv
  refine lv_aload_n hx hb dL_law_200 rfl (lv_at hl 1 rfl) ?_
  refine lw_arg (k := 1) C hS hl hi hL (by decide) rfl dL_law_201 dL_law_202 dL_law_203 dL_law_204 dL_law_205 ?_
  refine lw_arg (k := 2) C hS hl hi hL (by decide) rfl dL_law_206 dL_law_207 dL_law_208 dL_law_209 dL_law_210 ?_
  refine lw_arg (k := 3) C hS hl hi hL (by decide) rfl dL_law_211 dL_law_212 dL_law_213 dL_law_214 dL_law_215 ?_
  refine lw_x C hX (fun rm h1 h2 => cwV 3 hts gL_law_X4_row rfl rfl rfl (by decide +kernel) ⟨show rm.frames + 1 ≤ 2048 by omega, show 8 + (4 + 11) + rm.locals ≤ 84000 by omega⟩) hP hD hS hl rfl ⟨by omega, by omega⟩ rfl dL_law_216 (fun u' H locs hP hD hS => ?_)
  refine lv_aload_n hx hb dL_law_219 rfl (lv_at hl 2 rfl) ?_
  refine lw_arg (k := 1) C hS hl hi hL (by decide) rfl dL_law_220 dL_law_221 dL_law_222 dL_law_223 dL_law_224 ?_
  refine lw_arg (k := 2) C hS hl hi hL (by decide) rfl dL_law_225 dL_law_226 dL_law_227 dL_law_228 dL_law_229 ?_
  refine lw_arg (k := 3) C hS hl hi hL (by decide) rfl dL_law_230 dL_law_231 dL_law_232 dL_law_233 dL_law_234 ?_
  refine lw_m (rest := [.int r]) C hM (fun rm h1 h2 => cwV 3 hts gL_law_X5_row rfl rfl rfl (by decide +kernel) ⟨show rm.frames + 1 ≤ 2048 by omega, show 8 + (5 + 11) + rm.locals ≤ 84000 by omega⟩) hP hD hS hl rfl ⟨by omega, by omega⟩ (Nat.le_of_ble_eq_true rfl) rfl dL_law_235 (fun H locs hP hD hS => ?_)
  refine lv_icmp_eq (tgt := 1335) hx hb dL_law_238 (by decide) (fun _ => ?_) (fun hc => absurd rfl hc)
  exact W.widen (k := cells + 300) (n := slots + 2350) (by omega) (by omega) (kk u' S' m' H locs hv hP hD hS)
set_option maxHeartbeats 1000000 in
set_option maxRecDepth 20000 in
theorem lc_1 {p : Program} {l : Launch} {e : Env} {s : State} {m : MethodId} {below : List Frame} {meth : Method} {c : Code} {H : Heap} {locs : List Loc} {cells slots : Nat} {Q : State → Prop} {ls : Array Slot} {b L : Nat} {xs : Nat → Int32} {dC : Nat → ClassId} {dI : Nat → Nat → Nat} {cI cZ cR cW : ClassId} {X : Nat → Nat} {o om : Nat} {am : Nat → Nat} {u : ob_AX} {S : ob_SX} {mm : ob_B} {i : Nat} (C : lw_K p s m c b L xs (dC, dI) cI cZ cR cW X) (hiv : ob_iv S mm) (hP : va_P (dC, dI) vwCl (ob_wx o cI cR cW u S ++ ob_w5 om am cI cZ mm) H) (hD : va_D (fun q : Nat => s.heap.size ≤ q) (ob_wx o cI cR cW u S ++ ob_w5 om am cI cZ mm)) (hS : va_S (fun q : Nat => s.heap.size ≤ q) s.heap H locs) (hl : lv_has ls 4 [(0, .ref b), (1, .ref o), (2, .ref om), (3, .int (nI i))]) (hi : i + 6 ≤ L) (hL : L ≤ 384) (hcs : cells + 300 ≤ 600000 ∧ slots + 2350 ≤ 7302250)
    (kk : ∀ (u' : ob_AX) (S' : ob_SX) (m' : ob_B) (H1 : Heap) (locs1 : List Loc), ob_iv S' m' → va_P (dC, dI) vwCl (ob_wx o cI cR cW u' S' ++ ob_w5 om am cI cZ m') H1 → va_D (fun q : Nat => s.heap.size ≤ q) (ob_wx o cI cR cW u' S' ++ ob_w5 om am cI cZ m') → va_S (fun q : Nat => s.heap.size ≤ q) s.heap H1 locs1 → W p l e room_1 s m #[Value.ref b] below meth c H1 locs1 (cells + 300) (slots + 2350) Q (F0 m 1335 ls [])) : W p l e room_1 s m #[Value.ref b] below meth c H locs cells slots Q (F0 m 243 ls []) := by
  obtain ⟨hx, hb, -, -, hts, -⟩ := id C
  obtain ⟨r, S', m', hX, hM, hv⟩ := op_set (l := l) (dC := dC) (dI := dI) (cI := cI) (cZ := cZ) (cR := cR) (cW := cW) (X := X) (o := o) (om := om) (am := am) (xs (i + 1)) (xs (i + 2)) (xs (i + 3)) u S mm hiv
  refine lv_aload_n hx hb dL_law_243 rfl (lv_at hl 1 rfl) ?_
  refine lw_arg (k := 1) C hS hl hi hL (by decide) rfl dL_law_244 dL_law_245 dL_law_246 dL_law_247 dL_law_248 ?_
  refine lw_arg (k := 2) C hS hl hi hL (by decide) rfl dL_law_249 dL_law_250 dL_law_251 dL_law_252 dL_law_253 ?_
  refine lw_arg (k := 3) C hS hl hi hL (by decide) rfl dL_law_254 dL_law_255 dL_law_256 dL_law_257 dL_law_258 ?_
  refine lw_x C hX (fun rm h1 h2 => cwV 3 hts gL_law_X4_set rfl rfl rfl (by decide +kernel) ⟨show rm.frames + 1 ≤ 2048 by omega, show 8 + (5 + 11) + rm.locals ≤ 84000 by omega⟩) hP hD hS hl rfl ⟨by omega, by omega⟩ rfl dL_law_259 (fun u' H locs hP hD hS => ?_)
  refine lv_aload_n hx hb dL_law_262 rfl (lv_at hl 2 rfl) ?_
  refine lw_arg (k := 1) C hS hl hi hL (by decide) rfl dL_law_263 dL_law_264 dL_law_265 dL_law_266 dL_law_267 ?_
  refine lw_arg (k := 2) C hS hl hi hL (by decide) rfl dL_law_268 dL_law_269 dL_law_270 dL_law_271 dL_law_272 ?_
  refine lw_arg (k := 3) C hS hl hi hL (by decide) rfl dL_law_273 dL_law_274 dL_law_275 dL_law_276 dL_law_277 ?_
  refine lw_m (rest := [.int r]) C hM (fun rm h1 h2 => cwV 3 hts gL_law_X5_set rfl rfl rfl (by decide +kernel) ⟨show rm.frames + 1 ≤ 2048 by omega, show 8 + (4 + 11) + rm.locals ≤ 84000 by omega⟩) hP hD hS hl rfl ⟨by omega, by omega⟩ (Nat.le_of_ble_eq_true rfl) rfl dL_law_278 (fun H locs hP hD hS => ?_)
  refine lv_icmp_eq (tgt := 1335) hx hb dL_law_281 (by decide) (fun _ => ?_) (fun hc => absurd rfl hc)
  exact W.widen (k := cells + 300) (n := slots + 2350) (by omega) (by omega) (kk u' S' m' H locs hv hP hD hS)
set_option maxHeartbeats 1000000 in
set_option maxRecDepth 20000 in
theorem lc_2 {p : Program} {l : Launch} {e : Env} {s : State} {m : MethodId} {below : List Frame} {meth : Method} {c : Code} {H : Heap} {locs : List Loc} {cells slots : Nat} {Q : State → Prop} {ls : Array Slot} {b L : Nat} {xs : Nat → Int32} {dC : Nat → ClassId} {dI : Nat → Nat → Nat} {cI cZ cR cW : ClassId} {X : Nat → Nat} {o om : Nat} {am : Nat → Nat} {u : ob_AX} {S : ob_SX} {mm : ob_B} {i : Nat} (C : lw_K p s m c b L xs (dC, dI) cI cZ cR cW X) (hiv : ob_iv S mm) (hP : va_P (dC, dI) vwCl (ob_wx o cI cR cW u S ++ ob_w5 om am cI cZ mm) H) (hD : va_D (fun q : Nat => s.heap.size ≤ q) (ob_wx o cI cR cW u S ++ ob_w5 om am cI cZ mm)) (hS : va_S (fun q : Nat => s.heap.size ≤ q) s.heap H locs) (hl : lv_has ls 4 [(0, .ref b), (1, .ref o), (2, .ref om), (3, .int (nI i))]) (hi : i + 6 ≤ L) (hL : L ≤ 384) (hcs : cells + 300 ≤ 600000 ∧ slots + 2350 ≤ 7302250)
    (kk : ∀ (u' : ob_AX) (S' : ob_SX) (m' : ob_B) (H1 : Heap) (locs1 : List Loc), ob_iv S' m' → va_P (dC, dI) vwCl (ob_wx o cI cR cW u' S' ++ ob_w5 om am cI cZ m') H1 → va_D (fun q : Nat => s.heap.size ≤ q) (ob_wx o cI cR cW u' S' ++ ob_w5 om am cI cZ m') → va_S (fun q : Nat => s.heap.size ≤ q) s.heap H1 locs1 → W p l e room_1 s m #[Value.ref b] below meth c H1 locs1 (cells + 300) (slots + 2350) Q (F0 m 1335 ls [])) : W p l e room_1 s m #[Value.ref b] below meth c H locs cells slots Q (F0 m 286 ls []) := by
  obtain ⟨hx, hb, -, -, hts, -⟩ := id C
  obtain ⟨r, S', m', hX, hM, hv⟩ := op_copy (l := l) (dC := dC) (dI := dI) (cI := cI) (cZ := cZ) (cR := cR) (cW := cW) (X := X) (o := o) (om := om) (am := am) (xs (i + 1)) (xs (i + 2)) (xs (i + 3)) (xs (i + 4)) (xs (i + 5)) u S mm hiv
  refine lv_aload_n hx hb dL_law_286 rfl (lv_at hl 1 rfl) ?_
  refine lw_arg (k := 1) C hS hl hi hL (by decide) rfl dL_law_287 dL_law_288 dL_law_289 dL_law_290 dL_law_291 ?_
  refine lw_arg (k := 2) C hS hl hi hL (by decide) rfl dL_law_292 dL_law_293 dL_law_294 dL_law_295 dL_law_296 ?_
  refine lw_arg (k := 3) C hS hl hi hL (by decide) rfl dL_law_297 dL_law_298 dL_law_299 dL_law_300 dL_law_301 ?_
  refine lw_arg (k := 4) C hS hl hi hL (by decide) rfl dL_law_302 dL_law_303 dL_law_304 dL_law_305 dL_law_306 ?_
  refine lw_arg (k := 5) C hS hl hi hL (by decide) rfl dL_law_307 dL_law_308 dL_law_309 dL_law_310 dL_law_311 ?_
  refine lw_x C hX (fun rm h1 h2 => cwV 5 hts gL_law_X4_copy rfl rfl rfl (by decide +kernel) ⟨show rm.frames + 1 ≤ 2048 by omega, show 8 + (8 + 11) + rm.locals ≤ 84000 by omega⟩) hP hD hS hl rfl ⟨by omega, by omega⟩ rfl dL_law_312 (fun u' H locs hP hD hS => ?_)
  refine lv_aload_n hx hb dL_law_315 rfl (lv_at hl 2 rfl) ?_
  refine lw_arg (k := 1) C hS hl hi hL (by decide) rfl dL_law_316 dL_law_317 dL_law_318 dL_law_319 dL_law_320 ?_
  refine lw_arg (k := 2) C hS hl hi hL (by decide) rfl dL_law_321 dL_law_322 dL_law_323 dL_law_324 dL_law_325 ?_
  refine lw_arg (k := 3) C hS hl hi hL (by decide) rfl dL_law_326 dL_law_327 dL_law_328 dL_law_329 dL_law_330 ?_
  refine lw_arg (k := 4) C hS hl hi hL (by decide) rfl dL_law_331 dL_law_332 dL_law_333 dL_law_334 dL_law_335 ?_
  refine lw_arg (k := 5) C hS hl hi hL (by decide) rfl dL_law_336 dL_law_337 dL_law_338 dL_law_339 dL_law_340 ?_
  refine lw_m (rest := [.int r]) C hM (fun rm h1 h2 => cwV 5 hts gL_law_X5_copy rfl rfl rfl (by decide +kernel) ⟨show rm.frames + 1 ≤ 2048 by omega, show 8 + (9 + 11) + rm.locals ≤ 84000 by omega⟩) hP hD hS hl rfl ⟨by omega, by omega⟩ (Nat.le_of_ble_eq_true rfl) rfl dL_law_341 (fun H locs hP hD hS => ?_)
  refine lv_icmp_eq (tgt := 1335) hx hb dL_law_344 (by decide) (fun _ => ?_) (fun hc => absurd rfl hc)
  exact W.widen (k := cells + 300) (n := slots + 2350) (by omega) (by omega) (kk u' S' m' H locs hv hP hD hS)
set_option maxHeartbeats 1000000 in
set_option maxRecDepth 20000 in
theorem lc_3 {p : Program} {l : Launch} {e : Env} {s : State} {m : MethodId} {below : List Frame} {meth : Method} {c : Code} {H : Heap} {locs : List Loc} {cells slots : Nat} {Q : State → Prop} {ls : Array Slot} {b L : Nat} {xs : Nat → Int32} {dC : Nat → ClassId} {dI : Nat → Nat → Nat} {cI cZ cR cW : ClassId} {X : Nat → Nat} {o om : Nat} {am : Nat → Nat} {u : ob_AX} {S : ob_SX} {mm : ob_B} {i : Nat} (C : lw_K p s m c b L xs (dC, dI) cI cZ cR cW X) (hiv : ob_iv S mm) (hP : va_P (dC, dI) vwCl (ob_wx o cI cR cW u S ++ ob_w5 om am cI cZ mm) H) (hD : va_D (fun q : Nat => s.heap.size ≤ q) (ob_wx o cI cR cW u S ++ ob_w5 om am cI cZ mm)) (hS : va_S (fun q : Nat => s.heap.size ≤ q) s.heap H locs) (hl : lv_has ls 4 [(0, .ref b), (1, .ref o), (2, .ref om), (3, .int (nI i))]) (hi : i + 6 ≤ L) (hL : L ≤ 384) (hcs : cells + 300 ≤ 600000 ∧ slots + 2350 ≤ 7302250)
    (kk : ∀ (u' : ob_AX) (S' : ob_SX) (m' : ob_B) (H1 : Heap) (locs1 : List Loc), ob_iv S' m' → va_P (dC, dI) vwCl (ob_wx o cI cR cW u' S' ++ ob_w5 om am cI cZ m') H1 → va_D (fun q : Nat => s.heap.size ≤ q) (ob_wx o cI cR cW u' S' ++ ob_w5 om am cI cZ m') → va_S (fun q : Nat => s.heap.size ≤ q) s.heap H1 locs1 → W p l e room_1 s m #[Value.ref b] below meth c H1 locs1 (cells + 300) (slots + 2350) Q (F0 m 1335 ls [])) : W p l e room_1 s m #[Value.ref b] below meth c H locs cells slots Q (F0 m 349 ls []) := by
  obtain ⟨hx, hb, -, -, hts, -⟩ := id C
  obtain ⟨r, S', m', hX, hM, hv⟩ := op_drop (l := l) (dC := dC) (dI := dI) (cI := cI) (cZ := cZ) (cR := cR) (cW := cW) (X := X) (o := o) (om := om) (am := am) (xs (i + 1)) u S mm hiv
  refine lv_aload_n hx hb dL_law_349 rfl (lv_at hl 1 rfl) ?_
  refine lw_arg (k := 1) C hS hl hi hL (by decide) rfl dL_law_350 dL_law_351 dL_law_352 dL_law_353 dL_law_354 ?_
  refine lw_x C hX (fun rm h1 h2 => cwV 1 hts gL_law_X4_drop rfl rfl rfl (by decide +kernel) ⟨show rm.frames + 1 ≤ 2048 by omega, show 8 + (2 + 11) + rm.locals ≤ 84000 by omega⟩) hP hD hS hl rfl ⟨by omega, by omega⟩ rfl dL_law_355 (fun u' H locs hP hD hS => ?_)
  refine lv_aload_n hx hb dL_law_358 rfl (lv_at hl 2 rfl) ?_
  refine lw_arg (k := 1) C hS hl hi hL (by decide) rfl dL_law_359 dL_law_360 dL_law_361 dL_law_362 dL_law_363 ?_
  refine lw_m (rest := [.int r]) C hM (fun rm h1 h2 => cwV 1 hts gL_law_X5_drop rfl rfl rfl (by decide +kernel) ⟨show rm.frames + 1 ≤ 2048 by omega, show 8 + (2 + 11) + rm.locals ≤ 84000 by omega⟩) hP hD hS hl rfl ⟨by omega, by omega⟩ (Nat.le_of_ble_eq_true rfl) rfl dL_law_364 (fun H locs hP hD hS => ?_)
  refine lv_icmp_eq (tgt := 1335) hx hb dL_law_367 (by decide) (fun _ => ?_) (fun hc => absurd rfl hc)
  exact W.widen (k := cells + 300) (n := slots + 2350) (by omega) (by omega) (kk u' S' m' H locs hv hP hD hS)
set_option maxHeartbeats 1000000 in
set_option maxRecDepth 20000 in
theorem lc_4 {p : Program} {l : Launch} {e : Env} {s : State} {m : MethodId} {below : List Frame} {meth : Method} {c : Code} {H : Heap} {locs : List Loc} {cells slots : Nat} {Q : State → Prop} {ls : Array Slot} {b L : Nat} {xs : Nat → Int32} {dC : Nat → ClassId} {dI : Nat → Nat → Nat} {cI cZ cR cW : ClassId} {X : Nat → Nat} {o om : Nat} {am : Nat → Nat} {u : ob_AX} {S : ob_SX} {mm : ob_B} {i : Nat} (C : lw_K p s m c b L xs (dC, dI) cI cZ cR cW X) (hiv : ob_iv S mm) (hP : va_P (dC, dI) vwCl (ob_wx o cI cR cW u S ++ ob_w5 om am cI cZ mm) H) (hD : va_D (fun q : Nat => s.heap.size ≤ q) (ob_wx o cI cR cW u S ++ ob_w5 om am cI cZ mm)) (hS : va_S (fun q : Nat => s.heap.size ≤ q) s.heap H locs) (hl : lv_has ls 4 [(0, .ref b), (1, .ref o), (2, .ref om), (3, .int (nI i))]) (hi : i + 6 ≤ L) (hL : L ≤ 384) (hcs : cells + 300 ≤ 600000 ∧ slots + 2350 ≤ 7302250)
    (kk : ∀ (u' : ob_AX) (S' : ob_SX) (m' : ob_B) (H1 : Heap) (locs1 : List Loc), ob_iv S' m' → va_P (dC, dI) vwCl (ob_wx o cI cR cW u' S' ++ ob_w5 om am cI cZ m') H1 → va_D (fun q : Nat => s.heap.size ≤ q) (ob_wx o cI cR cW u' S' ++ ob_w5 om am cI cZ m') → va_S (fun q : Nat => s.heap.size ≤ q) s.heap H1 locs1 → W p l e room_1 s m #[Value.ref b] below meth c H1 locs1 (cells + 300) (slots + 2350) Q (F0 m 1335 ls [])) : W p l e room_1 s m #[Value.ref b] below meth c H locs cells slots Q (F0 m 372 ls []) := by
  obtain ⟨hx, hb, -, -, hts, -⟩ := id C
  obtain ⟨r, S', m', hX, hM, hv⟩ := op_feed (l := l) (dC := dC) (dI := dI) (cI := cI) (cZ := cZ) (cR := cR) (cW := cW) (X := X) (o := o) (om := om) (am := am) (xs (i + 1)) u S mm hiv
  refine lv_aload_n hx hb dL_law_372 rfl (lv_at hl 1 rfl) ?_
  refine lw_arg (k := 1) C hS hl hi hL (by decide) rfl dL_law_373 dL_law_374 dL_law_375 dL_law_376 dL_law_377 ?_
  refine lw_x C hX (fun rm h1 h2 => cwV 1 hts gL_law_X4_feed rfl rfl rfl (by decide +kernel) ⟨show rm.frames + 1 ≤ 2048 by omega, show 8 + (2 + 11) + rm.locals ≤ 84000 by omega⟩) hP hD hS hl rfl ⟨by omega, by omega⟩ rfl dL_law_378 (fun u' H locs hP hD hS => ?_)
  refine lv_aload_n hx hb dL_law_381 rfl (lv_at hl 2 rfl) ?_
  refine lw_arg (k := 1) C hS hl hi hL (by decide) rfl dL_law_382 dL_law_383 dL_law_384 dL_law_385 dL_law_386 ?_
  refine lw_m (rest := [.int r]) C hM (fun rm h1 h2 => cwV 1 hts gL_law_X5_feed rfl rfl rfl (by decide +kernel) ⟨show rm.frames + 1 ≤ 2048 by omega, show 8 + (2 + 11) + rm.locals ≤ 84000 by omega⟩) hP hD hS hl rfl ⟨by omega, by omega⟩ (Nat.le_of_ble_eq_true rfl) rfl dL_law_387 (fun H locs hP hD hS => ?_)
  refine lv_icmp_eq (tgt := 1335) hx hb dL_law_390 (by decide) (fun _ => ?_) (fun hc => absurd rfl hc)
  exact W.widen (k := cells + 300) (n := slots + 2350) (by omega) (by omega) (kk u' S' m' H locs hv hP hD hS)
set_option maxHeartbeats 1000000 in
set_option maxRecDepth 20000 in
theorem lc_5 {p : Program} {l : Launch} {e : Env} {s : State} {m : MethodId} {below : List Frame} {meth : Method} {c : Code} {H : Heap} {locs : List Loc} {cells slots : Nat} {Q : State → Prop} {ls : Array Slot} {b L : Nat} {xs : Nat → Int32} {dC : Nat → ClassId} {dI : Nat → Nat → Nat} {cI cZ cR cW : ClassId} {X : Nat → Nat} {o om : Nat} {am : Nat → Nat} {u : ob_AX} {S : ob_SX} {mm : ob_B} {i : Nat} (C : lw_K p s m c b L xs (dC, dI) cI cZ cR cW X) (hiv : ob_iv S mm) (hP : va_P (dC, dI) vwCl (ob_wx o cI cR cW u S ++ ob_w5 om am cI cZ mm) H) (hD : va_D (fun q : Nat => s.heap.size ≤ q) (ob_wx o cI cR cW u S ++ ob_w5 om am cI cZ mm)) (hS : va_S (fun q : Nat => s.heap.size ≤ q) s.heap H locs) (hl : lv_has ls 4 [(0, .ref b), (1, .ref o), (2, .ref om), (3, .int (nI i))]) (hi : i + 6 ≤ L) (hL : L ≤ 384) (hcs : cells + 300 ≤ 600000 ∧ slots + 2350 ≤ 7302250)
    (kk : ∀ (u' : ob_AX) (S' : ob_SX) (m' : ob_B) (H1 : Heap) (locs1 : List Loc), ob_iv S' m' → va_P (dC, dI) vwCl (ob_wx o cI cR cW u' S' ++ ob_w5 om am cI cZ m') H1 → va_D (fun q : Nat => s.heap.size ≤ q) (ob_wx o cI cR cW u' S' ++ ob_w5 om am cI cZ m') → va_S (fun q : Nat => s.heap.size ≤ q) s.heap H1 locs1 → W p l e room_1 s m #[Value.ref b] below meth c H1 locs1 (cells + 300) (slots + 2350) Q (F0 m 1335 ls [])) : W p l e room_1 s m #[Value.ref b] below meth c H locs cells slots Q (F0 m 395 ls []) := by
  obtain ⟨hx, hb, -, -, hts, -⟩ := id C
  obtain ⟨r, S', m', hX, hM, hv⟩ := op_route (l := l) (dC := dC) (dI := dI) (cI := cI) (cZ := cZ) (cR := cR) (cW := cW) (X := X) (o := o) (om := om) (am := am)  u S mm hiv
  refine lv_aload_n hx hb dL_law_395 rfl (lv_at hl 1 rfl) ?_
  refine lw_x C hX (fun rm h1 h2 => cwV 0 hts gL_law_X4_route rfl rfl rfl (by decide +kernel) ⟨show rm.frames + 1 ≤ 2048 by omega, show 8 + (3 + 11) + rm.locals ≤ 84000 by omega⟩) hP hD hS hl rfl ⟨by omega, by omega⟩ rfl dL_law_396 (fun u' H locs hP hD hS => ?_)
  refine lv_aload_n hx hb dL_law_399 rfl (lv_at hl 2 rfl) ?_
  refine lw_m (rest := [.int r]) C hM (fun rm h1 h2 => cwV 0 hts gL_law_X5_route rfl rfl rfl (by decide +kernel) ⟨show rm.frames + 1 ≤ 2048 by omega, show 8 + (2 + 11) + rm.locals ≤ 84000 by omega⟩) hP hD hS hl rfl ⟨by omega, by omega⟩ (Nat.le_of_ble_eq_true rfl) rfl dL_law_400 (fun H locs hP hD hS => ?_)
  refine lv_icmp_eq (tgt := 1335) hx hb dL_law_403 (by decide) (fun _ => ?_) (fun hc => absurd rfl hc)
  exact W.widen (k := cells + 300) (n := slots + 2350) (by omega) (by omega) (kk u' S' m' H locs hv hP hD hS)
set_option maxHeartbeats 1000000 in
set_option maxRecDepth 20000 in
theorem lc_6 {p : Program} {l : Launch} {e : Env} {s : State} {m : MethodId} {below : List Frame} {meth : Method} {c : Code} {H : Heap} {locs : List Loc} {cells slots : Nat} {Q : State → Prop} {ls : Array Slot} {b L : Nat} {xs : Nat → Int32} {dC : Nat → ClassId} {dI : Nat → Nat → Nat} {cI cZ cR cW : ClassId} {X : Nat → Nat} {o om : Nat} {am : Nat → Nat} {u : ob_AX} {S : ob_SX} {mm : ob_B} {i : Nat} (C : lw_K p s m c b L xs (dC, dI) cI cZ cR cW X) (hiv : ob_iv S mm) (hP : va_P (dC, dI) vwCl (ob_wx o cI cR cW u S ++ ob_w5 om am cI cZ mm) H) (hD : va_D (fun q : Nat => s.heap.size ≤ q) (ob_wx o cI cR cW u S ++ ob_w5 om am cI cZ mm)) (hS : va_S (fun q : Nat => s.heap.size ≤ q) s.heap H locs) (hl : lv_has ls 4 [(0, .ref b), (1, .ref o), (2, .ref om), (3, .int (nI i))]) (hi : i + 6 ≤ L) (hL : L ≤ 384) (hcs : cells + 300 ≤ 600000 ∧ slots + 2350 ≤ 7302250)
    (kk : ∀ (u' : ob_AX) (S' : ob_SX) (m' : ob_B) (H1 : Heap) (locs1 : List Loc), ob_iv S' m' → va_P (dC, dI) vwCl (ob_wx o cI cR cW u' S' ++ ob_w5 om am cI cZ m') H1 → va_D (fun q : Nat => s.heap.size ≤ q) (ob_wx o cI cR cW u' S' ++ ob_w5 om am cI cZ m') → va_S (fun q : Nat => s.heap.size ≤ q) s.heap H1 locs1 → W p l e room_1 s m #[Value.ref b] below meth c H1 locs1 (cells + 300) (slots + 2350) Q (F0 m 1335 ls [])) : W p l e room_1 s m #[Value.ref b] below meth c H locs cells slots Q (F0 m 408 ls []) := by
  obtain ⟨hx, hb, -, -, hts, -⟩ := id C
  obtain ⟨r, S', m', hX, hM, hv⟩ := op_fault (l := l) (dC := dC) (dI := dI) (cI := cI) (cZ := cZ) (cR := cR) (cW := cW) (X := X) (o := o) (om := om) (am := am)  u S mm hiv
  refine lv_aload_n hx hb dL_law_408 rfl (lv_at hl 1 rfl) ?_
  refine lw_x C hX (fun rm h1 h2 => cwV 0 hts gL_law_X4_fault rfl rfl rfl (by decide +kernel) ⟨show rm.frames + 1 ≤ 2048 by omega, show 8 + (1 + 11) + rm.locals ≤ 84000 by omega⟩) hP hD hS hl rfl ⟨by omega, by omega⟩ rfl dL_law_409 (fun u' H locs hP hD hS => ?_)
  refine lv_aload_n hx hb dL_law_412 rfl (lv_at hl 2 rfl) ?_
  refine lw_m (rest := [.int r]) C hM (fun rm h1 h2 => cwV 0 hts gL_law_X5_fault rfl rfl rfl (by decide +kernel) ⟨show rm.frames + 1 ≤ 2048 by omega, show 8 + (1 + 11) + rm.locals ≤ 84000 by omega⟩) hP hD hS hl rfl ⟨by omega, by omega⟩ (Nat.le_of_ble_eq_true rfl) rfl dL_law_413 (fun H locs hP hD hS => ?_)
  refine lv_icmp_eq (tgt := 1335) hx hb dL_law_416 (by decide) (fun _ => ?_) (fun hc => absurd rfl hc)
  exact W.widen (k := cells + 300) (n := slots + 2350) (by omega) (by omega) (kk u' S' m' H locs hv hP hD hS)
set_option maxHeartbeats 1000000 in
set_option maxRecDepth 20000 in
theorem lc_7 {p : Program} {l : Launch} {e : Env} {s : State} {m : MethodId} {below : List Frame} {meth : Method} {c : Code} {H : Heap} {locs : List Loc} {cells slots : Nat} {Q : State → Prop} {ls : Array Slot} {b L : Nat} {xs : Nat → Int32} {dC : Nat → ClassId} {dI : Nat → Nat → Nat} {cI cZ cR cW : ClassId} {X : Nat → Nat} {o om : Nat} {am : Nat → Nat} {u : ob_AX} {S : ob_SX} {mm : ob_B} {i : Nat} (C : lw_K p s m c b L xs (dC, dI) cI cZ cR cW X) (hiv : ob_iv S mm) (hP : va_P (dC, dI) vwCl (ob_wx o cI cR cW u S ++ ob_w5 om am cI cZ mm) H) (hD : va_D (fun q : Nat => s.heap.size ≤ q) (ob_wx o cI cR cW u S ++ ob_w5 om am cI cZ mm)) (hS : va_S (fun q : Nat => s.heap.size ≤ q) s.heap H locs) (hl : lv_has ls 4 [(0, .ref b), (1, .ref o), (2, .ref om), (3, .int (nI i))]) (hi : i + 6 ≤ L) (hL : L ≤ 384) (hcs : cells + 300 ≤ 600000 ∧ slots + 2350 ≤ 7302250)
    (kk : ∀ (u' : ob_AX) (S' : ob_SX) (m' : ob_B) (H1 : Heap) (locs1 : List Loc), ob_iv S' m' → va_P (dC, dI) vwCl (ob_wx o cI cR cW u' S' ++ ob_w5 om am cI cZ m') H1 → va_D (fun q : Nat => s.heap.size ≤ q) (ob_wx o cI cR cW u' S' ++ ob_w5 om am cI cZ m') → va_S (fun q : Nat => s.heap.size ≤ q) s.heap H1 locs1 → W p l e room_1 s m #[Value.ref b] below meth c H1 locs1 (cells + 300) (slots + 2350) Q (F0 m 1335 ls [])) : W p l e room_1 s m #[Value.ref b] below meth c H locs cells slots Q (F0 m 421 ls []) := by
  obtain ⟨hx, hb, -, -, hts, -⟩ := id C
  obtain ⟨r, S', m', hX, hM, hv⟩ := op_undo (l := l) (dC := dC) (dI := dI) (cI := cI) (cZ := cZ) (cR := cR) (cW := cW) (X := X) (o := o) (om := om) (am := am)  u S mm hiv
  refine lv_aload_n hx hb dL_law_421 rfl (lv_at hl 1 rfl) ?_
  refine lw_x C hX (fun rm h1 h2 => cwV 0 hts gL_law_X4_undo rfl rfl rfl (by decide +kernel) ⟨show rm.frames + 1 ≤ 2048 by omega, show 8 + (1 + 11) + rm.locals ≤ 84000 by omega⟩) hP hD hS hl rfl ⟨by omega, by omega⟩ rfl dL_law_422 (fun u' H locs hP hD hS => ?_)
  refine lv_aload_n hx hb dL_law_425 rfl (lv_at hl 2 rfl) ?_
  refine lw_m (rest := [.int r]) C hM (fun rm h1 h2 => cwV 0 hts gL_law_X5_undo rfl rfl rfl (by decide +kernel) ⟨show rm.frames + 1 ≤ 2048 by omega, show 8 + (1 + 11) + rm.locals ≤ 84000 by omega⟩) hP hD hS hl rfl ⟨by omega, by omega⟩ (Nat.le_of_ble_eq_true rfl) rfl dL_law_426 (fun H locs hP hD hS => ?_)
  refine lv_icmp_eq (tgt := 1335) hx hb dL_law_429 (by decide) (fun _ => ?_) (fun hc => absurd rfl hc)
  exact W.widen (k := cells + 300) (n := slots + 2350) (by omega) (by omega) (kk u' S' m' H locs hv hP hD hS)
set_option maxHeartbeats 1000000 in
set_option maxRecDepth 20000 in
theorem lc_8 {p : Program} {l : Launch} {e : Env} {s : State} {m : MethodId} {below : List Frame} {meth : Method} {c : Code} {H : Heap} {locs : List Loc} {cells slots : Nat} {Q : State → Prop} {ls : Array Slot} {b L : Nat} {xs : Nat → Int32} {dC : Nat → ClassId} {dI : Nat → Nat → Nat} {cI cZ cR cW : ClassId} {X : Nat → Nat} {o om : Nat} {am : Nat → Nat} {u : ob_AX} {S : ob_SX} {mm : ob_B} {i : Nat} (C : lw_K p s m c b L xs (dC, dI) cI cZ cR cW X) (hiv : ob_iv S mm) (hP : va_P (dC, dI) vwCl (ob_wx o cI cR cW u S ++ ob_w5 om am cI cZ mm) H) (hD : va_D (fun q : Nat => s.heap.size ≤ q) (ob_wx o cI cR cW u S ++ ob_w5 om am cI cZ mm)) (hS : va_S (fun q : Nat => s.heap.size ≤ q) s.heap H locs) (hl : lv_has ls 4 [(0, .ref b), (1, .ref o), (2, .ref om), (3, .int (nI i))]) (hi : i + 6 ≤ L) (hL : L ≤ 384) (hcs : cells + 300 ≤ 600000 ∧ slots + 2350 ≤ 7302250)
    (kk : ∀ (u' : ob_AX) (S' : ob_SX) (m' : ob_B) (H1 : Heap) (locs1 : List Loc), ob_iv S' m' → va_P (dC, dI) vwCl (ob_wx o cI cR cW u' S' ++ ob_w5 om am cI cZ m') H1 → va_D (fun q : Nat => s.heap.size ≤ q) (ob_wx o cI cR cW u' S' ++ ob_w5 om am cI cZ m') → va_S (fun q : Nat => s.heap.size ≤ q) s.heap H1 locs1 → W p l e room_1 s m #[Value.ref b] below meth c H1 locs1 (cells + 300) (slots + 2350) Q (F0 m 1335 ls [])) : W p l e room_1 s m #[Value.ref b] below meth c H locs cells slots Q (F0 m 434 ls []) := by
  obtain ⟨hx, hb, -, -, hts, -⟩ := id C
  obtain ⟨r, S', m', hX, hM, hv⟩ := op_hours (l := l) (dC := dC) (dI := dI) (cI := cI) (cZ := cZ) (cR := cR) (cW := cW) (X := X) (o := o) (om := om) (am := am) (xs (i + 1)) u S mm hiv
  refine lv_aload_n hx hb dL_law_434 rfl (lv_at hl 1 rfl) ?_
  refine lw_arg (k := 1) C hS hl hi hL (by decide) rfl dL_law_435 dL_law_436 dL_law_437 dL_law_438 dL_law_439 ?_
  refine lw_x C hX (fun rm h1 h2 => cwV 1 hts gL_law_X4_hours rfl rfl rfl (by decide +kernel) ⟨show rm.frames + 1 ≤ 2048 by omega, show 8 + (3 + 11) + rm.locals ≤ 84000 by omega⟩) hP hD hS hl rfl ⟨by omega, by omega⟩ rfl dL_law_440 (fun u' H locs hP hD hS => ?_)
  refine lv_aload_n hx hb dL_law_443 rfl (lv_at hl 2 rfl) ?_
  refine lw_arg (k := 1) C hS hl hi hL (by decide) rfl dL_law_444 dL_law_445 dL_law_446 dL_law_447 dL_law_448 ?_
  refine lw_m (rest := [.int r]) C hM (fun rm h1 h2 => cwV 1 hts gL_law_X5_hours rfl rfl rfl (by decide +kernel) ⟨show rm.frames + 1 ≤ 2048 by omega, show 8 + (3 + 11) + rm.locals ≤ 84000 by omega⟩) hP hD hS hl rfl ⟨by omega, by omega⟩ (Nat.le_of_ble_eq_true rfl) rfl dL_law_449 (fun H locs hP hD hS => ?_)
  refine lv_icmp_eq (tgt := 1335) hx hb dL_law_452 (by decide) (fun _ => ?_) (fun hc => absurd rfl hc)
  exact W.widen (k := cells + 300) (n := slots + 2350) (by omega) (by omega) (kk u' S' m' H locs hv hP hD hS)
set_option maxHeartbeats 1000000 in
set_option maxRecDepth 20000 in
theorem lc_9 {p : Program} {l : Launch} {e : Env} {s : State} {m : MethodId} {below : List Frame} {meth : Method} {c : Code} {H : Heap} {locs : List Loc} {cells slots : Nat} {Q : State → Prop} {ls : Array Slot} {b L : Nat} {xs : Nat → Int32} {dC : Nat → ClassId} {dI : Nat → Nat → Nat} {cI cZ cR cW : ClassId} {X : Nat → Nat} {o om : Nat} {am : Nat → Nat} {u : ob_AX} {S : ob_SX} {mm : ob_B} {i : Nat} (C : lw_K p s m c b L xs (dC, dI) cI cZ cR cW X) (hiv : ob_iv S mm) (hP : va_P (dC, dI) vwCl (ob_wx o cI cR cW u S ++ ob_w5 om am cI cZ mm) H) (hD : va_D (fun q : Nat => s.heap.size ≤ q) (ob_wx o cI cR cW u S ++ ob_w5 om am cI cZ mm)) (hS : va_S (fun q : Nat => s.heap.size ≤ q) s.heap H locs) (hl : lv_has ls 4 [(0, .ref b), (1, .ref o), (2, .ref om), (3, .int (nI i))]) (hi : i + 6 ≤ L) (hL : L ≤ 384) (hcs : cells + 300 ≤ 600000 ∧ slots + 2350 ≤ 7302250)
    (kk : ∀ (u' : ob_AX) (S' : ob_SX) (m' : ob_B) (H1 : Heap) (locs1 : List Loc), ob_iv S' m' → va_P (dC, dI) vwCl (ob_wx o cI cR cW u' S' ++ ob_w5 om am cI cZ m') H1 → va_D (fun q : Nat => s.heap.size ≤ q) (ob_wx o cI cR cW u' S' ++ ob_w5 om am cI cZ m') → va_S (fun q : Nat => s.heap.size ≤ q) s.heap H1 locs1 → W p l e room_1 s m #[Value.ref b] below meth c H1 locs1 (cells + 300) (slots + 2350) Q (F0 m 1335 ls [])) : W p l e room_1 s m #[Value.ref b] below meth c H locs cells slots Q (F0 m 457 ls []) := by
  obtain ⟨hx, hb, -, -, hts, -⟩ := id C
  obtain ⟨r, S', m', hX, hM, hv⟩ := op_swear (l := l) (dC := dC) (dI := dI) (cI := cI) (cZ := cZ) (cR := cR) (cW := cW) (X := X) (o := o) (om := om) (am := am) (xs (i + 1)) (xs (i + 2)) (xs (i + 3)) u S mm hiv
  refine lv_aload_n hx hb dL_law_457 rfl (lv_at hl 1 rfl) ?_
  refine lw_arg (k := 1) C hS hl hi hL (by decide) rfl dL_law_458 dL_law_459 dL_law_460 dL_law_461 dL_law_462 ?_
  refine lw_arg (k := 2) C hS hl hi hL (by decide) rfl dL_law_463 dL_law_464 dL_law_465 dL_law_466 dL_law_467 ?_
  refine lw_arg (k := 3) C hS hl hi hL (by decide) rfl dL_law_468 dL_law_469 dL_law_470 dL_law_471 dL_law_472 ?_
  refine lw_x C hX (fun rm h1 h2 => cwV 3 hts gL_law_X4_swear rfl rfl rfl (by decide +kernel) ⟨show rm.frames + 1 ≤ 2048 by omega, show 8 + (4 + 11) + rm.locals ≤ 84000 by omega⟩) hP hD hS hl rfl ⟨by omega, by omega⟩ rfl dL_law_473 (fun u' H locs hP hD hS => ?_)
  refine lv_aload_n hx hb dL_law_476 rfl (lv_at hl 2 rfl) ?_
  refine lw_arg (k := 1) C hS hl hi hL (by decide) rfl dL_law_477 dL_law_478 dL_law_479 dL_law_480 dL_law_481 ?_
  refine lw_arg (k := 2) C hS hl hi hL (by decide) rfl dL_law_482 dL_law_483 dL_law_484 dL_law_485 dL_law_486 ?_
  refine lw_arg (k := 3) C hS hl hi hL (by decide) rfl dL_law_487 dL_law_488 dL_law_489 dL_law_490 dL_law_491 ?_
  refine lw_m (rest := [.int r]) C hM (fun rm h1 h2 => cwV 3 hts gL_law_X5_swear rfl rfl rfl (by decide +kernel) ⟨show rm.frames + 1 ≤ 2048 by omega, show 8 + (4 + 11) + rm.locals ≤ 84000 by omega⟩) hP hD hS hl rfl ⟨by omega, by omega⟩ (Nat.le_of_ble_eq_true rfl) rfl dL_law_492 (fun H locs hP hD hS => ?_)
  refine lv_icmp_eq (tgt := 1335) hx hb dL_law_495 (by decide) (fun _ => ?_) (fun hc => absurd rfl hc)
  exact W.widen (k := cells + 300) (n := slots + 2350) (by omega) (by omega) (kk u' S' m' H locs hv hP hD hS)
