set_option maxHeartbeats 1000000 in
set_option maxRecDepth 20000 in
theorem lc_30 {p : Program} {l : Launch} {e : Env} {s : State} {m : MethodId} {below : List Frame} {meth : Method} {c : Code} {H : Heap} {locs : List Loc} {cells slots : Nat} {Q : State → Prop} {ls : Array Slot} {b L : Nat} {xs : Nat → Int32} {dC : Nat → ClassId} {dI : Nat → Nat → Nat} {cI cZ cR cW : ClassId} {X : Nat → Nat} {o om : Nat} {am : Nat → Nat} {u : ob_AX} {S : ob_SX} {mm : ob_B} {i : Nat} (C : lw_K p s m c b L xs (dC, dI) cI cZ cR cW X) (hiv : ob_iv S mm) (hP : va_P (dC, dI) vwCl (ob_wx o cI cR cW u S ++ ob_w5 om am cI cZ mm) H) (hD : va_D (fun q : Nat => s.heap.size ≤ q) (ob_wx o cI cR cW u S ++ ob_w5 om am cI cZ mm)) (hS : va_S (fun q : Nat => s.heap.size ≤ q) s.heap H locs) (hl : lv_has ls 4 [(0, .ref b), (1, .ref o), (2, .ref om), (3, .int (nI i))]) (hi : i + 6 ≤ L) (hL : L ≤ 384) (hcs : cells + 300 ≤ 600000 ∧ slots + 2350 ≤ 7302250)
    (kk : ∀ (u' : ob_AX) (S' : ob_SX) (m' : ob_B) (H1 : Heap) (locs1 : List Loc), ob_iv S' m' → va_P (dC, dI) vwCl (ob_wx o cI cR cW u' S' ++ ob_w5 om am cI cZ m') H1 → va_D (fun q : Nat => s.heap.size ≤ q) (ob_wx o cI cR cW u' S' ++ ob_w5 om am cI cZ m') → va_S (fun q : Nat => s.heap.size ≤ q) s.heap H1 locs1 → W p l e room_1 s m #[Value.ref b] below meth c H1 locs1 (cells + 300) (slots + 2350) Q (F0 m 1335 ls [])) : W p l e room_1 s m #[Value.ref b] below meth c H locs cells slots Q (F0 m 1141 ls []) := by
  obtain ⟨hx, hb, -, -, hts, -⟩ := id C
  obtain ⟨r, S', m', hX, hM, hv⟩ := op_image (l := l) (dC := dC) (dI := dI) (cI := cI) (cZ := cZ) (cR := cR) (cW := cW) (X := X) (o := o) (om := om) (am := am) (xs (i + 1)) u S mm hiv
  refine lv_aload_n hx hb dL_law_1141 rfl (lv_at hl 1 rfl) ?_
  refine lw_arg (k := 1) C hS hl hi hL (by decide) rfl dL_law_1142 dL_law_1143 dL_law_1144 dL_law_1145 dL_law_1146 ?_
  refine lw_x C hX (fun rm h1 h2 => cwV 1 hts gL_law_X4_image rfl rfl rfl (by decide +kernel) ⟨show rm.frames + 1 ≤ 2048 by omega, show 8 + (2 + 11) + rm.locals ≤ 84000 by omega⟩) hP hD hS hl rfl ⟨by omega, by omega⟩ rfl dL_law_1147 (fun u' H locs hP hD hS => ?_)
  refine lv_aload_n hx hb dL_law_1150 rfl (lv_at hl 2 rfl) ?_
  refine lw_arg (k := 1) C hS hl hi hL (by decide) rfl dL_law_1151 dL_law_1152 dL_law_1153 dL_law_1154 dL_law_1155 ?_
  refine lw_m (rest := [.int r]) C hM (fun rm h1 h2 => cwV 1 hts gL_law_X5_image rfl rfl rfl (by decide +kernel) ⟨show rm.frames + 1 ≤ 2048 by omega, show 8 + (2 + 11) + rm.locals ≤ 84000 by omega⟩) hP hD hS hl rfl ⟨by omega, by omega⟩ (Nat.le_of_ble_eq_true rfl) rfl dL_law_1156 (fun H locs hP hD hS => ?_)
  refine lv_icmp_eq (tgt := 1335) hx hb dL_law_1159 (by decide) (fun _ => ?_) (fun hc => absurd rfl hc)
  exact W.widen (k := cells + 300) (n := slots + 2350) (by omega) (by omega) (kk u' S' m' H locs hv hP hD hS)
set_option maxHeartbeats 1000000 in
set_option maxRecDepth 20000 in
theorem lc_31 {p : Program} {l : Launch} {e : Env} {s : State} {m : MethodId} {below : List Frame} {meth : Method} {c : Code} {H : Heap} {locs : List Loc} {cells slots : Nat} {Q : State → Prop} {ls : Array Slot} {b L : Nat} {xs : Nat → Int32} {dC : Nat → ClassId} {dI : Nat → Nat → Nat} {cI cZ cR cW : ClassId} {X : Nat → Nat} {o om : Nat} {am : Nat → Nat} {u : ob_AX} {S : ob_SX} {mm : ob_B} {i : Nat} (C : lw_K p s m c b L xs (dC, dI) cI cZ cR cW X) (hiv : ob_iv S mm) (hP : va_P (dC, dI) vwCl (ob_wx o cI cR cW u S ++ ob_w5 om am cI cZ mm) H) (hD : va_D (fun q : Nat => s.heap.size ≤ q) (ob_wx o cI cR cW u S ++ ob_w5 om am cI cZ mm)) (hS : va_S (fun q : Nat => s.heap.size ≤ q) s.heap H locs) (hl : lv_has ls 4 [(0, .ref b), (1, .ref o), (2, .ref om), (3, .int (nI i))]) (hi : i + 6 ≤ L) (hL : L ≤ 384) (hcs : cells + 300 ≤ 600000 ∧ slots + 2350 ≤ 7302250)
    (kk : ∀ (u' : ob_AX) (S' : ob_SX) (m' : ob_B) (H1 : Heap) (locs1 : List Loc), ob_iv S' m' → va_P (dC, dI) vwCl (ob_wx o cI cR cW u' S' ++ ob_w5 om am cI cZ m') H1 → va_D (fun q : Nat => s.heap.size ≤ q) (ob_wx o cI cR cW u' S' ++ ob_w5 om am cI cZ m') → va_S (fun q : Nat => s.heap.size ≤ q) s.heap H1 locs1 → W p l e room_1 s m #[Value.ref b] below meth c H1 locs1 (cells + 300) (slots + 2350) Q (F0 m 1335 ls [])) : W p l e room_1 s m #[Value.ref b] below meth c H locs cells slots Q (F0 m 1164 ls []) := by
  obtain ⟨hx, hb, -, -, hts, -⟩ := id C
  obtain ⟨r, S', m', hX, hM, hv⟩ := op_restore (l := l) (dC := dC) (dI := dI) (cI := cI) (cZ := cZ) (cR := cR) (cW := cW) (X := X) (o := o) (om := om) (am := am) (xs (i + 1)) u S mm hiv
  refine lv_aload_n hx hb dL_law_1164 rfl (lv_at hl 1 rfl) ?_
  refine lw_arg (k := 1) C hS hl hi hL (by decide) rfl dL_law_1165 dL_law_1166 dL_law_1167 dL_law_1168 dL_law_1169 ?_
  refine lw_x C hX (fun rm h1 h2 => cwV 1 hts gL_law_X4_restore rfl rfl rfl (by decide +kernel) ⟨show rm.frames + 1 ≤ 2048 by omega, show 8 + (2 + 11) + rm.locals ≤ 84000 by omega⟩) hP hD hS hl rfl ⟨by omega, by omega⟩ rfl dL_law_1170 (fun u' H locs hP hD hS => ?_)
  refine lv_aload_n hx hb dL_law_1173 rfl (lv_at hl 2 rfl) ?_
  refine lw_arg (k := 1) C hS hl hi hL (by decide) rfl dL_law_1174 dL_law_1175 dL_law_1176 dL_law_1177 dL_law_1178 ?_
  refine lw_m (rest := [.int r]) C hM (fun rm h1 h2 => cwV 1 hts gL_law_X5_restore rfl rfl rfl (by decide +kernel) ⟨show rm.frames + 1 ≤ 2048 by omega, show 8 + (2 + 11) + rm.locals ≤ 84000 by omega⟩) hP hD hS hl rfl ⟨by omega, by omega⟩ (Nat.le_of_ble_eq_true rfl) rfl dL_law_1179 (fun H locs hP hD hS => ?_)
  refine lv_icmp_eq (tgt := 1335) hx hb dL_law_1182 (by decide) (fun _ => ?_) (fun hc => absurd rfl hc)
  exact W.widen (k := cells + 300) (n := slots + 2350) (by omega) (by omega) (kk u' S' m' H locs hv hP hD hS)
set_option maxHeartbeats 1000000 in
set_option maxRecDepth 20000 in
theorem lc_32 {p : Program} {l : Launch} {e : Env} {s : State} {m : MethodId} {below : List Frame} {meth : Method} {c : Code} {H : Heap} {locs : List Loc} {cells slots : Nat} {Q : State → Prop} {ls : Array Slot} {b L : Nat} {xs : Nat → Int32} {dC : Nat → ClassId} {dI : Nat → Nat → Nat} {cI cZ cR cW : ClassId} {X : Nat → Nat} {o om : Nat} {am : Nat → Nat} {u : ob_AX} {S : ob_SX} {mm : ob_B} {i : Nat} (C : lw_K p s m c b L xs (dC, dI) cI cZ cR cW X) (hiv : ob_iv S mm) (hP : va_P (dC, dI) vwCl (ob_wx o cI cR cW u S ++ ob_w5 om am cI cZ mm) H) (hD : va_D (fun q : Nat => s.heap.size ≤ q) (ob_wx o cI cR cW u S ++ ob_w5 om am cI cZ mm)) (hS : va_S (fun q : Nat => s.heap.size ≤ q) s.heap H locs) (hl : lv_has ls 4 [(0, .ref b), (1, .ref o), (2, .ref om), (3, .int (nI i))]) (hi : i + 6 ≤ L) (hL : L ≤ 384) (hcs : cells + 300 ≤ 600000 ∧ slots + 2350 ≤ 7302250)
    (kk : ∀ (u' : ob_AX) (S' : ob_SX) (m' : ob_B) (H1 : Heap) (locs1 : List Loc), ob_iv S' m' → va_P (dC, dI) vwCl (ob_wx o cI cR cW u' S' ++ ob_w5 om am cI cZ m') H1 → va_D (fun q : Nat => s.heap.size ≤ q) (ob_wx o cI cR cW u' S' ++ ob_w5 om am cI cZ m') → va_S (fun q : Nat => s.heap.size ≤ q) s.heap H1 locs1 → W p l e room_1 s m #[Value.ref b] below meth c H1 locs1 (cells + 300) (slots + 2350) Q (F0 m 1335 ls [])) : W p l e room_1 s m #[Value.ref b] below meth c H locs cells slots Q (F0 m 1187 ls []) := by
  obtain ⟨hx, hb, -, -, hts, -⟩ := id C
  obtain ⟨r, S', m', hX, hM, hv⟩ := op_kind (l := l) (dC := dC) (dI := dI) (cI := cI) (cZ := cZ) (cR := cR) (cW := cW) (X := X) (o := o) (om := om) (am := am) (xs (i + 1)) u S mm hiv
  refine lv_aload_n hx hb dL_law_1187 rfl (lv_at hl 1 rfl) ?_
  refine lw_arg (k := 1) C hS hl hi hL (by decide) rfl dL_law_1188 dL_law_1189 dL_law_1190 dL_law_1191 dL_law_1192 ?_
  refine lw_x C hX (fun rm h1 h2 => cwV 1 hts gL_law_X4_kind rfl rfl rfl (by decide +kernel) ⟨show rm.frames + 1 ≤ 2048 by omega, show 8 + (2 + 11) + rm.locals ≤ 84000 by omega⟩) hP hD hS hl rfl ⟨by omega, by omega⟩ rfl dL_law_1193 (fun u' H locs hP hD hS => ?_)
  refine lv_aload_n hx hb dL_law_1196 rfl (lv_at hl 2 rfl) ?_
  refine lw_arg (k := 1) C hS hl hi hL (by decide) rfl dL_law_1197 dL_law_1198 dL_law_1199 dL_law_1200 dL_law_1201 ?_
  refine lw_m (rest := [.int r]) C hM (fun rm h1 h2 => cwV 1 hts gL_law_X5_kind rfl rfl rfl (by decide +kernel) ⟨show rm.frames + 1 ≤ 2048 by omega, show 8 + (2 + 11) + rm.locals ≤ 84000 by omega⟩) hP hD hS hl rfl ⟨by omega, by omega⟩ (Nat.le_of_ble_eq_true rfl) rfl dL_law_1202 (fun H locs hP hD hS => ?_)
  refine lv_icmp_eq (tgt := 1335) hx hb dL_law_1205 (by decide) (fun _ => ?_) (fun hc => absurd rfl hc)
  exact W.widen (k := cells + 300) (n := slots + 2350) (by omega) (by omega) (kk u' S' m' H locs hv hP hD hS)
set_option maxHeartbeats 1000000 in
set_option maxRecDepth 20000 in
theorem lc_33 {p : Program} {l : Launch} {e : Env} {s : State} {m : MethodId} {below : List Frame} {meth : Method} {c : Code} {H : Heap} {locs : List Loc} {cells slots : Nat} {Q : State → Prop} {ls : Array Slot} {b L : Nat} {xs : Nat → Int32} {dC : Nat → ClassId} {dI : Nat → Nat → Nat} {cI cZ cR cW : ClassId} {X : Nat → Nat} {o om : Nat} {am : Nat → Nat} {u : ob_AX} {S : ob_SX} {mm : ob_B} {i : Nat} (C : lw_K p s m c b L xs (dC, dI) cI cZ cR cW X) (hiv : ob_iv S mm) (hP : va_P (dC, dI) vwCl (ob_wx o cI cR cW u S ++ ob_w5 om am cI cZ mm) H) (hD : va_D (fun q : Nat => s.heap.size ≤ q) (ob_wx o cI cR cW u S ++ ob_w5 om am cI cZ mm)) (hS : va_S (fun q : Nat => s.heap.size ≤ q) s.heap H locs) (hl : lv_has ls 4 [(0, .ref b), (1, .ref o), (2, .ref om), (3, .int (nI i))]) (hi : i + 6 ≤ L) (hL : L ≤ 384) (hcs : cells + 300 ≤ 600000 ∧ slots + 2350 ≤ 7302250)
    (kk : ∀ (u' : ob_AX) (S' : ob_SX) (m' : ob_B) (H1 : Heap) (locs1 : List Loc), ob_iv S' m' → va_P (dC, dI) vwCl (ob_wx o cI cR cW u' S' ++ ob_w5 om am cI cZ m') H1 → va_D (fun q : Nat => s.heap.size ≤ q) (ob_wx o cI cR cW u' S' ++ ob_w5 om am cI cZ m') → va_S (fun q : Nat => s.heap.size ≤ q) s.heap H1 locs1 → W p l e room_1 s m #[Value.ref b] below meth c H1 locs1 (cells + 300) (slots + 2350) Q (F0 m 1335 ls [])) : W p l e room_1 s m #[Value.ref b] below meth c H locs cells slots Q (F0 m 1210 ls []) := by
  obtain ⟨hx, hb, -, -, hts, -⟩ := id C
  obtain ⟨r, S', m', hX, hM, hv⟩ := op_as (l := l) (dC := dC) (dI := dI) (cI := cI) (cZ := cZ) (cR := cR) (cW := cW) (X := X) (o := o) (om := om) (am := am) (xs (i + 1)) (xs (i + 2)) u S mm hiv
  refine lv_aload_n hx hb dL_law_1210 rfl (lv_at hl 1 rfl) ?_
  refine lw_arg (k := 1) C hS hl hi hL (by decide) rfl dL_law_1211 dL_law_1212 dL_law_1213 dL_law_1214 dL_law_1215 ?_
  refine lw_arg (k := 2) C hS hl hi hL (by decide) rfl dL_law_1216 dL_law_1217 dL_law_1218 dL_law_1219 dL_law_1220 ?_
  refine lw_x C hX (fun rm h1 h2 => cwV 2 hts gL_law_X4_as rfl rfl rfl (by decide +kernel) ⟨show rm.frames + 1 ≤ 2048 by omega, show 8 + (5 + 11) + rm.locals ≤ 84000 by omega⟩) hP hD hS hl rfl ⟨by omega, by omega⟩ rfl dL_law_1221 (fun u' H locs hP hD hS => ?_)
  refine lv_aload_n hx hb dL_law_1224 rfl (lv_at hl 2 rfl) ?_
  refine lw_arg (k := 1) C hS hl hi hL (by decide) rfl dL_law_1225 dL_law_1226 dL_law_1227 dL_law_1228 dL_law_1229 ?_
  refine lw_arg (k := 2) C hS hl hi hL (by decide) rfl dL_law_1230 dL_law_1231 dL_law_1232 dL_law_1233 dL_law_1234 ?_
  refine lw_m (rest := [.int r]) C hM (fun rm h1 h2 => cwV 2 hts gL_law_X5_as rfl rfl rfl (by decide +kernel) ⟨show rm.frames + 1 ≤ 2048 by omega, show 8 + (5 + 11) + rm.locals ≤ 84000 by omega⟩) hP hD hS hl rfl ⟨by omega, by omega⟩ (Nat.le_of_ble_eq_true rfl) rfl dL_law_1235 (fun H locs hP hD hS => ?_)
  refine lv_icmp_eq (tgt := 1335) hx hb dL_law_1238 (by decide) (fun _ => ?_) (fun hc => absurd rfl hc)
  exact W.widen (k := cells + 300) (n := slots + 2350) (by omega) (by omega) (kk u' S' m' H locs hv hP hD hS)
set_option maxHeartbeats 1000000 in
set_option maxRecDepth 20000 in
theorem lc_34 {p : Program} {l : Launch} {e : Env} {s : State} {m : MethodId} {below : List Frame} {meth : Method} {c : Code} {H : Heap} {locs : List Loc} {cells slots : Nat} {Q : State → Prop} {ls : Array Slot} {b L : Nat} {xs : Nat → Int32} {dC : Nat → ClassId} {dI : Nat → Nat → Nat} {cI cZ cR cW : ClassId} {X : Nat → Nat} {o om : Nat} {am : Nat → Nat} {u : ob_AX} {S : ob_SX} {mm : ob_B} {i : Nat} (C : lw_K p s m c b L xs (dC, dI) cI cZ cR cW X) (hiv : ob_iv S mm) (hP : va_P (dC, dI) vwCl (ob_wx o cI cR cW u S ++ ob_w5 om am cI cZ mm) H) (hD : va_D (fun q : Nat => s.heap.size ≤ q) (ob_wx o cI cR cW u S ++ ob_w5 om am cI cZ mm)) (hS : va_S (fun q : Nat => s.heap.size ≤ q) s.heap H locs) (hl : lv_has ls 4 [(0, .ref b), (1, .ref o), (2, .ref om), (3, .int (nI i))]) (hi : i + 6 ≤ L) (hL : L ≤ 384) (hcs : cells + 300 ≤ 600000 ∧ slots + 2350 ≤ 7302250)
    (kk : ∀ (u' : ob_AX) (S' : ob_SX) (m' : ob_B) (H1 : Heap) (locs1 : List Loc), ob_iv S' m' → va_P (dC, dI) vwCl (ob_wx o cI cR cW u' S' ++ ob_w5 om am cI cZ m') H1 → va_D (fun q : Nat => s.heap.size ≤ q) (ob_wx o cI cR cW u' S' ++ ob_w5 om am cI cZ m') → va_S (fun q : Nat => s.heap.size ≤ q) s.heap H1 locs1 → W p l e room_1 s m #[Value.ref b] below meth c H1 locs1 (cells + 300) (slots + 2350) Q (F0 m 1335 ls [])) : W p l e room_1 s m #[Value.ref b] below meth c H locs cells slots Q (F0 m 1243 ls []) := by
  obtain ⟨hx, hb, -, -, hts, -⟩ := id C
  obtain ⟨r, S', m', hX, hM, hv⟩ := op_ask (l := l) (dC := dC) (dI := dI) (cI := cI) (cZ := cZ) (cR := cR) (cW := cW) (X := X) (o := o) (om := om) (am := am) (xs (i + 1)) (xs (i + 2)) u S mm hiv
  refine lv_aload_n hx hb dL_law_1243 rfl (lv_at hl 1 rfl) ?_
  refine lw_arg (k := 1) C hS hl hi hL (by decide) rfl dL_law_1244 dL_law_1245 dL_law_1246 dL_law_1247 dL_law_1248 ?_
  refine lw_arg (k := 2) C hS hl hi hL (by decide) rfl dL_law_1249 dL_law_1250 dL_law_1251 dL_law_1252 dL_law_1253 ?_
  refine lw_x C hX (fun rm h1 h2 => cwV 2 hts gL_law_X4_ask rfl rfl rfl (by decide +kernel) ⟨show rm.frames + 1 ≤ 2048 by omega, show 8 + (3 + 11) + rm.locals ≤ 84000 by omega⟩) hP hD hS hl rfl ⟨by omega, by omega⟩ rfl dL_law_1254 (fun u' H locs hP hD hS => ?_)
  refine lv_aload_n hx hb dL_law_1257 rfl (lv_at hl 2 rfl) ?_
  refine lw_arg (k := 1) C hS hl hi hL (by decide) rfl dL_law_1258 dL_law_1259 dL_law_1260 dL_law_1261 dL_law_1262 ?_
  refine lw_arg (k := 2) C hS hl hi hL (by decide) rfl dL_law_1263 dL_law_1264 dL_law_1265 dL_law_1266 dL_law_1267 ?_
  refine lw_m (rest := [.int r]) C hM (fun rm h1 h2 => cwV 2 hts gL_law_X5_ask rfl rfl rfl (by decide +kernel) ⟨show rm.frames + 1 ≤ 2048 by omega, show 8 + (3 + 11) + rm.locals ≤ 84000 by omega⟩) hP hD hS hl rfl ⟨by omega, by omega⟩ (Nat.le_of_ble_eq_true rfl) rfl dL_law_1268 (fun H locs hP hD hS => ?_)
  refine lv_icmp_eq (tgt := 1335) hx hb dL_law_1271 (by decide) (fun _ => ?_) (fun hc => absurd rfl hc)
  exact W.widen (k := cells + 300) (n := slots + 2350) (by omega) (by omega) (kk u' S' m' H locs hv hP hD hS)
set_option maxHeartbeats 1000000 in
set_option maxRecDepth 20000 in
theorem lc_35 {p : Program} {l : Launch} {e : Env} {s : State} {m : MethodId} {below : List Frame} {meth : Method} {c : Code} {H : Heap} {locs : List Loc} {cells slots : Nat} {Q : State → Prop} {ls : Array Slot} {b L : Nat} {xs : Nat → Int32} {dC : Nat → ClassId} {dI : Nat → Nat → Nat} {cI cZ cR cW : ClassId} {X : Nat → Nat} {o om : Nat} {am : Nat → Nat} {u : ob_AX} {S : ob_SX} {mm : ob_B} {i : Nat} (C : lw_K p s m c b L xs (dC, dI) cI cZ cR cW X) (hiv : ob_iv S mm) (hP : va_P (dC, dI) vwCl (ob_wx o cI cR cW u S ++ ob_w5 om am cI cZ mm) H) (hD : va_D (fun q : Nat => s.heap.size ≤ q) (ob_wx o cI cR cW u S ++ ob_w5 om am cI cZ mm)) (hS : va_S (fun q : Nat => s.heap.size ≤ q) s.heap H locs) (hl : lv_has ls 4 [(0, .ref b), (1, .ref o), (2, .ref om), (3, .int (nI i))]) (hi : i + 6 ≤ L) (hL : L ≤ 384) (hcs : cells + 300 ≤ 600000 ∧ slots + 2350 ≤ 7302250)
    (kk : ∀ (u' : ob_AX) (S' : ob_SX) (m' : ob_B) (H1 : Heap) (locs1 : List Loc), ob_iv S' m' → va_P (dC, dI) vwCl (ob_wx o cI cR cW u' S' ++ ob_w5 om am cI cZ m') H1 → va_D (fun q : Nat => s.heap.size ≤ q) (ob_wx o cI cR cW u' S' ++ ob_w5 om am cI cZ m') → va_S (fun q : Nat => s.heap.size ≤ q) s.heap H1 locs1 → W p l e room_1 s m #[Value.ref b] below meth c H1 locs1 (cells + 300) (slots + 2350) Q (F0 m 1335 ls [])) : W p l e room_1 s m #[Value.ref b] below meth c H locs cells slots Q (F0 m 1276 ls []) := by
  obtain ⟨hx, hb, -, -, hts, -⟩ := id C
  obtain ⟨r, S', m', hX, hM, hv⟩ := op_trace (l := l) (dC := dC) (dI := dI) (cI := cI) (cZ := cZ) (cR := cR) (cW := cW) (X := X) (o := o) (om := om) (am := am) (xs (i + 1)) u S mm hiv
  refine lv_aload_n hx hb dL_law_1276 rfl (lv_at hl 1 rfl) ?_
  refine lw_arg (k := 1) C hS hl hi hL (by decide) rfl dL_law_1277 dL_law_1278 dL_law_1279 dL_law_1280 dL_law_1281 ?_
  refine lw_x C hX (fun rm h1 h2 => cwV 1 hts gL_law_X4_trace rfl rfl rfl (by decide +kernel) ⟨show rm.frames + 1 ≤ 2048 by omega, show 8 + (2 + 11) + rm.locals ≤ 84000 by omega⟩) hP hD hS hl rfl ⟨by omega, by omega⟩ rfl dL_law_1282 (fun u' H locs hP hD hS => ?_)
  refine lv_aload_n hx hb dL_law_1285 rfl (lv_at hl 2 rfl) ?_
  refine lw_arg (k := 1) C hS hl hi hL (by decide) rfl dL_law_1286 dL_law_1287 dL_law_1288 dL_law_1289 dL_law_1290 ?_
  refine lw_m (rest := [.int r]) C hM (fun rm h1 h2 => cwV 1 hts gL_law_X5_trace rfl rfl rfl (by decide +kernel) ⟨show rm.frames + 1 ≤ 2048 by omega, show 8 + (2 + 11) + rm.locals ≤ 84000 by omega⟩) hP hD hS hl rfl ⟨by omega, by omega⟩ (Nat.le_of_ble_eq_true rfl) rfl dL_law_1291 (fun H locs hP hD hS => ?_)
  refine lv_icmp_eq (tgt := 1335) hx hb dL_law_1294 (by decide) (fun _ => ?_) (fun hc => absurd rfl hc)
  exact W.widen (k := cells + 300) (n := slots + 2350) (by omega) (by omega) (kk u' S' m' H locs hv hP hD hS)
set_option maxHeartbeats 1000000 in
set_option maxRecDepth 20000 in
theorem lc_36 {p : Program} {l : Launch} {e : Env} {s : State} {m : MethodId} {below : List Frame} {meth : Method} {c : Code} {H : Heap} {locs : List Loc} {cells slots : Nat} {Q : State → Prop} {ls : Array Slot} {b L : Nat} {xs : Nat → Int32} {dC : Nat → ClassId} {dI : Nat → Nat → Nat} {cI cZ cR cW : ClassId} {X : Nat → Nat} {o om : Nat} {am : Nat → Nat} {u : ob_AX} {S : ob_SX} {mm : ob_B} {i : Nat} (C : lw_K p s m c b L xs (dC, dI) cI cZ cR cW X) (hiv : ob_iv S mm) (hP : va_P (dC, dI) vwCl (ob_wx o cI cR cW u S ++ ob_w5 om am cI cZ mm) H) (hD : va_D (fun q : Nat => s.heap.size ≤ q) (ob_wx o cI cR cW u S ++ ob_w5 om am cI cZ mm)) (hS : va_S (fun q : Nat => s.heap.size ≤ q) s.heap H locs) (hl : lv_has ls 4 [(0, .ref b), (1, .ref o), (2, .ref om), (3, .int (nI i))]) (hi : i + 6 ≤ L) (hL : L ≤ 384) (hcs : cells + 300 ≤ 600000 ∧ slots + 2350 ≤ 7302250)
    (kk : ∀ (u' : ob_AX) (S' : ob_SX) (m' : ob_B) (H1 : Heap) (locs1 : List Loc), ob_iv S' m' → va_P (dC, dI) vwCl (ob_wx o cI cR cW u' S' ++ ob_w5 om am cI cZ m') H1 → va_D (fun q : Nat => s.heap.size ≤ q) (ob_wx o cI cR cW u' S' ++ ob_w5 om am cI cZ m') → va_S (fun q : Nat => s.heap.size ≤ q) s.heap H1 locs1 → W p l e room_1 s m #[Value.ref b] below meth c H1 locs1 (cells + 300) (slots + 2350) Q (F0 m 1335 ls [])) : W p l e room_1 s m #[Value.ref b] below meth c H locs cells slots Q (F0 m 1299 ls []) := by
  obtain ⟨hx, hb, -, -, hts, -⟩ := id C
  obtain ⟨r, S', m', hX, hM, hv⟩ := op_count (l := l) (dC := dC) (dI := dI) (cI := cI) (cZ := cZ) (cR := cR) (cW := cW) (X := X) (o := o) (om := om) (am := am) (xs (i + 1)) u S mm hiv
  refine lv_aload_n hx hb dL_law_1299 rfl (lv_at hl 1 rfl) ?_
  refine lw_arg (k := 1) C hS hl hi hL (by decide) rfl dL_law_1300 dL_law_1301 dL_law_1302 dL_law_1303 dL_law_1304 ?_
  refine lw_x C hX (fun rm h1 h2 => cwV 1 hts gL_law_X4_count rfl rfl rfl (by decide +kernel) ⟨show rm.frames + 1 ≤ 2048 by omega, show 8 + (2 + 11) + rm.locals ≤ 84000 by omega⟩) hP hD hS hl rfl ⟨by omega, by omega⟩ rfl dL_law_1305 (fun u' H locs hP hD hS => ?_)
  refine lv_aload_n hx hb dL_law_1308 rfl (lv_at hl 2 rfl) ?_
  refine lw_arg (k := 1) C hS hl hi hL (by decide) rfl dL_law_1309 dL_law_1310 dL_law_1311 dL_law_1312 dL_law_1313 ?_
  refine lw_m (rest := [.int r]) C hM (fun rm h1 h2 => cwV 1 hts gL_law_X5_count rfl rfl rfl (by decide +kernel) ⟨show rm.frames + 1 ≤ 2048 by omega, show 8 + (4 + 11) + rm.locals ≤ 84000 by omega⟩) hP hD hS hl rfl ⟨by omega, by omega⟩ (Nat.le_of_ble_eq_true rfl) rfl dL_law_1314 (fun H locs hP hD hS => ?_)
  refine lv_icmp_eq (tgt := 1335) hx hb dL_law_1317 (by decide) (fun _ => ?_) (fun hc => absurd rfl hc)
  exact W.widen (k := cells + 300) (n := slots + 2350) (by omega) (by omega) (kk u' S' m' H locs hv hP hD hS)
set_option maxHeartbeats 1000000 in
set_option maxRecDepth 20000 in
theorem lc_37 {p : Program} {l : Launch} {e : Env} {s : State} {m : MethodId} {below : List Frame} {meth : Method} {c : Code} {H : Heap} {locs : List Loc} {cells slots : Nat} {Q : State → Prop} {ls : Array Slot} {b L : Nat} {xs : Nat → Int32} {dC : Nat → ClassId} {dI : Nat → Nat → Nat} {cI cZ cR cW : ClassId} {X : Nat → Nat} {o om : Nat} {am : Nat → Nat} {u : ob_AX} {S : ob_SX} {mm : ob_B} {i : Nat} (C : lw_K p s m c b L xs (dC, dI) cI cZ cR cW X) (hiv : ob_iv S mm) (hP : va_P (dC, dI) vwCl (ob_wx o cI cR cW u S ++ ob_w5 om am cI cZ mm) H) (hD : va_D (fun q : Nat => s.heap.size ≤ q) (ob_wx o cI cR cW u S ++ ob_w5 om am cI cZ mm)) (hS : va_S (fun q : Nat => s.heap.size ≤ q) s.heap H locs) (hl : lv_has ls 4 [(0, .ref b), (1, .ref o), (2, .ref om), (3, .int (nI i))]) (hi : i + 6 ≤ L) (hL : L ≤ 384) (hcs : cells + 300 ≤ 600000 ∧ slots + 2350 ≤ 7302250)
    (kk : ∀ (u' : ob_AX) (S' : ob_SX) (m' : ob_B) (H1 : Heap) (locs1 : List Loc), ob_iv S' m' → va_P (dC, dI) vwCl (ob_wx o cI cR cW u' S' ++ ob_w5 om am cI cZ m') H1 → va_D (fun q : Nat => s.heap.size ≤ q) (ob_wx o cI cR cW u' S' ++ ob_w5 om am cI cZ m') → va_S (fun q : Nat => s.heap.size ≤ q) s.heap H1 locs1 → W p l e room_1 s m #[Value.ref b] below meth c H1 locs1 (cells + 300) (slots + 2350) Q (F0 m 1335 ls [])) : W p l e room_1 s m #[Value.ref b] below meth c H locs cells slots Q (F0 m 1322 ls []) := by
  obtain ⟨hx, hb, -, -, hts, -⟩ := id C
  obtain ⟨r, S', m', hX, hM, hv⟩ := op_status (l := l) (dC := dC) (dI := dI) (cI := cI) (cZ := cZ) (cR := cR) (cW := cW) (X := X) (o := o) (om := om) (am := am)  u S mm hiv
  refine lv_aload_n hx hb dL_law_1322 rfl (lv_at hl 1 rfl) ?_
  refine lw_x C hX (fun rm h1 h2 => cwV 0 hts gL_law_X4_status rfl rfl rfl (by decide +kernel) ⟨show rm.frames + 1 ≤ 2048 by omega, show 8 + (1 + 11) + rm.locals ≤ 84000 by omega⟩) hP hD hS hl rfl ⟨by omega, by omega⟩ rfl dL_law_1323 (fun u' H locs hP hD hS => ?_)
  refine lv_aload_n hx hb dL_law_1326 rfl (lv_at hl 2 rfl) ?_
  refine lw_m (rest := [.int r]) C hM (fun rm h1 h2 => cwV 0 hts gL_law_X5_status rfl rfl rfl (by decide +kernel) ⟨show rm.frames + 1 ≤ 2048 by omega, show 8 + (1 + 11) + rm.locals ≤ 84000 by omega⟩) hP hD hS hl rfl ⟨by omega, by omega⟩ (Nat.le_of_ble_eq_true rfl) rfl dL_law_1327 (fun H locs hP hD hS => ?_)
  refine lv_icmp_eq (tgt := 1335) hx hb dL_law_1330 (by decide) (fun _ => ?_) (fun hc => absurd rfl hc)
  exact W.widen (k := cells + 300) (n := slots + 2350) (by omega) (by omega) (kk u' S' m' H locs hv hP hD hS)
