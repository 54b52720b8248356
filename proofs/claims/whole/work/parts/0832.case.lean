set_option maxHeartbeats 1000000 in
set_option maxRecDepth 20000 in
theorem lc_10 {p : Program} {l : Launch} {e : Env} {s : State} {m : MethodId} {below : List Frame} {meth : Method} {c : Code} {H : Heap} {locs : List Loc} {cells slots : Nat} {Q : State → Prop} {ls : Array Slot} {b L : Nat} {xs : Nat → Int32} {dC : Nat → ClassId} {dI : Nat → Nat → Nat} {cI cZ cR cW : ClassId} {X : Nat → Nat} {o om : Nat} {am : Nat → Nat} {u : ob_AX} {S : ob_SX} {mm : ob_B} {i : Nat} (C : lw_K p s m c b L xs (dC, dI) cI cZ cR cW X) (hiv : ob_iv S mm) (hP : va_P (dC, dI) vwCl (ob_wx o cI cR cW u S ++ ob_w5 om am cI cZ mm) H) (hD : va_D (fun q : Nat => s.heap.size ≤ q) (ob_wx o cI cR cW u S ++ ob_w5 om am cI cZ mm)) (hS : va_S (fun q : Nat => s.heap.size ≤ q) s.heap H locs) (hl : lv_has ls 4 [(0, .ref b), (1, .ref o), (2, .ref om), (3, .int (nI i))]) (hi : i + 6 ≤ L) (hL : L ≤ 384) (hcs : cells + 300 ≤ 600000 ∧ slots + 2350 ≤ 7302250)
    (kk : ∀ (u' : ob_AX) (S' : ob_SX) (m' : ob_B) (H1 : Heap) (locs1 : List Loc), ob_iv S' m' → va_P (dC, dI) vwCl (ob_wx o cI cR cW u' S' ++ ob_w5 om am cI cZ m') H1 → va_D (fun q : Nat => s.heap.size ≤ q) (ob_wx o cI cR cW u' S' ++ ob_w5 om am cI cZ m') → va_S (fun q : Nat => s.heap.size ≤ q) s.heap H1 locs1 → W p l e room_1 s m #[Value.ref b] below meth c H1 locs1 (cells + 300) (slots + 2350) Q (F0 m 1335 ls [])) : W p l e room_1 s m #[Value.ref b] below meth c H locs cells slots Q (F0 m 500 ls []) := by
  obtain ⟨hx, hb, -, -, hts, -⟩ := id C
  obtain ⟨r, S', m', hX, hM, hv⟩ := op_buy (l := l) (dC := dC) (dI := dI) (cI := cI) (cZ := cZ) (cR := cR) (cW := cW) (X := X) (o := o) (om := om) (am := am) (xs (i + 1)) u S mm hiv
  refine lv_aload_n hx hb dL_law_500 rfl (lv_at hl 1 rfl) ?_
  refine lw_arg (k := 1) C hS hl hi hL (by decide) rfl dL_law_501 dL_law_502 dL_law_503 dL_law_504 dL_law_505 ?_
  refine lw_x C hX (fun rm h1 h2 => cwV 1 hts gL_law_X4_buy rfl rfl rfl (by decide +kernel) ⟨show rm.frames + 1 ≤ 2048 by omega, show 8 + (2 + 11) + rm.locals ≤ 84000 by omega⟩) hP hD hS hl rfl ⟨by omega, by omega⟩ rfl dL_law_506 (fun u' H locs hP hD hS => ?_)
  refine lv_aload_n hx hb dL_law_509 rfl (lv_at hl 2 rfl) ?_
  refine lw_arg (k := 1) C hS hl hi hL (by decide) rfl dL_law_510 dL_law_511 dL_law_512 dL_law_513 dL_law_514 ?_
  refine lw_m (rest := [.int r]) C hM (fun rm h1 h2 => cwV 1 hts gL_law_X5_buy rfl rfl rfl (by decide +kernel) ⟨show rm.frames + 1 ≤ 2048 by omega, show 8 + (2 + 11) + rm.locals ≤ 84000 by omega⟩) hP hD hS hl rfl ⟨by omega, by omega⟩ (Nat.le_of_ble_eq_true rfl) rfl dL_law_515 (fun H locs hP hD hS => ?_)
  refine lv_icmp_eq (tgt := 1335) hx hb dL_law_518 (by decide) (fun _ => ?_) (fun hc => absurd rfl hc)
  exact W.widen (k := cells + 300) (n := slots + 2350) (by omega) (by omega) (kk u' S' m' H locs hv hP hD hS)
set_option maxHeartbeats 1000000 in
set_option maxRecDepth 20000 in
theorem lc_11 {p : Program} {l : Launch} {e : Env} {s : State} {m : MethodId} {below : List Frame} {meth : Method} {c : Code} {H : Heap} {locs : List Loc} {cells slots : Nat} {Q : State → Prop} {ls : Array Slot} {b L : Nat} {xs : Nat → Int32} {dC : Nat → ClassId} {dI : Nat → Nat → Nat} {cI cZ cR cW : ClassId} {X : Nat → Nat} {o om : Nat} {am : Nat → Nat} {u : ob_AX} {S : ob_SX} {mm : ob_B} {i : Nat} (C : lw_K p s m c b L xs (dC, dI) cI cZ cR cW X) (hiv : ob_iv S mm) (hP : va_P (dC, dI) vwCl (ob_wx o cI cR cW u S ++ ob_w5 om am cI cZ mm) H) (hD : va_D (fun q : Nat => s.heap.size ≤ q) (ob_wx o cI cR cW u S ++ ob_w5 om am cI cZ mm)) (hS : va_S (fun q : Nat => s.heap.size ≤ q) s.heap H locs) (hl : lv_has ls 4 [(0, .ref b), (1, .ref o), (2, .ref om), (3, .int (nI i))]) (hi : i + 6 ≤ L) (hL : L ≤ 384) (hcs : cells + 300 ≤ 600000 ∧ slots + 2350 ≤ 7302250)
    (kk : ∀ (u' : ob_AX) (S' : ob_SX) (m' : ob_B) (H1 : Heap) (locs1 : List Loc), ob_iv S' m' → va_P (dC, dI) vwCl (ob_wx o cI cR cW u' S' ++ ob_w5 om am cI cZ m') H1 → va_D (fun q : Nat => s.heap.size ≤ q) (ob_wx o cI cR cW u' S' ++ ob_w5 om am cI cZ m') → va_S (fun q : Nat => s.heap.size ≤ q) s.heap H1 locs1 → W p l e room_1 s m #[Value.ref b] below meth c H1 locs1 (cells + 300) (slots + 2350) Q (F0 m 1335 ls [])) : W p l e room_1 s m #[Value.ref b] below meth c H locs cells slots Q (F0 m 523 ls []) := by
  obtain ⟨hx, hb, -, -, hts, -⟩ := id C
  obtain ⟨r, S', m', hX, hM, hv⟩ := op_snow (l := l) (dC := dC) (dI := dI) (cI := cI) (cZ := cZ) (cR := cR) (cW := cW) (X := X) (o := o) (om := om) (am := am) (xs (i + 1)) (xs (i + 2)) u S mm hiv
  refine lv_aload_n hx hb dL_law_523 rfl (lv_at hl 1 rfl) ?_
  refine lw_arg (k := 1) C hS hl hi hL (by decide) rfl dL_law_524 dL_law_525 dL_law_526 dL_law_527 dL_law_528 ?_
  refine lw_arg (k := 2) C hS hl hi hL (by decide) rfl dL_law_529 dL_law_530 dL_law_531 dL_law_532 dL_law_533 ?_
  refine lw_x C hX (fun rm h1 h2 => cwV 2 hts gL_law_X4_snow rfl rfl rfl (by decide +kernel) ⟨show rm.frames + 1 ≤ 2048 by omega, show 8 + (3 + 11) + rm.locals ≤ 84000 by omega⟩) hP hD hS hl rfl ⟨by omega, by omega⟩ rfl dL_law_534 (fun u' H locs hP hD hS => ?_)
  refine lv_aload_n hx hb dL_law_537 rfl (lv_at hl 2 rfl) ?_
  refine lw_arg (k := 1) C hS hl hi hL (by decide) rfl dL_law_538 dL_law_539 dL_law_540 dL_law_541 dL_law_542 ?_
  refine lw_arg (k := 2) C hS hl hi hL (by decide) rfl dL_law_543 dL_law_544 dL_law_545 dL_law_546 dL_law_547 ?_
  refine lw_m (rest := [.int r]) C hM (fun rm h1 h2 => cwV 2 hts gL_law_X5_snow rfl rfl rfl (by decide +kernel) ⟨show rm.frames + 1 ≤ 2048 by omega, show 8 + (3 + 11) + rm.locals ≤ 84000 by omega⟩) hP hD hS hl rfl ⟨by omega, by omega⟩ (Nat.le_of_ble_eq_true rfl) rfl dL_law_548 (fun H locs hP hD hS => ?_)
  refine lv_icmp_eq (tgt := 1335) hx hb dL_law_551 (by decide) (fun _ => ?_) (fun hc => absurd rfl hc)
  exact W.widen (k := cells + 300) (n := slots + 2350) (by omega) (by omega) (kk u' S' m' H locs hv hP hD hS)
set_option maxHeartbeats 1000000 in
set_option maxRecDepth 20000 in
theorem lc_12 {p : Program} {l : Launch} {e : Env} {s : State} {m : MethodId} {below : List Frame} {meth : Method} {c : Code} {H : Heap} {locs : List Loc} {cells slots : Nat} {Q : State → Prop} {ls : Array Slot} {b L : Nat} {xs : Nat → Int32} {dC : Nat → ClassId} {dI : Nat → Nat → Nat} {cI cZ cR cW : ClassId} {X : Nat → Nat} {o om : Nat} {am : Nat → Nat} {u : ob_AX} {S : ob_SX} {mm : ob_B} {i : Nat} (C : lw_K p s m c b L xs (dC, dI) cI cZ cR cW X) (hiv : ob_iv S mm) (hP : va_P (dC, dI) vwCl (ob_wx o cI cR cW u S ++ ob_w5 om am cI cZ mm) H) (hD : va_D (fun q : Nat => s.heap.size ≤ q) (ob_wx o cI cR cW u S ++ ob_w5 om am cI cZ mm)) (hS : va_S (fun q : Nat => s.heap.size ≤ q) s.heap H locs) (hl : lv_has ls 4 [(0, .ref b), (1, .ref o), (2, .ref om), (3, .int (nI i))]) (hi : i + 6 ≤ L) (hL : L ≤ 384) (hcs : cells + 300 ≤ 600000 ∧ slots + 2350 ≤ 7302250)
    (kk : ∀ (u' : ob_AX) (S' : ob_SX) (m' : ob_B) (H1 : Heap) (locs1 : List Loc), ob_iv S' m' → va_P (dC, dI) vwCl (ob_wx o cI cR cW u' S' ++ ob_w5 om am cI cZ m') H1 → va_D (fun q : Nat => s.heap.size ≤ q) (ob_wx o cI cR cW u' S' ++ ob_w5 om am cI cZ m') → va_S (fun q : Nat => s.heap.size ≤ q) s.heap H1 locs1 → W p l e room_1 s m #[Value.ref b] below meth c H1 locs1 (cells + 300) (slots + 2350) Q (F0 m 1335 ls [])) : W p l e room_1 s m #[Value.ref b] below meth c H locs cells slots Q (F0 m 556 ls []) := by
  obtain ⟨hx, hb, -, -, hts, -⟩ := id C
  obtain ⟨r, S', m', hX, hM, hv⟩ := op_oath (l := l) (dC := dC) (dI := dI) (cI := cI) (cZ := cZ) (cR := cR) (cW := cW) (X := X) (o := o) (om := om) (am := am) (xs (i + 1)) (xs (i + 2)) u S mm hiv
  refine lv_aload_n hx hb dL_law_556 rfl (lv_at hl 1 rfl) ?_
  refine lw_arg (k := 1) C hS hl hi hL (by decide) rfl dL_law_557 dL_law_558 dL_law_559 dL_law_560 dL_law_561 ?_
  refine lw_arg (k := 2) C hS hl hi hL (by decide) rfl dL_law_562 dL_law_563 dL_law_564 dL_law_565 dL_law_566 ?_
  refine lw_x C hX (fun rm h1 h2 => cwV 2 hts gL_law_X4_oath rfl rfl rfl (by decide +kernel) ⟨show rm.frames + 1 ≤ 2048 by omega, show 8 + (3 + 11) + rm.locals ≤ 84000 by omega⟩) hP hD hS hl rfl ⟨by omega, by omega⟩ rfl dL_law_567 (fun u' H locs hP hD hS => ?_)
  refine lv_aload_n hx hb dL_law_570 rfl (lv_at hl 2 rfl) ?_
  refine lw_arg (k := 1) C hS hl hi hL (by decide) rfl dL_law_571 dL_law_572 dL_law_573 dL_law_574 dL_law_575 ?_
  refine lw_arg (k := 2) C hS hl hi hL (by decide) rfl dL_law_576 dL_law_577 dL_law_578 dL_law_579 dL_law_580 ?_
  refine lw_m (rest := [.int r]) C hM (fun rm h1 h2 => cwV 2 hts gL_law_X5_oath rfl rfl rfl (by decide +kernel) ⟨show rm.frames + 1 ≤ 2048 by omega, show 8 + (3 + 11) + rm.locals ≤ 84000 by omega⟩) hP hD hS hl rfl ⟨by omega, by omega⟩ (Nat.le_of_ble_eq_true rfl) rfl dL_law_581 (fun H locs hP hD hS => ?_)
  refine lv_icmp_eq (tgt := 1335) hx hb dL_law_584 (by decide) (fun _ => ?_) (fun hc => absurd rfl hc)
  exact W.widen (k := cells + 300) (n := slots + 2350) (by omega) (by omega) (kk u' S' m' H locs hv hP hD hS)
set_option maxHeartbeats 1000000 in
set_option maxRecDepth 20000 in
theorem lc_13 {p : Program} {l : Launch} {e : Env} {s : State} {m : MethodId} {below : List Frame} {meth : Method} {c : Code} {H : Heap} {locs : List Loc} {cells slots : Nat} {Q : State → Prop} {ls : Array Slot} {b L : Nat} {xs : Nat → Int32} {dC : Nat → ClassId} {dI : Nat → Nat → Nat} {cI cZ cR cW : ClassId} {X : Nat → Nat} {o om : Nat} {am : Nat → Nat} {u : ob_AX} {S : ob_SX} {mm : ob_B} {i : Nat} (C : lw_K p s m c b L xs (dC, dI) cI cZ cR cW X) (hiv : ob_iv S mm) (hP : va_P (dC, dI) vwCl (ob_wx o cI cR cW u S ++ ob_w5 om am cI cZ mm) H) (hD : va_D (fun q : Nat => s.heap.size ≤ q) (ob_wx o cI cR cW u S ++ ob_w5 om am cI cZ mm)) (hS : va_S (fun q : Nat => s.heap.size ≤ q) s.heap H locs) (hl : lv_has ls 4 [(0, .ref b), (1, .ref o), (2, .ref om), (3, .int (nI i))]) (hi : i + 6 ≤ L) (hL : L ≤ 384) (hcs : cells + 300 ≤ 600000 ∧ slots + 2350 ≤ 7302250)
    (kk : ∀ (u' : ob_AX) (S' : ob_SX) (m' : ob_B) (H1 : Heap) (locs1 : List Loc), ob_iv S' m' → va_P (dC, dI) vwCl (ob_wx o cI cR cW u' S' ++ ob_w5 om am cI cZ m') H1 → va_D (fun q : Nat => s.heap.size ≤ q) (ob_wx o cI cR cW u' S' ++ ob_w5 om am cI cZ m') → va_S (fun q : Nat => s.heap.size ≤ q) s.heap H1 locs1 → W p l e room_1 s m #[Value.ref b] below meth c H1 locs1 (cells + 300) (slots + 2350) Q (F0 m 1335 ls [])) : W p l e room_1 s m #[Value.ref b] below meth c H locs cells slots Q (F0 m 589 ls []) := by
  obtain ⟨hx, hb, -, -, hts, -⟩ := id C
  obtain ⟨r, S', m', hX, hM, hv⟩ := op_coach (l := l) (dC := dC) (dI := dI) (cI := cI) (cZ := cZ) (cR := cR) (cW := cW) (X := X) (o := o) (om := om) (am := am) (xs (i + 1)) u S mm hiv
  refine lv_aload_n hx hb dL_law_589 rfl (lv_at hl 1 rfl) ?_
  refine lw_arg (k := 1) C hS hl hi hL (by decide) rfl dL_law_590 dL_law_591 dL_law_592 dL_law_593 dL_law_594 ?_
  refine lw_x C hX (fun rm h1 h2 => cwV 1 hts gL_law_X4_coach rfl rfl rfl (by decide +kernel) ⟨show rm.frames + 1 ≤ 2048 by omega, show 8 + (2 + 11) + rm.locals ≤ 84000 by omega⟩) hP hD hS hl rfl ⟨by omega, by omega⟩ rfl dL_law_595 (fun u' H locs hP hD hS => ?_)
  refine lv_aload_n hx hb dL_law_598 rfl (lv_at hl 2 rfl) ?_
  refine lw_arg (k := 1) C hS hl hi hL (by decide) rfl dL_law_599 dL_law_600 dL_law_601 dL_law_602 dL_law_603 ?_
  refine lw_m (rest := [.int r]) C hM (fun rm h1 h2 => cwV 1 hts gL_law_X5_coach rfl rfl rfl (by decide +kernel) ⟨show rm.frames + 1 ≤ 2048 by omega, show 8 + (3 + 11) + rm.locals ≤ 84000 by omega⟩) hP hD hS hl rfl ⟨by omega, by omega⟩ (Nat.le_of_ble_eq_true rfl) rfl dL_law_604 (fun H locs hP hD hS => ?_)
  refine lv_icmp_eq (tgt := 1335) hx hb dL_law_607 (by decide) (fun _ => ?_) (fun hc => absurd rfl hc)
  exact W.widen (k := cells + 300) (n := slots + 2350) (by omega) (by omega) (kk u' S' m' H locs hv hP hD hS)
set_option maxHeartbeats 1000000 in
set_option maxRecDepth 20000 in
theorem lc_14 {p : Program} {l : Launch} {e : Env} {s : State} {m : MethodId} {below : List Frame} {meth : Method} {c : Code} {H : Heap} {locs : List Loc} {cells slots : Nat} {Q : State → Prop} {ls : Array Slot} {b L : Nat} {xs : Nat → Int32} {dC : Nat → ClassId} {dI : Nat → Nat → Nat} {cI cZ cR cW : ClassId} {X : Nat → Nat} {o om : Nat} {am : Nat → Nat} {u : ob_AX} {S : ob_SX} {mm : ob_B} {i : Nat} (C : lw_K p s m c b L xs (dC, dI) cI cZ cR cW X) (hiv : ob_iv S mm) (hP : va_P (dC, dI) vwCl (ob_wx o cI cR cW u S ++ ob_w5 om am cI cZ mm) H) (hD : va_D (fun q : Nat => s.heap.size ≤ q) (ob_wx o cI cR cW u S ++ ob_w5 om am cI cZ mm)) (hS : va_S (fun q : Nat => s.heap.size ≤ q) s.heap H locs) (hl : lv_has ls 4 [(0, .ref b), (1, .ref o), (2, .ref om), (3, .int (nI i))]) (hi : i + 6 ≤ L) (hL : L ≤ 384) (hcs : cells + 300 ≤ 600000 ∧ slots + 2350 ≤ 7302250)
    (kk : ∀ (u' : ob_AX) (S' : ob_SX) (m' : ob_B) (H1 : Heap) (locs1 : List Loc), ob_iv S' m' → va_P (dC, dI) vwCl (ob_wx o cI cR cW u' S' ++ ob_w5 om am cI cZ m') H1 → va_D (fun q : Nat => s.heap.size ≤ q) (ob_wx o cI cR cW u' S' ++ ob_w5 om am cI cZ m') → va_S (fun q : Nat => s.heap.size ≤ q) s.heap H1 locs1 → W p l e room_1 s m #[Value.ref b] below meth c H1 locs1 (cells + 300) (slots + 2350) Q (F0 m 1335 ls [])) : W p l e room_1 s m #[Value.ref b] below meth c H locs cells slots Q (F0 m 612 ls []) := by
  obtain ⟨hx, hb, -, -, hts, -⟩ := id C
  obtain ⟨r, S', m', hX, hM, hv⟩ := op_ahead (l := l) (dC := dC) (dI := dI) (cI := cI) (cZ := cZ) (cR := cR) (cW := cW) (X := X) (o := o) (om := om) (am := am) (xs (i + 1)) u S mm hiv
  refine lv_aload_n hx hb dL_law_612 rfl (lv_at hl 1 rfl) ?_
  refine lw_arg (k := 1) C hS hl hi hL (by decide) rfl dL_law_613 dL_law_614 dL_law_615 dL_law_616 dL_law_617 ?_
  refine lw_x C hX (fun rm h1 h2 => cwV 1 hts gL_law_X4_ahead rfl rfl rfl (by decide +kernel) ⟨show rm.frames + 1 ≤ 2048 by omega, show 8 + (2 + 11) + rm.locals ≤ 84000 by omega⟩) hP hD hS hl rfl ⟨by omega, by omega⟩ rfl dL_law_618 (fun u' H locs hP hD hS => ?_)
  refine lv_aload_n hx hb dL_law_621 rfl (lv_at hl 2 rfl) ?_
  refine lw_arg (k := 1) C hS hl hi hL (by decide) rfl dL_law_622 dL_law_623 dL_law_624 dL_law_625 dL_law_626 ?_
  refine lw_m (rest := [.int r]) C hM (fun rm h1 h2 => cwV 1 hts gL_law_X5_ahead rfl rfl rfl (by decide +kernel) ⟨show rm.frames + 1 ≤ 2048 by omega, show 8 + (2 + 11) + rm.locals ≤ 84000 by omega⟩) hP hD hS hl rfl ⟨by omega, by omega⟩ (Nat.le_of_ble_eq_true rfl) rfl dL_law_627 (fun H locs hP hD hS => ?_)
  refine lv_icmp_eq (tgt := 1335) hx hb dL_law_630 (by decide) (fun _ => ?_) (fun hc => absurd rfl hc)
  exact W.widen (k := cells + 300) (n := slots + 2350) (by omega) (by omega) (kk u' S' m' H locs hv hP hD hS)
set_option maxHeartbeats 1000000 in
set_option maxRecDepth 20000 in
theorem lc_15 {p : Program} {l : Launch} {e : Env} {s : State} {m : MethodId} {below : List Frame} {meth : Method} {c : Code} {H : Heap} {locs : List Loc} {cells slots : Nat} {Q : State → Prop} {ls : Array Slot} {b L : Nat} {xs : Nat → Int32} {dC : Nat → ClassId} {dI : Nat → Nat → Nat} {cI cZ cR cW : ClassId} {X : Nat → Nat} {o om : Nat} {am : Nat → Nat} {u : ob_AX} {S : ob_SX} {mm : ob_B} {i : Nat} (C : lw_K p s m c b L xs (dC, dI) cI cZ cR cW X) (hiv : ob_iv S mm) (hP : va_P (dC, dI) vwCl (ob_wx o cI cR cW u S ++ ob_w5 om am cI cZ mm) H) (hD : va_D (fun q : Nat => s.heap.size ≤ q) (ob_wx o cI cR cW u S ++ ob_w5 om am cI cZ mm)) (hS : va_S (fun q : Nat => s.heap.size ≤ q) s.heap H locs) (hl : lv_has ls 4 [(0, .ref b), (1, .ref o), (2, .ref om), (3, .int (nI i))]) (hi : i + 6 ≤ L) (hL : L ≤ 384) (hcs : cells + 300 ≤ 600000 ∧ slots + 2350 ≤ 7302250)
    (kk : ∀ (u' : ob_AX) (S' : ob_SX) (m' : ob_B) (H1 : Heap) (locs1 : List Loc), ob_iv S' m' → va_P (dC, dI) vwCl (ob_wx o cI cR cW u' S' ++ ob_w5 om am cI cZ m') H1 → va_D (fun q : Nat => s.heap.size ≤ q) (ob_wx o cI cR cW u' S' ++ ob_w5 om am cI cZ m') → va_S (fun q : Nat => s.heap.size ≤ q) s.heap H1 locs1 → W p l e room_1 s m #[Value.ref b] below meth c H1 locs1 (cells + 300) (slots + 2350) Q (F0 m 1335 ls [])) : W p l e room_1 s m #[Value.ref b] below meth c H locs cells slots Q (F0 m 635 ls []) := by
  obtain ⟨hx, hb, -, -, hts, -⟩ := id C
  obtain ⟨r, S', m', hX, hM, hv⟩ := op_comesTo (l := l) (dC := dC) (dI := dI) (cI := cI) (cZ := cZ) (cR := cR) (cW := cW) (X := X) (o := o) (om := om) (am := am) (xs (i + 1)) (xs (i + 2)) u S mm hiv
  refine lv_aload_n hx hb dL_law_635 rfl (lv_at hl 1 rfl) ?_
  refine lw_arg (k := 1) C hS hl hi hL (by decide) rfl dL_law_636 dL_law_637 dL_law_638 dL_law_639 dL_law_640 ?_
  refine lw_arg (k := 2) C hS hl hi hL (by decide) rfl dL_law_641 dL_law_642 dL_law_643 dL_law_644 dL_law_645 ?_
  refine lw_x C hX (fun rm h1 h2 => cwV 2 hts gL_law_X4_comesTo rfl rfl rfl (by decide +kernel) ⟨show rm.frames + 1 ≤ 2048 by omega, show 8 + (3 + 11) + rm.locals ≤ 84000 by omega⟩) hP hD hS hl rfl ⟨by omega, by omega⟩ rfl dL_law_646 (fun u' H locs hP hD hS => ?_)
  refine lv_aload_n hx hb dL_law_649 rfl (lv_at hl 2 rfl) ?_
  refine lw_arg (k := 1) C hS hl hi hL (by decide) rfl dL_law_650 dL_law_651 dL_law_652 dL_law_653 dL_law_654 ?_
  refine lw_arg (k := 2) C hS hl hi hL (by decide) rfl dL_law_655 dL_law_656 dL_law_657 dL_law_658 dL_law_659 ?_
  refine lw_m (rest := [.int r]) C hM (fun rm h1 h2 => cwV 2 hts gL_law_X5_comesTo rfl rfl rfl (by decide +kernel) ⟨show rm.frames + 1 ≤ 2048 by omega, show 8 + (3 + 11) + rm.locals ≤ 84000 by omega⟩) hP hD hS hl rfl ⟨by omega, by omega⟩ (Nat.le_of_ble_eq_true rfl) rfl dL_law_660 (fun H locs hP hD hS => ?_)
  refine lv_icmp_eq (tgt := 1335) hx hb dL_law_663 (by decide) (fun _ => ?_) (fun hc => absurd rfl hc)
  exact W.widen (k := cells + 300) (n := slots + 2350) (by omega) (by omega) (kk u' S' m' H locs hv hP hD hS)
set_option maxHeartbeats 1000000 in
set_option maxRecDepth 20000 in
theorem lc_16 {p : Program} {l : Launch} {e : Env} {s : State} {m : MethodId} {below : List Frame} {meth : Method} {c : Code} {H : Heap} {locs : List Loc} {cells slots : Nat} {Q : State → Prop} {ls : Array Slot} {b L : Nat} {xs : Nat → Int32} {dC : Nat → ClassId} {dI : Nat → Nat → Nat} {cI cZ cR cW : ClassId} {X : Nat → Nat} {o om : Nat} {am : Nat → Nat} {u : ob_AX} {S : ob_SX} {mm : ob_B} {i : Nat} (C : lw_K p s m c b L xs (dC, dI) cI cZ cR cW X) (hiv : ob_iv S mm) (hP : va_P (dC, dI) vwCl (ob_wx o cI cR cW u S ++ ob_w5 om am cI cZ mm) H) (hD : va_D (fun q : Nat => s.heap.size ≤ q) (ob_wx o cI cR cW u S ++ ob_w5 om am cI cZ mm)) (hS : va_S (fun q : Nat => s.heap.size ≤ q) s.heap H locs) (hl : lv_has ls 4 [(0, .ref b), (1, .ref o), (2, .ref om), (3, .int (nI i))]) (hi : i + 6 ≤ L) (hL : L ≤ 384) (hcs : cells + 300 ≤ 600000 ∧ slots + 2350 ≤ 7302250)
    (kk : ∀ (u' : ob_AX) (S' : ob_SX) (m' : ob_B) (H1 : Heap) (locs1 : List Loc), ob_iv S' m' → va_P (dC, dI) vwCl (ob_wx o cI cR cW u' S' ++ ob_w5 om am cI cZ m') H1 → va_D (fun q : Nat => s.heap.size ≤ q) (ob_wx o cI cR cW u' S' ++ ob_w5 om am cI cZ m') → va_S (fun q : Nat => s.heap.size ≤ q) s.heap H1 locs1 → W p l e room_1 s m #[Value.ref b] below meth c H1 locs1 (cells + 300) (slots + 2350) Q (F0 m 1335 ls [])) : W p l e room_1 s m #[Value.ref b] below meth c H locs cells slots Q (F0 m 668 ls []) := by
  obtain ⟨hx, hb, -, -, hts, -⟩ := id C
  obtain ⟨r, S', m', hX, hM, hv⟩ := op_kept (l := l) (dC := dC) (dI := dI) (cI := cI) (cZ := cZ) (cR := cR) (cW := cW) (X := X) (o := o) (om := om) (am := am) (xs (i + 1)) u S mm hiv
  refine lv_aload_n hx hb dL_law_668 rfl (lv_at hl 1 rfl) ?_
  refine lw_arg (k := 1) C hS hl hi hL (by decide) rfl dL_law_669 dL_law_670 dL_law_671 dL_law_672 dL_law_673 ?_
  refine lw_x C hX (fun rm h1 h2 => cwV 1 hts gL_law_X4_kept rfl rfl rfl (by decide +kernel) ⟨show rm.frames + 1 ≤ 2048 by omega, show 8 + (3 + 11) + rm.locals ≤ 84000 by omega⟩) hP hD hS hl rfl ⟨by omega, by omega⟩ rfl dL_law_674 (fun u' H locs hP hD hS => ?_)
  refine lv_aload_n hx hb dL_law_677 rfl (lv_at hl 2 rfl) ?_
  refine lw_arg (k := 1) C hS hl hi hL (by decide) rfl dL_law_678 dL_law_679 dL_law_680 dL_law_681 dL_law_682 ?_
  refine lw_m (rest := [.int r]) C hM (fun rm h1 h2 => cwV 1 hts gL_law_X5_kept rfl rfl rfl (by decide +kernel) ⟨show rm.frames + 1 ≤ 2048 by omega, show 8 + (3 + 11) + rm.locals ≤ 84000 by omega⟩) hP hD hS hl rfl ⟨by omega, by omega⟩ (Nat.le_of_ble_eq_true rfl) rfl dL_law_683 (fun H locs hP hD hS => ?_)
  refine lv_icmp_eq (tgt := 1335) hx hb dL_law_686 (by decide) (fun _ => ?_) (fun hc => absurd rfl hc)
  exact W.widen (k := cells + 300) (n := slots + 2350) (by omega) (by omega) (kk u' S' m' H locs hv hP hD hS)
set_option maxHeartbeats 1000000 in
set_option maxRecDepth 20000 in
theorem lc_17 {p : Program} {l : Launch} {e : Env} {s : State} {m : MethodId} {below : List Frame} {meth : Method} {c : Code} {H : Heap} {locs : List Loc} {cells slots : Nat} {Q : State → Prop} {ls : Array Slot} {b L : Nat} {xs : Nat → Int32} {dC : Nat → ClassId} {dI : Nat → Nat → Nat} {cI cZ cR cW : ClassId} {X : Nat → Nat} {o om : Nat} {am : Nat → Nat} {u : ob_AX} {S : ob_SX} {mm : ob_B} {i : Nat} (C : lw_K p s m c b L xs (dC, dI) cI cZ cR cW X) (hiv : ob_iv S mm) (hP : va_P (dC, dI) vwCl (ob_wx o cI cR cW u S ++ ob_w5 om am cI cZ mm) H) (hD : va_D (fun q : Nat => s.heap.size ≤ q) (ob_wx o cI cR cW u S ++ ob_w5 om am cI cZ mm)) (hS : va_S (fun q : Nat => s.heap.size ≤ q) s.heap H locs) (hl : lv_has ls 4 [(0, .ref b), (1, .ref o), (2, .ref om), (3, .int (nI i))]) (hi : i + 6 ≤ L) (hL : L ≤ 384) (hcs : cells + 300 ≤ 600000 ∧ slots + 2350 ≤ 7302250)
    (kk : ∀ (u' : ob_AX) (S' : ob_SX) (m' : ob_B) (H1 : Heap) (locs1 : List Loc), ob_iv S' m' → va_P (dC, dI) vwCl (ob_wx o cI cR cW u' S' ++ ob_w5 om am cI cZ m') H1 → va_D (fun q : Nat => s.heap.size ≤ q) (ob_wx o cI cR cW u' S' ++ ob_w5 om am cI cZ m') → va_S (fun q : Nat => s.heap.size ≤ q) s.heap H1 locs1 → W p l e room_1 s m #[Value.ref b] below meth c H1 locs1 (cells + 300) (slots + 2350) Q (F0 m 1335 ls [])) : W p l e room_1 s m #[Value.ref b] below meth c H locs cells slots Q (F0 m 691 ls []) := by
  obtain ⟨hx, hb, -, -, hts, -⟩ := id C
  obtain ⟨r, S', m', hX, hM, hv⟩ := op_past (l := l) (dC := dC) (dI := dI) (cI := cI) (cZ := cZ) (cR := cR) (cW := cW) (X := X) (o := o) (om := om) (am := am) (xs (i + 1)) u S mm hiv
  refine lv_aload_n hx hb dL_law_691 rfl (lv_at hl 1 rfl) ?_
  refine lw_arg (k := 1) C hS hl hi hL (by decide) rfl dL_law_692 dL_law_693 dL_law_694 dL_law_695 dL_law_696 ?_
  refine lw_x C hX (fun rm h1 h2 => cwV 1 hts gL_law_X4_past rfl rfl rfl (by decide +kernel) ⟨show rm.frames + 1 ≤ 2048 by omega, show 8 + (3 + 11) + rm.locals ≤ 84000 by omega⟩) hP hD hS hl rfl ⟨by omega, by omega⟩ rfl dL_law_697 (fun u' H locs hP hD hS => ?_)
  refine lv_aload_n hx hb dL_law_700 rfl (lv_at hl 2 rfl) ?_
  refine lw_arg (k := 1) C hS hl hi hL (by decide) rfl dL_law_701 dL_law_702 dL_law_703 dL_law_704 dL_law_705 ?_
  refine lw_m (rest := [.int r]) C hM (fun rm h1 h2 => cwV 1 hts gL_law_X5_past rfl rfl rfl (by decide +kernel) ⟨show rm.frames + 1 ≤ 2048 by omega, show 8 + (3 + 11) + rm.locals ≤ 84000 by omega⟩) hP hD hS hl rfl ⟨by omega, by omega⟩ (Nat.le_of_ble_eq_true rfl) rfl dL_law_706 (fun H locs hP hD hS => ?_)
  refine lv_icmp_eq (tgt := 1335) hx hb dL_law_709 (by decide) (fun _ => ?_) (fun hc => absurd rfl hc)
  exact W.widen (k := cells + 300) (n := slots + 2350) (by omega) (by omega) (kk u' S' m' H locs hv hP hD hS)
set_option maxHeartbeats 1000000 in
set_option maxRecDepth 20000 in
theorem lc_18 {p : Program} {l : Launch} {e : Env} {s : State} {m : MethodId} {below : List Frame} {meth : Method} {c : Code} {H : Heap} {locs : List Loc} {cells slots : Nat} {Q : State → Prop} {ls : Array Slot} {b L : Nat} {xs : Nat → Int32} {dC : Nat → ClassId} {dI : Nat → Nat → Nat} {cI cZ cR cW : ClassId} {X : Nat → Nat} {o om : Nat} {am : Nat → Nat} {u : ob_AX} {S : ob_SX} {mm : ob_B} {i : Nat} (C : lw_K p s m c b L xs (dC, dI) cI cZ cR cW X) (hiv : ob_iv S mm) (hP : va_P (dC, dI) vwCl (ob_wx o cI cR cW u S ++ ob_w5 om am cI cZ mm) H) (hD : va_D (fun q : Nat => s.heap.size ≤ q) (ob_wx o cI cR cW u S ++ ob_w5 om am cI cZ mm)) (hS : va_S (fun q : Nat => s.heap.size ≤ q) s.heap H locs) (hl : lv_has ls 4 [(0, .ref b), (1, .ref o), (2, .ref om), (3, .int (nI i))]) (hi : i + 6 ≤ L) (hL : L ≤ 384) (hcs : cells + 300 ≤ 600000 ∧ slots + 2350 ≤ 7302250)
    (kk : ∀ (u' : ob_AX) (S' : ob_SX) (m' : ob_B) (H1 : Heap) (locs1 : List Loc), ob_iv S' m' → va_P (dC, dI) vwCl (ob_wx o cI cR cW u' S' ++ ob_w5 om am cI cZ m') H1 → va_D (fun q : Nat => s.heap.size ≤ q) (ob_wx o cI cR cW u' S' ++ ob_w5 om am cI cZ m') → va_S (fun q : Nat => s.heap.size ≤ q) s.heap H1 locs1 → W p l e room_1 s m #[Value.ref b] below meth c H1 locs1 (cells + 300) (slots + 2350) Q (F0 m 1335 ls [])) : W p l e room_1 s m #[Value.ref b] below meth c H locs cells slots Q (F0 m 714 ls []) := by
  obtain ⟨hx, hb, -, -, hts, -⟩ := id C
  obtain ⟨r, S', m', hX, hM, hv⟩ := op_visits (l := l) (dC := dC) (dI := dI) (cI := cI) (cZ := cZ) (cR := cR) (cW := cW) (X := X) (o := o) (om := om) (am := am) (xs (i + 1)) u S mm hiv
  refine lv_aload_n hx hb dL_law_714 rfl (lv_at hl 1 rfl) ?_
  refine lw_arg (k := 1) C hS hl hi hL (by decide) rfl dL_law_715 dL_law_716 dL_law_717 dL_law_718 dL_law_719 ?_
  refine lw_x C hX (fun rm h1 h2 => cwV 1 hts gL_law_X4_visits rfl rfl rfl (by decide +kernel) ⟨show rm.frames + 1 ≤ 2048 by omega, show 8 + (4 + 11) + rm.locals ≤ 84000 by omega⟩) hP hD hS hl rfl ⟨by omega, by omega⟩ rfl dL_law_720 (fun u' H locs hP hD hS => ?_)
  refine lv_aload_n hx hb dL_law_723 rfl (lv_at hl 2 rfl) ?_
  refine lw_arg (k := 1) C hS hl hi hL (by decide) rfl dL_law_724 dL_law_725 dL_law_726 dL_law_727 dL_law_728 ?_
  refine lw_m (rest := [.int r]) C hM (fun rm h1 h2 => cwV 1 hts gL_law_X5_visits rfl rfl rfl (by decide +kernel) ⟨show rm.frames + 1 ≤ 2048 by omega, show 8 + (4 + 11) + rm.locals ≤ 84000 by omega⟩) hP hD hS hl rfl ⟨by omega, by omega⟩ (Nat.le_of_ble_eq_true rfl) rfl dL_law_729 (fun H locs hP hD hS => ?_)
  refine lv_icmp_eq (tgt := 1335) hx hb dL_law_732 (by decide) (fun _ => ?_) (fun hc => absurd rfl hc)
  exact W.widen (k := cells + 300) (n := slots + 2350) (by omega) (by omega) (kk u' S' m' H locs hv hP hD hS)
set_option maxHeartbeats 1000000 in
set_option maxRecDepth 20000 in
theorem lc_19 {p : Program} {l : Launch} {e : Env} {s : State} {m : MethodId} {below : List Frame} {meth : Method} {c : Code} {H : Heap} {locs : List Loc} {cells slots : Nat} {Q : State → Prop} {ls : Array Slot} {b L : Nat} {xs : Nat → Int32} {dC : Nat → ClassId} {dI : Nat → Nat → Nat} {cI cZ cR cW : ClassId} {X : Nat → Nat} {o om : Nat} {am : Nat → Nat} {u : ob_AX} {S : ob_SX} {mm : ob_B} {i : Nat} (C : lw_K p s m c b L xs (dC, dI) cI cZ cR cW X) (hiv : ob_iv S mm) (hP : va_P (dC, dI) vwCl (ob_wx o cI cR cW u S ++ ob_w5 om am cI cZ mm) H) (hD : va_D (fun q : Nat => s.heap.size ≤ q) (ob_wx o cI cR cW u S ++ ob_w5 om am cI cZ mm)) (hS : va_S (fun q : Nat => s.heap.size ≤ q) s.heap H locs) (hl : lv_has ls 4 [(0, .ref b), (1, .ref o), (2, .ref om), (3, .int (nI i))]) (hi : i + 6 ≤ L) (hL : L ≤ 384) (hcs : cells + 300 ≤ 600000 ∧ slots + 2350 ≤ 7302250)
    (kk : ∀ (u' : ob_AX) (S' : ob_SX) (m' : ob_B) (H1 : Heap) (locs1 : List Loc), ob_iv S' m' → va_P (dC, dI) vwCl (ob_wx o cI cR cW u' S' ++ ob_w5 om am cI cZ m') H1 → va_D (fun q : Nat => s.heap.size ≤ q) (ob_wx o cI cR cW u' S' ++ ob_w5 om am cI cZ m') → va_S (fun q : Nat => s.heap.size ≤ q) s.heap H1 locs1 → W p l e room_1 s m #[Value.ref b] below meth c H1 locs1 (cells + 300) (slots + 2350) Q (F0 m 1335 ls [])) : W p l e room_1 s m #[Value.ref b] below meth c H locs cells slots Q (F0 m 737 ls []) := by
  obtain ⟨hx, hb, -, -, hts, -⟩ := id C
  obtain ⟨r, S', m', hX, hM, hv⟩ := op_rest (l := l) (dC := dC) (dI := dI) (cI := cI) (cZ := cZ) (cR := cR) (cW := cW) (X := X) (o := o) (om := om) (am := am)  u S mm hiv
  refine lv_aload_n hx hb dL_law_737 rfl (lv_at hl 1 rfl) ?_
  refine lw_x C hX (fun rm h1 h2 => cwV 0 hts gL_law_X4_rest rfl rfl rfl (by decide +kernel) ⟨show rm.frames + 1 ≤ 2048 by omega, show 8 + (4 + 11) + rm.locals ≤ 84000 by omega⟩) hP hD hS hl rfl ⟨by omega, by omega⟩ rfl dL_law_738 (fun u' H locs hP hD hS => ?_)
  refine lv_aload_n hx hb dL_law_741 rfl (lv_at hl 2 rfl) ?_
  refine lw_m (rest := [.int r]) C hM (fun rm h1 h2 => cwV 0 hts gL_law_X5_rest rfl rfl rfl (by decide +kernel) ⟨show rm.frames + 1 ≤ 2048 by omega, show 8 + (4 + 11) + rm.locals ≤ 84000 by omega⟩) hP hD hS hl rfl ⟨by omega, by omega⟩ (Nat.le_of_ble_eq_true rfl) rfl dL_law_742 (fun H locs hP hD hS => ?_)
  refine lv_icmp_eq (tgt := 1335) hx hb dL_law_745 (by decide) (fun _ => ?_) (fun hc => absurd rfl hc)
  exact W.widen (k := cells + 300) (n := slots + 2350) (by omega) (by omega) (kk u' S' m' H locs hv hP hD hS)
