def fd_X4_route  (b : ob_B) (q : ob_B) (y : ob_B) (t : ob_B) (h : ob_B)  : Option (Int32 × ob_B × ob_B × ob_B × ob_B × ob_B) := ob_b3 (fd_X3_readInto q t) (fun r_1 q_2 t_3 => ob_lt (q_2.1 2 : Int32) (fun x_4 => ob_lt (ob_I q_2 1 0 : ob_B) (fun q_5 => if r_1 = 0 then (ob_b1 (fd_X1_become y t_3) (fun y_6 => ob_b1 (fd_X0_forgetAll h) (fun h_7 => some (y_6.1 4, b, q_5, y_6, t_3, h_7)))) else (ob_lt (ob_I b 8 r_1 : ob_B) (fun b_8 => some ((-1000100) - x_4, b_8, q_5, y, t_3, h))))))
set_option maxHeartbeats 4000000 in
set_option maxRecDepth 100000 in
theorem mt_X4_route (l : Launch) (dC : Nat → ClassId) (dI : Nat → Nat → Nat) (cI cZ cR cW : ClassId) (xs : Nat → Nat) (sz : Nat) (o_b : Nat) (a_b : Nat → Nat) (a_q : Nat → Nat) (a_y : Nat → Nat) (a_t : Nat → Nat) (a_h : Nat → Nat) (b : ob_B) (q : ob_B) (y : ob_B) (t : ob_B) (h : ob_B)   (rr : Int32) (b' : ob_B) (q' : ob_B) (y' : ob_B) (t' : ob_B) (h' : ob_B) (hd : fd_X4_route b q y t h = some (rr, b', q', y', t', h')) : ob_M l yX4_route wsX4_route ({ frames := 7, cells := 0, slots := 0, locals := 161 } : Room) (dC, dI) (ob_ty cI cZ cR cW) xs [.ref o_b] (ob_w4 o_b a_b cI b ++ ob_w3 (a_b 1) a_q cI q ++ ob_w1 (a_b 2) a_y cI y ++ ob_w1 (a_b 3) a_t cI t ++ ob_w0 (a_b 4) a_h h) sz (ob_Qi (dC, dI) rr (ob_w4 o_b a_b cI b' ++ ob_w3 (a_b 1) a_q cI q' ++ ob_w1 (a_b 2) a_y cI y' ++ ob_w1 (a_b 3) a_t cI t' ++ ob_w0 (a_b 4) a_h h')) := by
  rw [fd_X4_route] at hd
  refine ob_in (cc := cX4_route) (maxL := 3) (ret := (some .int)) (own := RX4) (by decide) rfl rfl [(0, .ref o_b)] rfl (Nat.le_of_ble_eq_true rfl) ?_
  intro p e s m below meth c hx hb hr hml hown hts hlocks hnm hK A hA hE hP hD hS ls hl
  have kw0 := hts (.fieldLink RX4 18 "OathCoach" "tape" "LOathCoach$Tape;") (by decide +kernel)
  have kw1 := hts (.fieldLink RX4 29 "OathCoach" "trial" "LOathCoach$Route;") (by decide +kernel)
  have kw2 := hts (.fieldLink RX4 119 "OathCoach$Tape" "at" "I") (by decide +kernel)
  have kw3 := hts (.fieldLink RX4 114 "OathCoach$Tape" "size" "I") (by decide +kernel)
  have kw4 := hts (.fieldLink RX4 25 "OathCoach" "route" "LOathCoach$Route;") (by decide +kernel)
  have kw5 := hts (.fieldLink RX4 35 "OathCoach" "history" "LOathCoach$History;") (by decide +kernel)
  have kw6 := hts (.fieldLink RX4 130 "OathCoach$Route" "oaths" "I") (by decide +kernel)
  have kw7 := hts (.fieldLink RX4 51 "OathCoach" "latestFault" "I") (by decide +kernel)
  have kw8 := hts (.constant RX4 122 (-1000100)) (by decide +kernel)
  have hi_X1 : ∀ w ∈ u_ws RX1 TX1 12, w ∈ wsX4_route := by decide +kernel
  have hi_X3 : ∀ w ∈ u_ws RX3 TX3 4, w ∈ wsX4_route := by decide +kernel
  have hi_X4 : ∀ w ∈ u_ws RX4 TX4 10, w ∈ wsX4_route := by decide +kernel
  refine lv_aload_n hx hb dX4_route_0 rfl (lv_at hl 0 rfl) ?_
  refine va_get (D := (dC, dI)) (ci := 4) (v := .ref (a_b 1)) (C := RX4) (T := TX4) (N := 10) hx hb hts hi_X4 hown hK hP 0 rfl rfl 1 (by decide) kw0 (fun _ h9 => h9) rfl dX4_route_1 ?_
  refine lv_aload_n hx hb dX4_route_4 rfl (lv_at hl 0 rfl) ?_
  refine va_get (D := (dC, dI)) (ci := 4) (v := .ref (a_b 3)) (C := RX4) (T := TX4) (N := 10) hx hb hts hi_X4 hown hK hP 0 rfl rfl 3 (by decide) kw1 (fun _ h9 => h9) rfl dX4_route_5 ?_
  obtain ⟨r_1, q_2, t_3, hc_8, hd⟩ := ob_s3 hd
  refine ob_Vi (isC := [2, 3, 10, 11, 12, 13, 14, 15]) (isR := [0, 1, 4, 5, 6, 7, 8, 9, 16]) (is2 := [0, 1, 9, 10, 2, 3, 4, 5, 6, 7, 11, 12, 13, 14, 15, 16, 8]) (wc := (ob_w3 (a_b 1) a_q cI q ++ ob_w1 (a_b 3) a_t cI t)) (wr := (List.filterMap (fun i => (ob_w4 o_b a_b cI b ++ ob_w3 (a_b 1) a_q cI q ++ ob_w1 (a_b 2) a_y cI y ++ ob_w1 (a_b 3) a_t cI t ++ ob_w0 (a_b 4) a_h h)[i]?) [0, 1, 4, 5, 6, 7, 8, 9, 16])) (w1 := (ob_w3 (a_b 1) a_q cI q_2 ++ ob_w1 (a_b 3) a_t cI t_3)) (w2 := (ob_w4 o_b a_b cI b ++ ob_w3 (a_b 1) a_q cI q_2 ++ ob_w1 (a_b 2) a_y cI y ++ ob_w1 (a_b 3) a_t cI t_3 ++ ob_w0 (a_b 4) a_h h)) (b := (a_b 1)) (As := [.ref (a_b 3)]) (rest := []) ⟨hx, hb, hml, hown, hts⟩ (mt_X3_readInto l dC dI cI cZ cR cW xs _ ((a_b 1)) a_q ((a_b 3)) a_t q t r_1 q_2 t_3 hc_8) (cwV 1 hts gX4_route_X3_readInto rfl rfl rfl (by decide +kernel) ⟨Nat.le_of_ble_eq_true rfl, Nat.le_of_ble_eq_true rfl⟩) hK hE hP hD hS hA ⟨rfl, rfl, rfl, rfl, rfl, rfl, rfl⟩ 3 0 rfl rfl rfl hl rfl rfl (Nat.le_of_ble_eq_true rfl) ⟨Nat.le_of_ble_eq_true rfl, Nat.le_of_ble_eq_true rfl⟩ dX4_route_8 (fun H locs hP hD hS => ?_)
  refine W.widen (k := 0) (n := 0) (Nat.le_refl _) (Nat.le_refl _) ?_
  refine lv_istore_n (lv' := [(1, .int r_1), (0, .ref o_b)]) hx hb dX4_route_11 rfl hl (by decide) rfl (fun ls hl => ?_)
  refine lv_aload_n hx hb dX4_route_12 rfl (lv_at hl 1 rfl) ?_
  refine va_get (D := (dC, dI)) (ci := 4) (v := .ref (a_b 1)) (C := RX4) (T := TX4) (N := 10) hx hb hts hi_X4 hown hK hP 0 rfl rfl 1 (by decide) kw0 (fun _ h9 => h9) rfl dX4_route_13 ?_
  refine va_get (D := (dC, dI)) (ci := 3) (v := .int (q_2.1 2)) (C := RX3) (T := TX3) (N := 4) hx hb hts hi_X3 hown hK hP 2 rfl rfl 2 (by decide) kw2 (fun _ h9 => h9) rfl dX4_route_16 ?_
  refine lv_topi (fun x_4 ex_4 => ?_)
  replace hd := ob_lx ex_4 hd
  clear ex_4
  refine lv_istore_n (lv' := [(2, .int x_4), (1, .int r_1), (0, .ref o_b)]) hx hb dX4_route_19 rfl hl (by decide) rfl (fun ls hl => ?_)
  refine lv_aload_n hx hb dX4_route_20 rfl (lv_at hl 2 rfl) ?_
  refine va_get (D := (dC, dI)) (ci := 4) (v := .ref (a_b 1)) (C := RX4) (T := TX4) (N := 10) hx hb hts hi_X4 hown hK hP 0 rfl rfl 1 (by decide) kw0 (fun _ h9 => h9) rfl dX4_route_21 ?_
  refine lv_iconst (v := 0) hx hb dX4_route_24 (by decide) ?_
  refine va_put (D := (dC, dI)) (ci := 3) (v := .int 0) (ty := .int) (C := RX3) (T := TX3) (N := 4) hx hb hts hi_X3 tyX3 tyX3_ok nmX3 hown hK hP hD hS 2 rfl rfl 1 (by decide) kw3 (fun _ h9 => h9) rfl (by decide +kernel) rfl rfl (Nat.le_of_ble_eq_true rfl) dX4_route_25 (fun H locs hP hD hS => ?_)
  obtain ⟨q_5, eq_5⟩ : ∃ z : ob_B, z = ob_I q_2 1 0 := ⟨_, rfl⟩
  replace hd := ob_lx eq_5 hd
  replace hP : va_P (dC, dI) vwCl (ob_w4 o_b a_b cI b ++ ob_w3 (a_b 1) a_q cI q_5 ++ ob_w1 (a_b 2) a_y cI y ++ ob_w1 (a_b 3) a_t cI t_3 ++ ob_w0 (a_b 4) a_h h) H := by rw [eq_5]; exact hP
  replace hD : va_D A (ob_w4 o_b a_b cI b ++ ob_w3 (a_b 1) a_q cI q_5 ++ ob_w1 (a_b 2) a_y cI y ++ ob_w1 (a_b 3) a_t cI t_3 ++ ob_w0 (a_b 4) a_h h) := by rw [eq_5]; exact hD
  clear eq_5
  refine lv_iload_n hx hb dX4_route_28 rfl (lv_at hl 1 rfl) ?_
  refine lv_if_eq (tgt := 42) hx hb dX4_route_29 (by decide) (fun c_29 => ?_) (fun c_29 => ?_)
  · replace hd := ob_t c_29 hd
    refine lv_aload_n hx hb dX4_route_42 rfl (lv_at hl 2 rfl) ?_
    refine va_get (D := (dC, dI)) (ci := 4) (v := .ref (a_b 2)) (C := RX4) (T := TX4) (N := 10) hx hb hts hi_X4 hown hK hP 0 rfl rfl 2 (by decide) kw4 (fun _ h9 => h9) rfl dX4_route_43 ?_
    refine lv_aload_n hx hb dX4_route_46 rfl (lv_at hl 2 rfl) ?_
    refine va_get (D := (dC, dI)) (ci := 4) (v := .ref (a_b 3)) (C := RX4) (T := TX4) (N := 10) hx hb hts hi_X4 hown hK hP 0 rfl rfl 3 (by decide) kw1 (fun _ h9 => h9) rfl dX4_route_47 ?_
    obtain ⟨y_6, hc_50, hd⟩ := ob_s1 hd
    refine ob_Vv (isC := [4, 5, 6, 7, 8, 9, 10, 11, 12, 13, 14, 15]) (isR := [0, 1, 2, 3, 16]) (is2 := [0, 1, 2, 3, 5, 6, 7, 8, 9, 10, 11, 12, 13, 14, 15, 16, 4]) (wc := (ob_w1 (a_b 2) a_y cI y ++ ob_w1 (a_b 3) a_t cI t_3)) (wr := (List.filterMap (fun i => (ob_w4 o_b a_b cI b ++ ob_w3 (a_b 1) a_q cI q_5 ++ ob_w1 (a_b 2) a_y cI y ++ ob_w1 (a_b 3) a_t cI t_3 ++ ob_w0 (a_b 4) a_h h)[i]?) [0, 1, 2, 3, 16])) (w1 := (ob_w1 (a_b 2) a_y cI y_6 ++ ob_w1 (a_b 3) a_t cI t_3)) (w2 := (ob_w4 o_b a_b cI b ++ ob_w3 (a_b 1) a_q cI q_5 ++ ob_w1 (a_b 2) a_y cI y_6 ++ ob_w1 (a_b 3) a_t cI t_3 ++ ob_w0 (a_b 4) a_h h)) (b := (a_b 2)) (As := [.ref (a_b 3)]) (rest := []) ⟨hx, hb, hml, hown, hts⟩ (mt_X1_become l dC dI cI cZ cR cW xs _ ((a_b 2)) a_y ((a_b 3)) a_t y t_3 y_6 hc_50) (cwV 1 hts gX4_route_X1_become rfl rfl rfl (by decide +kernel) ⟨Nat.le_of_ble_eq_true rfl, Nat.le_of_ble_eq_true rfl⟩) hK hE hP hD hS hA ⟨rfl, rfl, rfl, rfl, rfl, rfl, rfl⟩ 1 0 rfl rfl rfl hl rfl rfl (Nat.le_of_ble_eq_true rfl) ⟨Nat.le_of_ble_eq_true rfl, Nat.le_of_ble_eq_true rfl⟩ dX4_route_50 (fun H locs hP hD hS => ?_)
    refine W.widen (k := 0) (n := 0) (Nat.le_refl _) (Nat.le_refl _) ?_
    refine lv_aload_n hx hb dX4_route_53 rfl (lv_at hl 2 rfl) ?_
    refine va_get (D := (dC, dI)) (ci := 4) (v := .ref (a_b 4)) (C := RX4) (T := TX4) (N := 10) hx hb hts hi_X4 hown hK hP 0 rfl rfl 4 (by decide) kw5 (fun _ h9 => h9) rfl dX4_route_54 ?_
    obtain ⟨h_7, hc_57, hd⟩ := ob_s1 hd
    refine ob_Vv (isC := [16]) (isR := [0, 1, 2, 3, 4, 5, 6, 7, 8, 9, 10, 11, 12, 13, 14, 15]) (is2 := [0, 1, 2, 3, 4, 5, 6, 7, 8, 9, 10, 11, 12, 13, 14, 15, 16]) (wc := (ob_w0 (a_b 4) a_h h)) (wr := (List.filterMap (fun i => (ob_w4 o_b a_b cI b ++ ob_w3 (a_b 1) a_q cI q_5 ++ ob_w1 (a_b 2) a_y cI y_6 ++ ob_w1 (a_b 3) a_t cI t_3 ++ ob_w0 (a_b 4) a_h h)[i]?) [0, 1, 2, 3, 4, 5, 6, 7, 8, 9, 10, 11, 12, 13, 14, 15])) (w1 := (ob_w0 (a_b 4) a_h h_7)) (w2 := (ob_w4 o_b a_b cI b ++ ob_w3 (a_b 1) a_q cI q_5 ++ ob_w1 (a_b 2) a_y cI y_6 ++ ob_w1 (a_b 3) a_t cI t_3 ++ ob_w0 (a_b 4) a_h h_7)) (b := (a_b 4)) (As := []) (rest := []) ⟨hx, hb, hml, hown, hts⟩ (mt_X0_forgetAll l dC dI cI cZ cR cW xs _ ((a_b 4)) a_h h h_7 hc_57) (cwV 0 hts gX4_route_X0_forgetAll rfl rfl rfl (by decide +kernel) ⟨Nat.le_of_ble_eq_true rfl, Nat.le_of_ble_eq_true rfl⟩) hK hE hP hD hS hA ⟨rfl, rfl, rfl, rfl, rfl, rfl, rfl⟩ 0 0 rfl rfl rfl hl rfl rfl (Nat.le_of_ble_eq_true rfl) ⟨Nat.le_of_ble_eq_true rfl, Nat.le_of_ble_eq_true rfl⟩ dX4_route_57 (fun H locs hP hD hS => ?_)
    refine W.widen (k := 0) (n := 0) (Nat.le_refl _) (Nat.le_refl _) ?_
    refine lv_aload_n hx hb dX4_route_60 rfl (lv_at hl 2 rfl) ?_
    refine va_get (D := (dC, dI)) (ci := 4) (v := .ref (a_b 2)) (C := RX4) (T := TX4) (N := 10) hx hb hts hi_X4 hown hK hP 0 rfl rfl 2 (by decide) kw4 (fun _ h9 => h9) rfl dX4_route_61 ?_
    refine va_get (D := (dC, dI)) (ci := 1) (v := .int (y_6.1 4)) (C := RX1) (T := TX1) (N := 12) hx hb hts hi_X1 hown hK hP 4 rfl rfl 4 (by decide) kw6 (fun _ h9 => h9) rfl dX4_route_64 ?_
    have f0 := Option.some.inj hd
    obtain ⟨e1, f1⟩ := Prod.mk.inj f0
    obtain ⟨e2, f2⟩ := Prod.mk.inj f1
    obtain ⟨e3, f3⟩ := Prod.mk.inj f2
    obtain ⟨e4, f4⟩ := Prod.mk.inj f3
    obtain ⟨e5, f5⟩ := Prod.mk.inj f4
    subst e1
    subst e2
    subst e3
    subst e4
    subst e5
    subst f5
    exact ob_iret hx hb hr hlocks hP hD hS dX4_route_67
  · replace hd := ob_f c_29 hd
    refine lv_aload_n hx hb dX4_route_32 rfl (lv_at hl 2 rfl) ?_
    refine lv_iload_n hx hb dX4_route_33 rfl (lv_at hl 1 rfl) ?_
    refine va_put (D := (dC, dI)) (ci := 4) (v := .int r_1) (ty := .int) (C := RX4) (T := TX4) (N := 10) hx hb hts hi_X4 tyX4 tyX4_ok nmX4 hown hK hP hD hS 0 rfl rfl 8 (by decide) kw7 (fun _ h9 => h9) rfl (by decide +kernel) rfl rfl (Nat.le_of_ble_eq_true rfl) dX4_route_34 (fun H locs hP hD hS => ?_)
    obtain ⟨b_8, eb_8⟩ : ∃ z : ob_B, z = ob_I b 8 r_1 := ⟨_, rfl⟩
    replace hd := ob_lx eb_8 hd
    replace hP : va_P (dC, dI) vwCl (ob_w4 o_b a_b cI b_8 ++ ob_w3 (a_b 1) a_q cI q_5 ++ ob_w1 (a_b 2) a_y cI y ++ ob_w1 (a_b 3) a_t cI t_3 ++ ob_w0 (a_b 4) a_h h) H := by rw [eb_8]; exact hP
    replace hD : va_D A (ob_w4 o_b a_b cI b_8 ++ ob_w3 (a_b 1) a_q cI q_5 ++ ob_w1 (a_b 2) a_y cI y ++ ob_w1 (a_b 3) a_t cI t_3 ++ ob_w0 (a_b 4) a_h h) := by rw [eb_8]; exact hD
    clear eb_8
    refine lv_ldc hx hb hown kw8 dX4_route_37 ?_
    refine lv_iload_n hx hb dX4_route_39 rfl (lv_at hl 0 rfl) ?_
    refine lv_isub hx hb dX4_route_40 ?_
    have f0 := Option.some.inj hd
    obtain ⟨e1, f1⟩ := Prod.mk.inj f0
    obtain ⟨e2, f2⟩ := Prod.mk.inj f1
    obtain ⟨e3, f3⟩ := Prod.mk.inj f2
    obtain ⟨e4, f4⟩ := Prod.mk.inj f3
    obtain ⟨e5, f5⟩ := Prod.mk.inj f4
    subst e1
    subst e2
    subst e3
    subst e4
    subst e5
    subst f5
    exact ob_iret hx hb hr hlocks hP hD hS dX4_route_41
