def fd_X5_buy  (b : ob_B) (x1 : Int32) : Option (Int32 × ob_B) := ob_b1 (fd_X5_isOne b x1) (fun r_1 => if r_1 = 0 then (some ((-1000001), b)) else (if (35 + x1) < 0 ∨ 42 ≤ Int32.toNatClampNeg (35 + x1) then none else (if ((b.2 12) (Int32.toNatClampNeg (35 + x1))) = 0 then (ob_b1 (fd_X5_note b) (fun b_2 => if (35 + x1) < 0 ∨ 42 ≤ Int32.toNatClampNeg (35 + x1) then none else (ob_lt (ob_A b_2 12 (upd (b_2.2 12) (Int32.toNatClampNeg (35 + x1)) 3) : ob_B) (fun b_3 => ob_b1 (fd_X5_openOf ((b_3.2 12))) (fun r_4 => ob_b1 (fd_X5_bits r_4) (fun r_5 => some (r_5, b_3))))))) else (some ((-1000002), b)))))
set_option maxHeartbeats 4000000 in
set_option maxRecDepth 100000 in
theorem mt_X5_buy (l : Launch) (dC : Nat → ClassId) (dI : Nat → Nat → Nat) (cI cZ cR cW : ClassId) (xs : Nat → Nat) (sz : Nat) (o_b : Nat) (a_b : Nat → Nat) (b : ob_B) (x1 : Int32)  (rr : Int32) (b' : ob_B) (hd : fd_X5_buy b x1 = some (rr, b')) : ob_M l yX5_buy wsX5_buy ({ frames := 2, cells := 0, slots := 0, locals := 45 } : Room) (dC, dI) (ob_ty cI cZ cR cW) xs [.ref o_b, .int x1] (ob_w5 o_b a_b cI cZ b) sz (ob_Qi (dC, dI) rr (ob_w5 o_b a_b cI cZ b')) := by
  rw [fd_X5_buy] at hd
  refine ob_in (cc := cX5_buy) (maxL := 2) (ret := (some .int)) (own := RX5) (by decide) rfl rfl [(0, .ref o_b), (1, .int x1)] rfl (Nat.le_of_ble_eq_true rfl) ?_
  intro p e s m below meth c hx hb hr hml hown hts hlocks hnm hK A hA hE hP hD hS ls hl
  have kw0 := hts (.fieldLink RX5 22 "OathCoachModel" "now" "[I") (by decide +kernel)
  have kw1 := hts (.constant RX5 130 (-1000002)) (by decide +kernel)
  have kw2 := hts (.constant RX5 63 (-1000001)) (by decide +kernel)
  have hi_X5 : ∀ w ∈ u_ws RX5 TX5 23, w ∈ wsX5_buy := by decide +kernel
  refine lv_aload_n hx hb dX5_buy_0 rfl (lv_at hl 0 rfl) ?_
  refine lv_iload_n hx hb dX5_buy_1 rfl (lv_at hl 1 rfl) ?_
  obtain ⟨r_1, hc_2, hd⟩ := ob_s1 hd
  refine ob_Vi (isC := [0, 1, 2, 3, 4, 5, 6, 7, 8, 9, 10, 11, 12, 13]) (isR := []) (is2 := [0, 1, 2, 3, 4, 5, 6, 7, 8, 9, 10, 11, 12, 13]) (wc := (ob_w5 o_b a_b cI cZ b)) (wr := ([] : va_W)) (w1 := (ob_w5 o_b a_b cI cZ b)) (w2 := (ob_w5 o_b a_b cI cZ b)) (b := o_b) (As := [.int x1]) (rest := []) ⟨hx, hb, hml, hown, hts⟩ (mt_X5_isOne l dC dI cI cZ cR cW xs _ o_b a_b b x1 r_1 hc_2) (cwV 1 hts gX5_buy_X5_isOne rfl rfl rfl (by decide +kernel) ⟨Nat.le_of_ble_eq_true rfl, Nat.le_of_ble_eq_true rfl⟩) hK hE hP hD hS hA ⟨rfl, rfl, rfl, rfl, rfl, rfl, rfl⟩ 5 0 rfl rfl rfl hl rfl rfl (Nat.le_of_ble_eq_true rfl) ⟨Nat.le_of_ble_eq_true rfl, Nat.le_of_ble_eq_true rfl⟩ dX5_buy_2 (fun H locs hP hD hS => ?_)
  refine W.widen (k := 0) (n := 0) (Nat.le_refl _) (Nat.le_refl _) ?_
  refine lv_if_ne (tgt := 11) hx hb dX5_buy_5 (by decide) (fun c_5 => ?_) (fun c_5 => ?_)
  · replace hd := ob_f c_5 hd
    refine lv_aload_n hx hb dX5_buy_11 rfl (lv_at hl 0 rfl) ?_
    refine va_get (D := (dC, dI)) (ci := 5) (v := .ref (a_b 12)) (C := RX5) (T := TX5) (N := 23) hx hb hts hi_X5 hown hK hP 0 rfl rfl 12 (by decide) kw0 (fun _ h9 => h9) rfl dX5_buy_12 ?_
    refine lv_bipush (v := 35) hx hb dX5_buy_15 (by decide) ?_
    refine lv_iload_n hx hb dX5_buy_17 rfl (lv_at hl 1 rfl) ?_
    refine lv_iadd hx hb dX5_buy_18 ?_
    obtain ⟨h1_19, hd⟩ := ob_nn hd
    refine va_iald hx hb hK hP 5 0 rfl rfl h1_19 dX5_buy_19 ?_
    refine lv_if_eq (tgt := 26) hx hb dX5_buy_20 (by decide) (fun c_20 => ?_) (fun c_20 => ?_)
    · replace hd := ob_t c_20 hd
      refine lv_aload_n hx hb dX5_buy_26 rfl (lv_at hl 0 rfl) ?_
      obtain ⟨b_2, hc_27, hd⟩ := ob_s1 hd
      refine ob_Vv (isC := [0, 1, 2, 3, 4, 5, 6, 7, 8, 9, 10, 11, 12, 13]) (isR := []) (is2 := [0, 1, 2, 3, 4, 5, 6, 7, 8, 9, 10, 11, 12, 13]) (wc := (ob_w5 o_b a_b cI cZ b)) (wr := ([] : va_W)) (w1 := (ob_w5 o_b a_b cI cZ b_2)) (w2 := (ob_w5 o_b a_b cI cZ b_2)) (b := o_b) (As := []) (rest := []) ⟨hx, hb, hml, hown, hts⟩ (mt_X5_note l dC dI cI cZ cR cW xs _ o_b a_b b b_2 hc_27) (cwV 0 hts gX5_buy_X5_note rfl rfl rfl (by decide +kernel) ⟨Nat.le_of_ble_eq_true rfl, Nat.le_of_ble_eq_true rfl⟩) hK hE hP hD hS hA ⟨rfl, rfl, rfl, rfl, rfl, rfl, rfl⟩ 5 0 rfl rfl rfl hl rfl rfl (Nat.le_of_ble_eq_true rfl) ⟨Nat.le_of_ble_eq_true rfl, Nat.le_of_ble_eq_true rfl⟩ dX5_buy_27 (fun H locs hP hD hS => ?_)
      refine W.widen (k := 0) (n := 0) (Nat.le_refl _) (Nat.le_refl _) ?_
      refine lv_aload_n hx hb dX5_buy_30 rfl (lv_at hl 0 rfl) ?_
      refine va_get (D := (dC, dI)) (ci := 5) (v := .ref (a_b 12)) (C := RX5) (T := TX5) (N := 23) hx hb hts hi_X5 hown hK hP 0 rfl rfl 12 (by decide) kw0 (fun _ h9 => h9) rfl dX5_buy_31 ?_
      refine lv_bipush (v := 35) hx hb dX5_buy_34 (by decide) ?_
      refine lv_iload_n hx hb dX5_buy_36 rfl (lv_at hl 1 rfl) ?_
      refine lv_iadd hx hb dX5_buy_37 ?_
      refine lv_iconst (v := 3) hx hb dX5_buy_38 (by decide) ?_
      obtain ⟨h1_39, hd⟩ := ob_nn hd
      refine va_iast hx hb hK hP hD hS 5 0 rfl rfl h1_39 dX5_buy_39 (fun H locs hP hD hS => ?_)
      obtain ⟨b_3, eb_3⟩ : ∃ z : ob_B, z = ob_A b_2 12 (upd (b_2.2 12) (Int32.toNatClampNeg (35 + x1)) 3) := ⟨_, rfl⟩
      replace hd := ob_lx eb_3 hd
      replace hP : va_P (dC, dI) vwCl (ob_w5 o_b a_b cI cZ b_3) H := by rw [eb_3]; exact hP
      replace hD : va_D A (ob_w5 o_b a_b cI cZ b_3) := by rw [eb_3]; exact hD
      clear eb_3
      refine lv_aload_n hx hb dX5_buy_40 rfl (lv_at hl 0 rfl) ?_
      refine va_get (D := (dC, dI)) (ci := 5) (v := .ref (a_b 12)) (C := RX5) (T := TX5) (N := 23) hx hb hts hi_X5 hown hK hP 0 rfl rfl 12 (by decide) kw0 (fun _ h9 => h9) rfl dX5_buy_41 ?_
      obtain ⟨r_4, hc_44, hd⟩ := ob_s1 hd
      refine ob_Si (isC := [5]) (isR := [0, 1, 2, 3, 4, 6, 7, 8, 9, 10, 11, 12, 13]) (is2 := [0, 1, 2, 3, 4, 13, 5, 6, 7, 8, 9, 10, 11, 12]) (wc := (ob_wa (a_b 12) cI 42 (b_3.2 12))) (wr := (List.filterMap (fun i => (ob_w5 o_b a_b cI cZ b_3)[i]?) [0, 1, 2, 3, 4, 6, 7, 8, 9, 10, 11, 12, 13])) (w1 := (ob_wa (a_b 12) cI 42 (b_3.2 12))) (w2 := (ob_w5 o_b a_b cI cZ b_3)) (As := [.ref (a_b 12)]) (rest := []) ⟨hx, hb, hml, hown, hts⟩ (mt_X5_openOf l dC dI cI cZ cR cW xs _ ((a_b 12)) ((b_3.2 12)) r_4 hc_44) (va_cwS 1 hts gX5_buy_X5_openOf rfl rfl rfl (by decide +kernel) ⟨Nat.le_of_ble_eq_true rfl, Nat.le_of_ble_eq_true rfl⟩) hK hE hP hD hS hA ⟨rfl, rfl, rfl, rfl, rfl, rfl, rfl⟩ hl rfl rfl (Nat.le_of_ble_eq_true rfl) ⟨Nat.le_of_ble_eq_true rfl, Nat.le_of_ble_eq_true rfl⟩ dX5_buy_44 (fun H locs hP hD hS => ?_)
      refine W.widen (k := 0) (n := 0) (Nat.le_refl _) (Nat.le_refl _) ?_
      obtain ⟨r_5, hc_47, hd⟩ := ob_s1 hd
      refine ob_Si (isC := []) (isR := [0, 1, 2, 3, 4, 5, 6, 7, 8, 9, 10, 11, 12, 13]) (is2 := [0, 1, 2, 3, 4, 5, 6, 7, 8, 9, 10, 11, 12, 13]) (wc := ([] : va_W)) (wr := (List.filterMap (fun i => (ob_w5 o_b a_b cI cZ b_3)[i]?) [0, 1, 2, 3, 4, 5, 6, 7, 8, 9, 10, 11, 12, 13])) (w1 := ([] : va_W)) (w2 := (ob_w5 o_b a_b cI cZ b_3)) (As := [.int r_4]) (rest := []) ⟨hx, hb, hml, hown, hts⟩ (mt_X5_bits l dC dI cI cZ cR cW xs _ r_4 r_5 hc_47) (va_cwS 1 hts gX5_buy_X5_bits rfl rfl rfl (by decide +kernel) ⟨Nat.le_of_ble_eq_true rfl, Nat.le_of_ble_eq_true rfl⟩) hK hE hP hD hS hA ⟨rfl, rfl, rfl, rfl, rfl, rfl, rfl⟩ hl rfl rfl (Nat.le_of_ble_eq_true rfl) ⟨Nat.le_of_ble_eq_true rfl, Nat.le_of_ble_eq_true rfl⟩ dX5_buy_47 (fun H locs hP hD hS => ?_)
      refine W.widen (k := 0) (n := 0) (Nat.le_refl _) (Nat.le_refl _) ?_
      obtain ⟨e1, e2⟩ := ob_pp hd
      subst e1
      subst e2
      exact ob_iret hx hb hr hlocks hP hD hS dX5_buy_50
    · replace hd := ob_f c_20 hd
      refine lv_ldc hx hb hown kw1 dX5_buy_23 ?_
      obtain ⟨e1, e2⟩ := ob_pp hd
      subst e1
      subst e2
      exact ob_iret hx hb hr hlocks hP hD hS dX5_buy_25
  · replace hd := ob_t c_5 hd
    refine lv_ldc hx hb hown kw2 dX5_buy_8 ?_
    obtain ⟨e1, e2⟩ := ob_pp hd
    subst e1
    subst e2
    exact ob_iret hx hb hr hlocks hP hD hS dX5_buy_10

def fd_X5_snow  (b : ob_B) (x1 : Int32) (x2 : Int32) : Option (Int32 × ob_B) := ob_b1 (fd_X5_isRoute b) (fun r_1 => if r_1 = 0 then (some ((-1000002), b)) else (ob_b1 (fd_X5_in x1 0 9) (fun r_2 => if r_2 = 0 then (some ((-1000001), b)) else (ob_b1 (fd_X5_in x2 0 1) (fun r_3 => if r_3 = 0 then (some ((-1000001), b)) else (if ((((b.2 12) (Int32.toNatClampNeg 4)) >>> (x1 &&& 31)) &&& 1) = x2 then (some ((-1000002), b)) else (ob_b1 (fd_X5_note b) (fun b_4 => ob_lt (((b_4.2 12) (Int32.toNatClampNeg 4)) ^^^ (1 <<< (x1 &&& 31)) : Int32) (fun x_5 => ob_lt (ob_A b_4 12 (upd (b_4.2 12) (Int32.toNatClampNeg 4) x_5) : ob_B) (fun b_6 => some ((b_6.2 12) (Int32.toNatClampNeg 4), b_6)))))))))))
set_option maxHeartbeats 4000000 in
set_option maxRecDepth 100000 in
theorem mt_X5_snow (l : Launch) (dC : Nat → ClassId) (dI : Nat → Nat → Nat) (cI cZ cR cW : ClassId) (xs : Nat → Nat) (sz : Nat) (o_b : Nat) (a_b : Nat → Nat) (b : ob_B) (x1 : Int32) (x2 : Int32)  (rr : Int32) (b' : ob_B) (hd : fd_X5_snow b x1 x2 = some (rr, b')) : ob_M l yX5_snow wsX5_snow ({ frames := 2, cells := 0, slots := 0, locals := 45 } : Room) (dC, dI) (ob_ty cI cZ cR cW) xs [.ref o_b, .int x1, .int x2] (ob_w5 o_b a_b cI cZ b) sz (ob_Qi (dC, dI) rr (ob_w5 o_b a_b cI cZ b')) := by
  rw [fd_X5_snow] at hd
  refine ob_in (cc := cX5_snow) (maxL := 3) (ret := (some .int)) (own := RX5) (by decide) rfl rfl [(0, .ref o_b), (1, .int x1), (2, .int x2)] rfl (Nat.le_of_ble_eq_true rfl) ?_
  intro p e s m below meth c hx hb hr hml hown hts hlocks hnm hK A hA hE hP hD hS ls hl
  have kw0 := hts (.constant RX5 63 (-1000001)) (by decide +kernel)
  have kw1 := hts (.fieldLink RX5 22 "OathCoachModel" "now" "[I") (by decide +kernel)
  have kw2 := hts (.constant RX5 130 (-1000002)) (by decide +kernel)
  have hi_X5 : ∀ w ∈ u_ws RX5 TX5 23, w ∈ wsX5_snow := by decide +kernel
  refine lv_aload_n hx hb dX5_snow_0 rfl (lv_at hl 0 rfl) ?_
  obtain ⟨r_1, hc_1, hd⟩ := ob_s1 hd
  refine ob_Vi (isC := [0, 1, 2, 3, 4, 5, 6, 7, 8, 9, 10, 11, 12, 13]) (isR := []) (is2 := [0, 1, 2, 3, 4, 5, 6, 7, 8, 9, 10, 11, 12, 13]) (wc := (ob_w5 o_b a_b cI cZ b)) (wr := ([] : va_W)) (w1 := (ob_w5 o_b a_b cI cZ b)) (w2 := (ob_w5 o_b a_b cI cZ b)) (b := o_b) (As := []) (rest := []) ⟨hx, hb, hml, hown, hts⟩ (mt_X5_isRoute l dC dI cI cZ cR cW xs _ o_b a_b b r_1 hc_1) (cwV 0 hts gX5_snow_X5_isRoute rfl rfl rfl (by decide +kernel) ⟨Nat.le_of_ble_eq_true rfl, Nat.le_of_ble_eq_true rfl⟩) hK hE hP hD hS hA ⟨rfl, rfl, rfl, rfl, rfl, rfl, rfl⟩ 5 0 rfl rfl rfl hl rfl rfl (Nat.le_of_ble_eq_true rfl) ⟨Nat.le_of_ble_eq_true rfl, Nat.le_of_ble_eq_true rfl⟩ dX5_snow_1 (fun H locs hP hD hS => ?_)
  refine W.widen (k := 0) (n := 0) (Nat.le_refl _) (Nat.le_refl _) ?_
  refine lv_if_ne (tgt := 10) hx hb dX5_snow_4 (by decide) (fun c_4 => ?_) (fun c_4 => ?_)
  · replace hd := ob_f c_4 hd
    refine lv_iload_n hx hb dX5_snow_10 rfl (lv_at hl 1 rfl) ?_
    refine lv_iconst (v := 0) hx hb dX5_snow_11 (by decide) ?_
    refine lv_bipush (v := 9) hx hb dX5_snow_12 (by decide) ?_
    obtain ⟨r_2, hc_14, hd⟩ := ob_s1 hd
    refine ob_Si (isC := []) (isR := [0, 1, 2, 3, 4, 5, 6, 7, 8, 9, 10, 11, 12, 13]) (is2 := [0, 1, 2, 3, 4, 5, 6, 7, 8, 9, 10, 11, 12, 13]) (wc := ([] : va_W)) (wr := (List.filterMap (fun i => (ob_w5 o_b a_b cI cZ b)[i]?) [0, 1, 2, 3, 4, 5, 6, 7, 8, 9, 10, 11, 12, 13])) (w1 := ([] : va_W)) (w2 := (ob_w5 o_b a_b cI cZ b)) (As := [.int x1, .int 0, .int 9]) (rest := []) ⟨hx, hb, hml, hown, hts⟩ (mt_X5_in l dC dI cI cZ cR cW xs _ x1 0 9 r_2 hc_14) (va_cwS 3 hts gX5_snow_X5_in rfl rfl rfl (by decide +kernel) ⟨Nat.le_of_ble_eq_true rfl, Nat.le_of_ble_eq_true rfl⟩) hK hE hP hD hS hA ⟨rfl, rfl, rfl, rfl, rfl, rfl, rfl⟩ hl rfl rfl (Nat.le_of_ble_eq_true rfl) ⟨Nat.le_of_ble_eq_true rfl, Nat.le_of_ble_eq_true rfl⟩ dX5_snow_14 (fun H locs hP hD hS => ?_)
    refine W.widen (k := 0) (n := 0) (Nat.le_refl _) (Nat.le_refl _) ?_
    refine lv_if_eq (tgt := 29) hx hb dX5_snow_17 (by decide) (fun c_17 => ?_) (fun c_17 => ?_)
    · replace hd := ob_t c_17 hd
      refine lv_ldc hx hb hown kw0 dX5_snow_29 ?_
      obtain ⟨e1, e2⟩ := ob_pp hd
      subst e1
      subst e2
      exact ob_iret hx hb hr hlocks hP hD hS dX5_snow_31
    · replace hd := ob_f c_17 hd
      refine lv_iload_n hx hb dX5_snow_20 rfl (lv_at hl 2 rfl) ?_
      refine lv_iconst (v := 0) hx hb dX5_snow_21 (by decide) ?_
      refine lv_iconst (v := 1) hx hb dX5_snow_22 (by decide) ?_
      obtain ⟨r_3, hc_23, hd⟩ := ob_s1 hd
      refine ob_Si (isC := []) (isR := [0, 1, 2, 3, 4, 5, 6, 7, 8, 9, 10, 11, 12, 13]) (is2 := [0, 1, 2, 3, 4, 5, 6, 7, 8, 9, 10, 11, 12, 13]) (wc := ([] : va_W)) (wr := (List.filterMap (fun i => (ob_w5 o_b a_b cI cZ b)[i]?) [0, 1, 2, 3, 4, 5, 6, 7, 8, 9, 10, 11, 12, 13])) (w1 := ([] : va_W)) (w2 := (ob_w5 o_b a_b cI cZ b)) (As := [.int x2, .int 0, .int 1]) (rest := []) ⟨hx, hb, hml, hown, hts⟩ (mt_X5_in l dC dI cI cZ cR cW xs _ x2 0 1 r_3 hc_23) (va_cwS 3 hts gX5_snow_X5_in rfl rfl rfl (by decide +kernel) ⟨Nat.le_of_ble_eq_true rfl, Nat.le_of_ble_eq_true rfl⟩) hK hE hP hD hS hA ⟨rfl, rfl, rfl, rfl, rfl, rfl, rfl⟩ hl rfl rfl (Nat.le_of_ble_eq_true rfl) ⟨Nat.le_of_ble_eq_true rfl, Nat.le_of_ble_eq_true rfl⟩ dX5_snow_23 (fun H locs hP hD hS => ?_)
      refine W.widen (k := 0) (n := 0) (Nat.le_refl _) (Nat.le_refl _) ?_
      refine lv_if_ne (tgt := 32) hx hb dX5_snow_26 (by decide) (fun c_26 => ?_) (fun c_26 => ?_)
      · replace hd := ob_f c_26 hd
        refine lv_aload_n hx hb dX5_snow_32 rfl (lv_at hl 0 rfl) ?_
        refine va_get (D := (dC, dI)) (ci := 5) (v := .ref (a_b 12)) (C := RX5) (T := TX5) (N := 23) hx hb hts hi_X5 hown hK hP 0 rfl rfl 12 (by decide) kw1 (fun _ h9 => h9) rfl dX5_snow_33 ?_
        refine lv_iconst (v := 4) hx hb dX5_snow_36 (by decide) ?_
        refine va_iald hx hb hK hP 5 0 rfl rfl (by unfold vp_in; decide) dX5_snow_37 ?_
        refine lv_iload_n hx hb dX5_snow_38 rfl (lv_at hl 1 rfl) ?_
        refine lv_ishr hx hb dX5_snow_39 ?_
        refine lv_iconst (v := 1) hx hb dX5_snow_40 (by decide) ?_
        refine lv_iand hx hb dX5_snow_41 ?_
        refine lv_iload_n hx hb dX5_snow_42 rfl (lv_at hl 2 rfl) ?_
        refine lv_icmp_ne (tgt := 49) hx hb dX5_snow_43 (by decide) (fun c_43 => ?_) (fun c_43 => ?_)
        · replace hd := ob_f c_43 hd
          refine lv_aload_n hx hb dX5_snow_49 rfl (lv_at hl 0 rfl) ?_
          obtain ⟨b_4, hc_50, hd⟩ := ob_s1 hd
          refine ob_Vv (isC := [0, 1, 2, 3, 4, 5, 6, 7, 8, 9, 10, 11, 12, 13]) (isR := []) (is2 := [0, 1, 2, 3, 4, 5, 6, 7, 8, 9, 10, 11, 12, 13]) (wc := (ob_w5 o_b a_b cI cZ b)) (wr := ([] : va_W)) (w1 := (ob_w5 o_b a_b cI cZ b_4)) (w2 := (ob_w5 o_b a_b cI cZ b_4)) (b := o_b) (As := []) (rest := []) ⟨hx, hb, hml, hown, hts⟩ (mt_X5_note l dC dI cI cZ cR cW xs _ o_b a_b b b_4 hc_50) (cwV 0 hts gX5_snow_X5_note rfl rfl rfl (by decide +kernel) ⟨Nat.le_of_ble_eq_true rfl, Nat.le_of_ble_eq_true rfl⟩) hK hE hP hD hS hA ⟨rfl, rfl, rfl, rfl, rfl, rfl, rfl⟩ 5 0 rfl rfl rfl hl rfl rfl (Nat.le_of_ble_eq_true rfl) ⟨Nat.le_of_ble_eq_true rfl, Nat.le_of_ble_eq_true rfl⟩ dX5_snow_50 (fun H locs hP hD hS => ?_)
          refine W.widen (k := 0) (n := 0) (Nat.le_refl _) (Nat.le_refl _) ?_
          refine lv_aload_n hx hb dX5_snow_53 rfl (lv_at hl 0 rfl) ?_
          refine va_get (D := (dC, dI)) (ci := 5) (v := .ref (a_b 12)) (C := RX5) (T := TX5) (N := 23) hx hb hts hi_X5 hown hK hP 0 rfl rfl 12 (by decide) kw1 (fun _ h9 => h9) rfl dX5_snow_54 ?_
          refine lv_iconst (v := 4) hx hb dX5_snow_57 (by decide) ?_
          refine lv_aload_n hx hb dX5_snow_58 rfl (lv_at hl 0 rfl) ?_
          refine va_get (D := (dC, dI)) (ci := 5) (v := .ref (a_b 12)) (C := RX5) (T := TX5) (N := 23) hx hb hts hi_X5 hown hK hP 0 rfl rfl 12 (by decide) kw1 (fun _ h9 => h9) rfl dX5_snow_59 ?_
          refine lv_iconst (v := 4) hx hb dX5_snow_62 (by decide) ?_
          refine va_iald hx hb hK hP 5 0 rfl rfl (by unfold vp_in; decide) dX5_snow_63 ?_
          refine lv_iconst (v := 1) hx hb dX5_snow_64 (by decide) ?_
          refine lv_iload_n hx hb dX5_snow_65 rfl (lv_at hl 1 rfl) ?_
          refine lv_ishl hx hb dX5_snow_66 ?_
          refine lv_ixor hx hb dX5_snow_67 ?_
          refine lv_topi (fun x_5 ex_5 => ?_)
          replace hd := ob_lx ex_5 hd
          clear ex_5
          refine va_iast hx hb hK hP hD hS 5 0 rfl rfl (by unfold vp_in; decide) dX5_snow_68 (fun H locs hP hD hS => ?_)
          obtain ⟨b_6, eb_6⟩ : ∃ z : ob_B, z = ob_A b_4 12 (upd (b_4.2 12) (Int32.toNatClampNeg 4) x_5) := ⟨_, rfl⟩
          replace hd := ob_lx eb_6 hd
          replace hP : va_P (dC, dI) vwCl (ob_w5 o_b a_b cI cZ b_6) H := by rw [eb_6]; exact hP
          replace hD : va_D A (ob_w5 o_b a_b cI cZ b_6) := by rw [eb_6]; exact hD
          clear eb_6
          refine lv_aload_n hx hb dX5_snow_69 rfl (lv_at hl 0 rfl) ?_
          refine va_get (D := (dC, dI)) (ci := 5) (v := .ref (a_b 12)) (C := RX5) (T := TX5) (N := 23) hx hb hts hi_X5 hown hK hP 0 rfl rfl 12 (by decide) kw1 (fun _ h9 => h9) rfl dX5_snow_70 ?_
          refine lv_iconst (v := 4) hx hb dX5_snow_73 (by decide) ?_
          refine va_iald hx hb hK hP 5 0 rfl rfl (by unfold vp_in; decide) dX5_snow_74 ?_
          obtain ⟨e1, e2⟩ := ob_pp hd
          subst e1
          subst e2
          exact ob_iret hx hb hr hlocks hP hD hS dX5_snow_75
        · replace hd := ob_t c_43 hd
          refine lv_ldc hx hb hown kw2 dX5_snow_46 ?_
          obtain ⟨e1, e2⟩ := ob_pp hd
          subst e1
          subst e2
          exact ob_iret hx hb hr hlocks hP hD hS dX5_snow_48
      · replace hd := ob_t c_26 hd
        refine lv_ldc hx hb hown kw0 dX5_snow_29 ?_
        obtain ⟨e1, e2⟩ := ob_pp hd
        subst e1
        subst e2
        exact ob_iret hx hb hr hlocks hP hD hS dX5_snow_31
  · replace hd := ob_t c_4 hd
    refine lv_ldc hx hb hown kw2 dX5_snow_7 ?_
    obtain ⟨e1, e2⟩ := ob_pp hd
    subst e1
    subst e2
    exact ob_iret hx hb hr hlocks hP hD hS dX5_snow_9

def fd_X5_oath  (b : ob_B) (x1 : Int32) (x2 : Int32) : Option (Int32) := ob_b1 (fd_X5_isOne b x1) (fun r_1 => if r_1 = 0 then (some ((-1000001))) else (ob_b1 (fd_X5_in x2 0 4) (fun r_2 => if r_2 = 0 then (some ((-1000001))) else (if x2 = 4 then (ob_b1 (fd_X5_pullOf ((b.2 12)) x1) (fun r_3 => some (r_3))) else (if ((14 + (7 * x2)) + x1) < 0 ∨ 42 ≤ Int32.toNatClampNeg ((14 + (7 * x2)) + x1) then none else (some ((b.2 12) (Int32.toNatClampNeg ((14 + (7 * x2)) + x1)))))))))
set_option maxHeartbeats 4000000 in
set_option maxRecDepth 100000 in
theorem mt_X5_oath (l : Launch) (dC : Nat → ClassId) (dI : Nat → Nat → Nat) (cI cZ cR cW : ClassId) (xs : Nat → Nat) (sz : Nat) (o_b : Nat) (a_b : Nat → Nat) (b : ob_B) (x1 : Int32) (x2 : Int32)  (rr : Int32) (hd : fd_X5_oath b x1 x2 = some (rr)) : ob_M l yX5_oath wsX5_oath ({ frames := 2, cells := 0, slots := 0, locals := 44 } : Room) (dC, dI) (ob_ty cI cZ cR cW) xs [.ref o_b, .int x1, .int x2] (ob_w5 o_b a_b cI cZ b) sz (ob_Qi (dC, dI) rr (ob_w5 o_b a_b cI cZ b)) := by
  rw [fd_X5_oath] at hd
  refine ob_in (cc := cX5_oath) (maxL := 3) (ret := (some .int)) (own := RX5) (by decide) rfl rfl [(0, .ref o_b), (1, .int x1), (2, .int x2)] rfl (Nat.le_of_ble_eq_true rfl) ?_
  intro p e s m below meth c hx hb hr hml hown hts hlocks hnm hK A hA hE hP hD hS ls hl
  have kw0 := hts (.constant RX5 63 (-1000001)) (by decide +kernel)
  have kw1 := hts (.fieldLink RX5 22 "OathCoachModel" "now" "[I") (by decide +kernel)
  have hi_X5 : ∀ w ∈ u_ws RX5 TX5 23, w ∈ wsX5_oath := by decide +kernel
  refine lv_aload_n hx hb dX5_oath_0 rfl (lv_at hl 0 rfl) ?_
  refine lv_iload_n hx hb dX5_oath_1 rfl (lv_at hl 1 rfl) ?_
  obtain ⟨r_1, hc_2, hd⟩ := ob_s1 hd
  refine ob_Vi (isC := [0, 1, 2, 3, 4, 5, 6, 7, 8, 9, 10, 11, 12, 13]) (isR := []) (is2 := [0, 1, 2, 3, 4, 5, 6, 7, 8, 9, 10, 11, 12, 13]) (wc := (ob_w5 o_b a_b cI cZ b)) (wr := ([] : va_W)) (w1 := (ob_w5 o_b a_b cI cZ b)) (w2 := (ob_w5 o_b a_b cI cZ b)) (b := o_b) (As := [.int x1]) (rest := []) ⟨hx, hb, hml, hown, hts⟩ (mt_X5_isOne l dC dI cI cZ cR cW xs _ o_b a_b b x1 r_1 hc_2) (cwV 1 hts gX5_oath_X5_isOne rfl rfl rfl (by decide +kernel) ⟨Nat.le_of_ble_eq_true rfl, Nat.le_of_ble_eq_true rfl⟩) hK hE hP hD hS hA ⟨rfl, rfl, rfl, rfl, rfl, rfl, rfl⟩ 5 0 rfl rfl rfl hl rfl rfl (Nat.le_of_ble_eq_true rfl) ⟨Nat.le_of_ble_eq_true rfl, Nat.le_of_ble_eq_true rfl⟩ dX5_oath_2 (fun H locs hP hD hS => ?_)
  refine W.widen (k := 0) (n := 0) (Nat.le_refl _) (Nat.le_refl _) ?_
  refine lv_if_eq (tgt := 17) hx hb dX5_oath_5 (by decide) (fun c_5 => ?_) (fun c_5 => ?_)
  · replace hd := ob_t c_5 hd
    refine lv_ldc hx hb hown kw0 dX5_oath_17 ?_
    have e1 := Option.some.inj hd
    subst e1
    exact ob_iret hx hb hr hlocks hP hD hS dX5_oath_19
  · replace hd := ob_f c_5 hd
    refine lv_iload_n hx hb dX5_oath_8 rfl (lv_at hl 2 rfl) ?_
    refine lv_iconst (v := 0) hx hb dX5_oath_9 (by decide) ?_
    refine lv_iconst (v := 4) hx hb dX5_oath_10 (by decide) ?_
    obtain ⟨r_2, hc_11, hd⟩ := ob_s1 hd
    refine ob_Si (isC := []) (isR := [0, 1, 2, 3, 4, 5, 6, 7, 8, 9, 10, 11, 12, 13]) (is2 := [0, 1, 2, 3, 4, 5, 6, 7, 8, 9, 10, 11, 12, 13]) (wc := ([] : va_W)) (wr := (List.filterMap (fun i => (ob_w5 o_b a_b cI cZ b)[i]?) [0, 1, 2, 3, 4, 5, 6, 7, 8, 9, 10, 11, 12, 13])) (w1 := ([] : va_W)) (w2 := (ob_w5 o_b a_b cI cZ b)) (As := [.int x2, .int 0, .int 4]) (rest := []) ⟨hx, hb, hml, hown, hts⟩ (mt_X5_in l dC dI cI cZ cR cW xs _ x2 0 4 r_2 hc_11) (va_cwS 3 hts gX5_oath_X5_in rfl rfl rfl (by decide +kernel) ⟨Nat.le_of_ble_eq_true rfl, Nat.le_of_ble_eq_true rfl⟩) hK hE hP hD hS hA ⟨rfl, rfl, rfl, rfl, rfl, rfl, rfl⟩ hl rfl rfl (Nat.le_of_ble_eq_true rfl) ⟨Nat.le_of_ble_eq_true rfl, Nat.le_of_ble_eq_true rfl⟩ dX5_oath_11 (fun H locs hP hD hS => ?_)
    refine W.widen (k := 0) (n := 0) (Nat.le_refl _) (Nat.le_refl _) ?_
    refine lv_if_ne (tgt := 20) hx hb dX5_oath_14 (by decide) (fun c_14 => ?_) (fun c_14 => ?_)
    · replace hd := ob_f c_14 hd
      refine lv_iload_n hx hb dX5_oath_20 rfl (lv_at hl 2 rfl) ?_
      refine lv_iconst (v := 4) hx hb dX5_oath_21 (by decide) ?_
      refine lv_icmp_ne (tgt := 36) hx hb dX5_oath_22 (by decide) (fun c_22 => ?_) (fun c_22 => ?_)
      · replace hd := ob_f c_22 hd
        refine lv_aload_n hx hb dX5_oath_36 rfl (lv_at hl 0 rfl) ?_
        refine va_get (D := (dC, dI)) (ci := 5) (v := .ref (a_b 12)) (C := RX5) (T := TX5) (N := 23) hx hb hts hi_X5 hown hK hP 0 rfl rfl 12 (by decide) kw1 (fun _ h9 => h9) rfl dX5_oath_37 ?_
        refine lv_bipush (v := 14) hx hb dX5_oath_40 (by decide) ?_
        refine lv_bipush (v := 7) hx hb dX5_oath_42 (by decide) ?_
        refine lv_iload_n hx hb dX5_oath_44 rfl (lv_at hl 2 rfl) ?_
        refine lv_imul hx hb dX5_oath_45 ?_
        refine lv_iadd hx hb dX5_oath_46 ?_
        refine lv_iload_n hx hb dX5_oath_47 rfl (lv_at hl 1 rfl) ?_
        refine lv_iadd hx hb dX5_oath_48 ?_
        obtain ⟨h1_49, hd⟩ := ob_nn hd
        refine va_iald hx hb hK hP 5 0 rfl rfl h1_49 dX5_oath_49 ?_
        have e1 := Option.some.inj hd
        subst e1
        exact ob_iret hx hb hr hlocks hP hD hS dX5_oath_50
      · replace hd := ob_t c_22 hd
        refine lv_aload_n hx hb dX5_oath_25 rfl (lv_at hl 0 rfl) ?_
        refine va_get (D := (dC, dI)) (ci := 5) (v := .ref (a_b 12)) (C := RX5) (T := TX5) (N := 23) hx hb hts hi_X5 hown hK hP 0 rfl rfl 12 (by decide) kw1 (fun _ h9 => h9) rfl dX5_oath_26 ?_
        refine lv_iload_n hx hb dX5_oath_29 rfl (lv_at hl 1 rfl) ?_
        obtain ⟨r_3, hc_30, hd⟩ := ob_s1 hd
        refine ob_Si (isC := [5]) (isR := [0, 1, 2, 3, 4, 6, 7, 8, 9, 10, 11, 12, 13]) (is2 := [0, 1, 2, 3, 4, 13, 5, 6, 7, 8, 9, 10, 11, 12]) (wc := (ob_wa (a_b 12) cI 42 (b.2 12))) (wr := (List.filterMap (fun i => (ob_w5 o_b a_b cI cZ b)[i]?) [0, 1, 2, 3, 4, 6, 7, 8, 9, 10, 11, 12, 13])) (w1 := (ob_wa (a_b 12) cI 42 (b.2 12))) (w2 := (ob_w5 o_b a_b cI cZ b)) (As := [.ref (a_b 12), .int x1]) (rest := []) ⟨hx, hb, hml, hown, hts⟩ (mt_X5_pullOf l dC dI cI cZ cR cW xs _ ((a_b 12)) ((b.2 12)) x1 r_3 hc_30) (va_cwS 2 hts gX5_oath_X5_pullOf rfl rfl rfl (by decide +kernel) ⟨Nat.le_of_ble_eq_true rfl, Nat.le_of_ble_eq_true rfl⟩) hK hE hP hD hS hA ⟨rfl, rfl, rfl, rfl, rfl, rfl, rfl⟩ hl rfl rfl (Nat.le_of_ble_eq_true rfl) ⟨Nat.le_of_ble_eq_true rfl, Nat.le_of_ble_eq_true rfl⟩ dX5_oath_30 (fun H locs hP hD hS => ?_)
        refine W.widen (k := 0) (n := 0) (Nat.le_refl _) (Nat.le_refl _) ?_
        refine lv_goto (tgt := 50) hx hb dX5_oath_33 (by decide) ?_
        have e1 := Option.some.inj hd
        subst e1
        exact ob_iret hx hb hr hlocks hP hD hS dX5_oath_50
    · replace hd := ob_t c_14 hd
      refine lv_ldc hx hb hown kw0 dX5_oath_17 ?_
      have e1 := Option.some.inj hd
      subst e1
      exact ob_iret hx hb hr hlocks hP hD hS dX5_oath_19

def fd_X5_coach  (b : ob_B) (x1 : Int32) : Option (Int32) := ob_b1 (fd_X5_isRoute b) (fun r_1 => if r_1 = 0 then (some ((-1000002))) else (if x1 = 0 then (some ((b.2 12) (Int32.toNatClampNeg 0))) else (if x1 = 1 then (ob_b1 (fd_X5_pullerOf ((b.2 12)) 0) (fun r_2 => if 0 ≤ r_2 then (some (r_2)) else (some ((-1000000))))) else (if x1 = 2 then (ob_b1 (fd_X5_openOf ((b.2 12))) (fun r_3 => some (r_3))) else (if x1 = 3 then (some ((b.2 12) (Int32.toNatClampNeg 4))) else (if x1 = 4 then (some ((b.2 12) (Int32.toNatClampNeg 1))) else (some ((-1000001)))))))))
set_option maxHeartbeats 4000000 in
set_option maxRecDepth 100000 in
theorem mt_X5_coach (l : Launch) (dC : Nat → ClassId) (dI : Nat → Nat → Nat) (cI cZ cR cW : ClassId) (xs : Nat → Nat) (sz : Nat) (o_b : Nat) (a_b : Nat → Nat) (b : ob_B) (x1 : Int32)  (rr : Int32) (hd : fd_X5_coach b x1 = some (rr)) : ob_M l yX5_coach wsX5_coach ({ frames := 3, cells := 0, slots := 0, locals := 69 } : Room) (dC, dI) (ob_ty cI cZ cR cW) xs [.ref o_b, .int x1] (ob_w5 o_b a_b cI cZ b) sz (ob_Qi (dC, dI) rr (ob_w5 o_b a_b cI cZ b)) := by
  rw [fd_X5_coach] at hd
  refine ob_in (cc := cX5_coach) (maxL := 3) (ret := (some .int)) (own := RX5) (by decide) rfl rfl [(0, .ref o_b), (1, .int x1)] rfl (Nat.le_of_ble_eq_true rfl) ?_
  intro p e s m below meth c hx hb hr hml hown hts hlocks hnm hK A hA hE hP hD hS ls hl
  have kw0 := hts (.fieldLink RX5 22 "OathCoachModel" "now" "[I") (by decide +kernel)
  have kw1 := hts (.constant RX5 163 (-1000000)) (by decide +kernel)
  have kw2 := hts (.constant RX5 63 (-1000001)) (by decide +kernel)
  have kw3 := hts (.constant RX5 130 (-1000002)) (by decide +kernel)
  have hi_X5 : ∀ w ∈ u_ws RX5 TX5 23, w ∈ wsX5_coach := by decide +kernel
  refine lv_aload_n hx hb dX5_coach_0 rfl (lv_at hl 0 rfl) ?_
  obtain ⟨r_1, hc_1, hd⟩ := ob_s1 hd
  refine ob_Vi (isC := [0, 1, 2, 3, 4, 5, 6, 7, 8, 9, 10, 11, 12, 13]) (isR := []) (is2 := [0, 1, 2, 3, 4, 5, 6, 7, 8, 9, 10, 11, 12, 13]) (wc := (ob_w5 o_b a_b cI cZ b)) (wr := ([] : va_W)) (w1 := (ob_w5 o_b a_b cI cZ b)) (w2 := (ob_w5 o_b a_b cI cZ b)) (b := o_b) (As := []) (rest := []) ⟨hx, hb, hml, hown, hts⟩ (mt_X5_isRoute l dC dI cI cZ cR cW xs _ o_b a_b b r_1 hc_1) (cwV 0 hts gX5_coach_X5_isRoute rfl rfl rfl (by decide +kernel) ⟨Nat.le_of_ble_eq_true rfl, Nat.le_of_ble_eq_true rfl⟩) hK hE hP hD hS hA ⟨rfl, rfl, rfl, rfl, rfl, rfl, rfl⟩ 5 0 rfl rfl rfl hl rfl rfl (Nat.le_of_ble_eq_true rfl) ⟨Nat.le_of_ble_eq_true rfl, Nat.le_of_ble_eq_true rfl⟩ dX5_coach_1 (fun H locs hP hD hS => ?_)
  refine W.widen (k := 0) (n := 0) (Nat.le_refl _) (Nat.le_refl _) ?_
  refine lv_if_ne (tgt := 10) hx hb dX5_coach_4 (by decide) (fun c_4 => ?_) (fun c_4 => ?_)
  · replace hd := ob_f c_4 hd
    refine lv_iload_n hx hb dX5_coach_10 rfl (lv_at hl 1 rfl) ?_
    by_cases c0_11 : x1 = 0
    · replace hd := ob_t c0_11 hd
      refine lv_tableIn (off := 33) (tgt := 44) hx hb dX5_coach_11 (by rw [c0_11]; decide) (by rw [c0_11]; decide) (by rw [c0_11]; decide) (by decide) ?_
      refine lv_aload_n hx hb dX5_coach_44 rfl (lv_at hl 0 rfl) ?_
      refine va_get (D := (dC, dI)) (ci := 5) (v := .ref (a_b 12)) (C := RX5) (T := TX5) (N := 23) hx hb hts hi_X5 hown hK hP 0 rfl rfl 12 (by decide) kw0 (fun _ h9 => h9) rfl dX5_coach_45 ?_
      refine lv_iconst (v := 0) hx hb dX5_coach_48 (by decide) ?_
      refine va_iald hx hb hK hP 5 0 rfl rfl (by unfold vp_in; decide) dX5_coach_49 ?_
      have e1 := Option.some.inj hd
      subst e1
      exact ob_iret hx hb hr hlocks hP hD hS dX5_coach_50
    replace hd := ob_f c0_11 hd
    by_cases c1_11 : x1 = 1
    · replace hd := ob_t c1_11 hd
      refine lv_tableIn (off := 40) (tgt := 51) hx hb dX5_coach_11 (by rw [c1_11]; decide) (by rw [c1_11]; decide) (by rw [c1_11]; decide) (by decide) ?_
      refine lv_aload_n hx hb dX5_coach_51 rfl (lv_at hl 0 rfl) ?_
      refine va_get (D := (dC, dI)) (ci := 5) (v := .ref (a_b 12)) (C := RX5) (T := TX5) (N := 23) hx hb hts hi_X5 hown hK hP 0 rfl rfl 12 (by decide) kw0 (fun _ h9 => h9) rfl dX5_coach_52 ?_
      refine lv_iconst (v := 0) hx hb dX5_coach_55 (by decide) ?_
      obtain ⟨r_2, hc_56, hd⟩ := ob_s1 hd
      refine ob_Si (isC := [5]) (isR := [0, 1, 2, 3, 4, 6, 7, 8, 9, 10, 11, 12, 13]) (is2 := [0, 1, 2, 3, 4, 13, 5, 6, 7, 8, 9, 10, 11, 12]) (wc := (ob_wa (a_b 12) cI 42 (b.2 12))) (wr := (List.filterMap (fun i => (ob_w5 o_b a_b cI cZ b)[i]?) [0, 1, 2, 3, 4, 6, 7, 8, 9, 10, 11, 12, 13])) (w1 := (ob_wa (a_b 12) cI 42 (b.2 12))) (w2 := (ob_w5 o_b a_b cI cZ b)) (As := [.ref (a_b 12), .int 0]) (rest := []) ⟨hx, hb, hml, hown, hts⟩ (mt_X5_pullerOf l dC dI cI cZ cR cW xs _ ((a_b 12)) ((b.2 12)) 0 r_2 hc_56) (va_cwS 2 hts gX5_coach_X5_pullerOf rfl rfl rfl (by decide +kernel) ⟨Nat.le_of_ble_eq_true rfl, Nat.le_of_ble_eq_true rfl⟩) hK hE hP hD hS hA ⟨rfl, rfl, rfl, rfl, rfl, rfl, rfl⟩ hl rfl rfl (Nat.le_of_ble_eq_true rfl) ⟨Nat.le_of_ble_eq_true rfl, Nat.le_of_ble_eq_true rfl⟩ dX5_coach_56 (fun H locs hP hD hS => ?_)
      refine W.widen (k := 0) (n := 0) (Nat.le_refl _) (Nat.le_refl _) ?_
      refine lv_istore_n (lv' := [(2, .int r_2), (0, .ref o_b), (1, .int x1)]) hx hb dX5_coach_59 rfl hl (by decide) rfl (fun ls hl => ?_)
      refine lv_iload_n hx hb dX5_coach_60 rfl (lv_at hl 0 rfl) ?_
      refine lv_if_ge (tgt := 69) hx hb dX5_coach_61 (by decide) (fun c_61 => ?_) (fun c_61 => ?_)
      · replace hd := ob_t c_61 hd
        refine lv_iload_n hx hb dX5_coach_69 rfl (lv_at hl 0 rfl) ?_
        have e1 := Option.some.inj hd
        subst e1
        exact ob_iret hx hb hr hlocks hP hD hS dX5_coach_70
      · replace hd := ob_f c_61 hd
        refine lv_ldc hx hb hown kw1 dX5_coach_64 ?_
        refine lv_goto (tgt := 70) hx hb dX5_coach_66 (by decide) ?_
        have e1 := Option.some.inj hd
        subst e1
        exact ob_iret hx hb hr hlocks hP hD hS dX5_coach_70
    replace hd := ob_f c1_11 hd
    by_cases c2_11 : x1 = 2
    · replace hd := ob_t c2_11 hd
      refine lv_tableIn (off := 60) (tgt := 71) hx hb dX5_coach_11 (by rw [c2_11]; decide) (by rw [c2_11]; decide) (by rw [c2_11]; decide) (by decide) ?_
      refine lv_aload_n hx hb dX5_coach_71 rfl (lv_at hl 0 rfl) ?_
      refine va_get (D := (dC, dI)) (ci := 5) (v := .ref (a_b 12)) (C := RX5) (T := TX5) (N := 23) hx hb hts hi_X5 hown hK hP 0 rfl rfl 12 (by decide) kw0 (fun _ h9 => h9) rfl dX5_coach_72 ?_
      obtain ⟨r_3, hc_75, hd⟩ := ob_s1 hd
      refine ob_Si (isC := [5]) (isR := [0, 1, 2, 3, 4, 6, 7, 8, 9, 10, 11, 12, 13]) (is2 := [0, 1, 2, 3, 4, 13, 5, 6, 7, 8, 9, 10, 11, 12]) (wc := (ob_wa (a_b 12) cI 42 (b.2 12))) (wr := (List.filterMap (fun i => (ob_w5 o_b a_b cI cZ b)[i]?) [0, 1, 2, 3, 4, 6, 7, 8, 9, 10, 11, 12, 13])) (w1 := (ob_wa (a_b 12) cI 42 (b.2 12))) (w2 := (ob_w5 o_b a_b cI cZ b)) (As := [.ref (a_b 12)]) (rest := []) ⟨hx, hb, hml, hown, hts⟩ (mt_X5_openOf l dC dI cI cZ cR cW xs _ ((a_b 12)) ((b.2 12)) r_3 hc_75) (va_cwS 1 hts gX5_coach_X5_openOf rfl rfl rfl (by decide +kernel) ⟨Nat.le_of_ble_eq_true rfl, Nat.le_of_ble_eq_true rfl⟩) hK hE hP hD hS hA ⟨rfl, rfl, rfl, rfl, rfl, rfl, rfl⟩ hl rfl rfl (Nat.le_of_ble_eq_true rfl) ⟨Nat.le_of_ble_eq_true rfl, Nat.le_of_ble_eq_true rfl⟩ dX5_coach_75 (fun H locs hP hD hS => ?_)
      refine W.widen (k := 0) (n := 0) (Nat.le_refl _) (Nat.le_refl _) ?_
      have e1 := Option.some.inj hd
      subst e1
      exact ob_iret hx hb hr hlocks hP hD hS dX5_coach_78
    replace hd := ob_f c2_11 hd
    by_cases c3_11 : x1 = 3
    · replace hd := ob_t c3_11 hd
      refine lv_tableIn (off := 68) (tgt := 79) hx hb dX5_coach_11 (by rw [c3_11]; decide) (by rw [c3_11]; decide) (by rw [c3_11]; decide) (by decide) ?_
      refine lv_aload_n hx hb dX5_coach_79 rfl (lv_at hl 0 rfl) ?_
      refine va_get (D := (dC, dI)) (ci := 5) (v := .ref (a_b 12)) (C := RX5) (T := TX5) (N := 23) hx hb hts hi_X5 hown hK hP 0 rfl rfl 12 (by decide) kw0 (fun _ h9 => h9) rfl dX5_coach_80 ?_
      refine lv_iconst (v := 4) hx hb dX5_coach_83 (by decide) ?_
      refine va_iald hx hb hK hP 5 0 rfl rfl (by unfold vp_in; decide) dX5_coach_84 ?_
      have e1 := Option.some.inj hd
      subst e1
      exact ob_iret hx hb hr hlocks hP hD hS dX5_coach_85
    replace hd := ob_f c3_11 hd
    by_cases c4_11 : x1 = 4
    · replace hd := ob_t c4_11 hd
      refine lv_tableIn (off := 75) (tgt := 86) hx hb dX5_coach_11 (by rw [c4_11]; decide) (by rw [c4_11]; decide) (by rw [c4_11]; decide) (by decide) ?_
      refine lv_aload_n hx hb dX5_coach_86 rfl (lv_at hl 0 rfl) ?_
      refine va_get (D := (dC, dI)) (ci := 5) (v := .ref (a_b 12)) (C := RX5) (T := TX5) (N := 23) hx hb hts hi_X5 hown hK hP 0 rfl rfl 12 (by decide) kw0 (fun _ h9 => h9) rfl dX5_coach_87 ?_
      refine lv_iconst (v := 1) hx hb dX5_coach_90 (by decide) ?_
      refine va_iald hx hb hK hP 5 0 rfl rfl (by unfold vp_in; decide) dX5_coach_91 ?_
      have e1 := Option.some.inj hd
      subst e1
      exact ob_iret hx hb hr hlocks hP hD hS dX5_coach_92
    replace hd := ob_f c4_11 hd
    refine lv_tableOut (tgt := 93) hx hb dX5_coach_11 (by have n0 := lv_neT c0_11 (show (0 : Int32).toInt = 0 from rfl); have n1 := lv_neT c1_11 (show (1 : Int32).toInt = 1 from rfl); have n2 := lv_neT c2_11 (show (2 : Int32).toInt = 2 from rfl); have n3 := lv_neT c3_11 (show (3 : Int32).toInt = 3 from rfl); have n4 := lv_neT c4_11 (show (4 : Int32).toInt = 4 from rfl); omega) (by decide) ?_
    refine lv_ldc hx hb hown kw2 dX5_coach_93 ?_
    have e1 := Option.some.inj hd
    subst e1
    exact ob_iret hx hb hr hlocks hP hD hS dX5_coach_95
  · replace hd := ob_t c_4 hd
    refine lv_ldc hx hb hown kw3 dX5_coach_7 ?_
    have e1 := Option.some.inj hd
    subst e1
    exact ob_iret hx hb hr hlocks hP hD hS dX5_coach_9

def fd_X5_goOn_L21  (b : ob_B)  : Option (Int32 × ob_B) := some ((b.2 14) (Int32.toNatClampNeg 0), b)
def fd_X5_goOn_L2  : Nat → ob_B → Int32 → Int32 → Option (Int32 × ob_B)
  | 0, _, _, _ => none
  | fu + 1, b, x1, z2 => if x1 ≤ z2 then (fd_X5_goOn_L21 b) else (ob_b2 (fd_X5_pass ((b.2 14))) (fun r_1 f_2 => ob_lt (ob_A b 14 f_2 : ob_B) (fun b_3 => ob_lt (z2 + 1 : Int32) (fun x_4 => fd_X5_goOn_L2 fu b_3 x1 x_4))))
def fd_X5_goOn  (b : ob_B) (x1 : Int32) : Option (Int32 × ob_B) := fd_X5_goOn_L2 2000 b x1 0
set_option maxHeartbeats 4000000 in
set_option maxRecDepth 100000 in
theorem mt_X5_goOn (l : Launch) (dC : Nat → ClassId) (dI : Nat → Nat → Nat) (cI cZ cR cW : ClassId) (xs : Nat → Nat) (sz : Nat) (o_b : Nat) (a_b : Nat → Nat) (b : ob_B) (x1 : Int32)  (rr : Int32) (b' : ob_B) (hd : fd_X5_goOn b x1 = some (rr, b')) : ob_M l yX5_goOn wsX5_goOn ({ frames := 4, cells := 0, slots := 0, locals := 92 } : Room) (dC, dI) (ob_ty cI cZ cR cW) xs [.ref o_b, .int x1] (ob_w5 o_b a_b cI cZ b) sz (ob_Qi (dC, dI) rr (ob_w5 o_b a_b cI cZ b')) := by
  rw [fd_X5_goOn] at hd
  refine ob_in (cc := cX5_goOn) (maxL := 3) (ret := (some .int)) (own := RX5) (by decide) rfl rfl [(0, .ref o_b), (1, .int x1)] rfl (Nat.le_of_ble_eq_true rfl) ?_
  intro p e s m below meth c hx hb hr hml hown hts hlocks hnm hK A hA hE hP hD hS ls hl
  have kw0 := hts (.fieldLink RX5 28 "OathCoachModel" "tried" "[I") (by decide +kernel)
  have hi_X5 : ∀ w ∈ u_ws RX5 TX5 23, w ∈ wsX5_goOn := by decide +kernel
  have L21 : ∀ (H : Heap) (locs : List Loc) (b : ob_B)  (ls : Array Slot), va_P (dC, dI) vwCl (ob_w5 o_b a_b cI cZ b) H → va_D A (ob_w5 o_b a_b cI cZ b) → va_S A s.heap H locs → lv_has ls 3 [(0, .ref o_b)] → fd_X5_goOn_L21 b = some (rr, b') → W p l e ({ frames := 4, cells := 0, slots := 0, locals := 92 } : Room) s m (List.toArray [.ref o_b, .int x1]) below meth c H locs 0 0 (MQ below ((ob_Qi (dC, dI) rr (ob_w5 o_b a_b cI cZ b')) A) (List.toArray [.ref o_b, .int x1]) s 0 0 A) (F0 m 21 ls []) := by
    intro  H locs b ls hP hD hS hl hd
    rw [fd_X5_goOn_L21] at hd
    refine lv_aload_n hx hb dX5_goOn_21 rfl (lv_at hl 0 rfl) ?_
    refine va_get (D := (dC, dI)) (ci := 5) (v := .ref (a_b 14)) (C := RX5) (T := TX5) (N := 23) hx hb hts hi_X5 hown hK hP 0 rfl rfl 14 (by decide) kw0 (fun _ h9 => h9) rfl dX5_goOn_22 ?_
    refine lv_iconst (v := 0) hx hb dX5_goOn_25 (by decide) ?_
    refine va_iald hx hb hK hP 7 0 rfl rfl (by unfold vp_in; decide) dX5_goOn_26 ?_
    obtain ⟨e1, e2⟩ := ob_pp hd
    subst e1
    subst e2
    exact ob_iret hx hb hr hlocks hP hD hS dX5_goOn_27
  have L2 : ∀  (fu : Nat), ∀ (H : Heap) (locs : List Loc) (b : ob_B) (z2 : Int32) (ls : Array Slot), va_P (dC, dI) vwCl (ob_w5 o_b a_b cI cZ b) H → va_D A (ob_w5 o_b a_b cI cZ b) → va_S A s.heap H locs → lv_has ls 3 [(0, .ref o_b), (1, .int x1), (2, .int z2)] → fd_X5_goOn_L2 fu b x1 z2 = some (rr, b') → W p l e ({ frames := 4, cells := 0, slots := 0, locals := 92 } : Room) s m (List.toArray [.ref o_b, .int x1]) below meth c H locs 0 0 (MQ below ((ob_Qi (dC, dI) rr (ob_w5 o_b a_b cI cZ b')) A) (List.toArray [.ref o_b, .int x1]) s 0 0 A) (F0 m 2 ls []) := by
    intro  fu
    induction fu with
    | zero =>
      intro H locs b z2 ls hP hD hS hl hd
      rw [fd_X5_goOn_L2] at hd
      cases hd
    | succ fu ih =>
      intro H locs b z2 ls hP hD hS hl hd
      rw [fd_X5_goOn_L2] at hd
      refine lv_iload_n hx hb dX5_goOn_2 rfl (lv_at hl 2 rfl) ?_
      refine lv_iload_n hx hb dX5_goOn_3 rfl (lv_at hl 1 rfl) ?_
      refine lv_icmp_ge (tgt := 21) hx hb dX5_goOn_4 (by decide) (fun c_4 => ?_) (fun c_4 => ?_)
      · replace hd := ob_t c_4 hd
        exact L21   _ _ b _ hP hD hS (lv_sub hl [0] rfl) hd
      · replace hd := ob_f c_4 hd
        refine lv_aload_n hx hb dX5_goOn_7 rfl (lv_at hl 0 rfl) ?_
        refine va_get (D := (dC, dI)) (ci := 5) (v := .ref (a_b 14)) (C := RX5) (T := TX5) (N := 23) hx hb hts hi_X5 hown hK hP 0 rfl rfl 14 (by decide) kw0 (fun _ h9 => h9) rfl dX5_goOn_8 ?_
        obtain ⟨r_1, f_2, hc_11, hd⟩ := ob_s2 hd
        refine ob_Si (isC := [7]) (isR := [0, 1, 2, 3, 4, 5, 6, 8, 9, 10, 11, 12, 13]) (is2 := [0, 1, 2, 3, 4, 5, 6, 13, 7, 8, 9, 10, 11, 12]) (wc := (ob_wa (a_b 14) cI 42 (b.2 14))) (wr := (List.filterMap (fun i => (ob_w5 o_b a_b cI cZ b)[i]?) [0, 1, 2, 3, 4, 5, 6, 8, 9, 10, 11, 12, 13])) (w1 := (ob_wa (a_b 14) cI 42 f_2)) (w2 := (ob_w5 o_b a_b cI cZ (ob_A b 14 f_2))) (As := [.ref (a_b 14)]) (rest := []) ⟨hx, hb, hml, hown, hts⟩ (mt_X5_pass l dC dI cI cZ cR cW xs _ ((a_b 14)) ((b.2 14)) r_1 f_2 hc_11) (va_cwS 1 hts gX5_goOn_X5_pass rfl rfl rfl (by decide +kernel) ⟨Nat.le_of_ble_eq_true rfl, Nat.le_of_ble_eq_true rfl⟩) hK hE hP hD hS hA ⟨rfl, rfl, rfl, rfl, rfl, rfl, rfl⟩ hl rfl rfl (Nat.le_of_ble_eq_true rfl) ⟨Nat.le_of_ble_eq_true rfl, Nat.le_of_ble_eq_true rfl⟩ dX5_goOn_11 (fun H locs hP hD hS => ?_)
        refine W.widen (k := 0) (n := 0) (Nat.le_refl _) (Nat.le_refl _) ?_
        obtain ⟨b_3, eb_3⟩ : ∃ z : ob_B, z = ob_A b 14 f_2 := ⟨_, rfl⟩
        replace hd := ob_lx eb_3 hd
        replace hP : va_P (dC, dI) vwCl (ob_w5 o_b a_b cI cZ b_3) H := by rw [eb_3]; exact hP
        replace hD : va_D A (ob_w5 o_b a_b cI cZ b_3) := by rw [eb_3]; exact hD
        clear eb_3
        refine lv_pop hx hb dX5_goOn_14 rfl ?_
        obtain ⟨x_4, ex_4⟩ : ∃ z : Int32, z = z2 + 1 := ⟨_, rfl⟩
        replace hd := ob_lx ex_4 hd
        refine lv_iinc (v := x_4) (lv' := [(2, .int x_4), (0, .ref o_b), (1, .int x1)]) hx hb dX5_goOn_15 hl (k := 2) rfl (by rw [ex_4]; rfl) (by decide) rfl (fun ls hl => ?_)
        clear ex_4
        refine lv_goto (tgt := 2) hx hb dX5_goOn_18 (by decide) ?_
        exact ih _ _ b_3 x_4 _ hP hD hS (lv_sub hl [1, 2, 0] rfl) hd
  refine lv_iconst (v := 0) hx hb dX5_goOn_0 (by decide) ?_
  refine lv_istore_n (lv' := [(2, .int 0), (0, .ref o_b), (1, .int x1)]) hx hb dX5_goOn_1 rfl hl (by decide) rfl (fun ls hl => ?_)
  exact L2  2000 _ _ b 0 _ hP hD hS (lv_sub hl [1, 2, 0] rfl) hd

def fd_X5_begin  (b : ob_B)  : Option (ob_B) := ob_b1 (fd_X5_lay 42 42 ((b.2 12)) ((b.2 14)) 0 0) (fun f_1 => ob_lt (ob_A b 14 f_1 : ob_B) (fun b_2 => some (b_2)))
set_option maxHeartbeats 4000000 in
set_option maxRecDepth 100000 in
theorem mt_X5_begin (l : Launch) (dC : Nat → ClassId) (dI : Nat → Nat → Nat) (cI cZ cR cW : ClassId) (xs : Nat → Nat) (sz : Nat) (o_b : Nat) (a_b : Nat → Nat) (b : ob_B)   (b' : ob_B) (hd : fd_X5_begin b = some (b')) : ob_M l yX5_begin wsX5_begin ({ frames := 1, cells := 0, slots := 0, locals := 24 } : Room) (dC, dI) (ob_ty cI cZ cR cW) xs [.ref o_b] (ob_w5 o_b a_b cI cZ b) sz (ob_Qv (dC, dI) (ob_w5 o_b a_b cI cZ b')) := by
  rw [fd_X5_begin] at hd
  refine ob_in (cc := cX5_begin) (maxL := 1) (ret := none) (own := RX5) (by decide) rfl rfl [(0, .ref o_b)] rfl (Nat.le_of_ble_eq_true rfl) ?_
  intro p e s m below meth c hx hb hr hml hown hts hlocks hnm hK A hA hE hP hD hS ls hl
  have kw0 := hts (.fieldLink RX5 22 "OathCoachModel" "now" "[I") (by decide +kernel)
  have kw1 := hts (.fieldLink RX5 28 "OathCoachModel" "tried" "[I") (by decide +kernel)
  have hi_X5 : ∀ w ∈ u_ws RX5 TX5 23, w ∈ wsX5_begin := by decide +kernel
  refine lv_aload_n hx hb dX5_begin_0 rfl (lv_at hl 0 rfl) ?_
  refine va_get (D := (dC, dI)) (ci := 5) (v := .ref (a_b 12)) (C := RX5) (T := TX5) (N := 23) hx hb hts hi_X5 hown hK hP 0 rfl rfl 12 (by decide) kw0 (fun _ h9 => h9) rfl dX5_begin_1 ?_
  refine lv_iconst (v := 0) hx hb dX5_begin_4 (by decide) ?_
  refine lv_aload_n hx hb dX5_begin_5 rfl (lv_at hl 0 rfl) ?_
  refine va_get (D := (dC, dI)) (ci := 5) (v := .ref (a_b 14)) (C := RX5) (T := TX5) (N := 23) hx hb hts hi_X5 hown hK hP 0 rfl rfl 14 (by decide) kw1 (fun _ h9 => h9) rfl dX5_begin_6 ?_
  refine lv_iconst (v := 0) hx hb dX5_begin_9 (by decide) ?_
  obtain ⟨f_1, hc_10, hd⟩ := ob_s1 hd
  refine ob_Sv (isC := [5, 7]) (isR := [0, 1, 2, 3, 4, 6, 8, 9, 10, 11, 12, 13]) (is2 := [0, 1, 2, 3, 4, 12, 5, 13, 6, 7, 8, 9, 10, 11]) (wc := (ob_wa (a_b 12) cI 42 (b.2 12) ++ ob_wa (a_b 14) cI 42 (b.2 14))) (wr := (List.filterMap (fun i => (ob_w5 o_b a_b cI cZ b)[i]?) [0, 1, 2, 3, 4, 6, 8, 9, 10, 11, 12, 13])) (w1 := (ob_wa (a_b 12) cI 42 (b.2 12) ++ ob_wa (a_b 14) cI 42 f_1)) (w2 := (ob_w5 o_b a_b cI cZ (ob_A b 14 f_1))) (As := [.ref (a_b 12), .int 0, .ref (a_b 14), .int 0]) (rest := []) ⟨hx, hb, hml, hown, hts⟩ (mt_X5_lay l dC dI cI cZ cR cW xs _ ((a_b 12)) 42 ((a_b 14)) 42 ((b.2 12)) ((b.2 14)) 0 0 f_1 hc_10) (va_cwS 4 hts gX5_begin_X5_lay rfl rfl rfl (by decide +kernel) ⟨Nat.le_of_ble_eq_true rfl, Nat.le_of_ble_eq_true rfl⟩) hK hE hP hD hS hA ⟨rfl, rfl, rfl, rfl, rfl, rfl, rfl⟩ hl rfl rfl (Nat.le_of_ble_eq_true rfl) ⟨Nat.le_of_ble_eq_true rfl, Nat.le_of_ble_eq_true rfl⟩ dX5_begin_10 (fun H locs hP hD hS => ?_)
  refine W.widen (k := 0) (n := 0) (Nat.le_refl _) (Nat.le_refl _) ?_
  obtain ⟨b_2, eb_2⟩ : ∃ z : ob_B, z = ob_A b 14 f_1 := ⟨_, rfl⟩
  replace hd := ob_lx eb_2 hd
  replace hP : va_P (dC, dI) vwCl (ob_w5 o_b a_b cI cZ b_2) H := by rw [eb_2]; exact hP
  replace hD : va_D A (ob_w5 o_b a_b cI cZ b_2) := by rw [eb_2]; exact hD
  clear eb_2
  have e1 := Option.some.inj hd
  subst e1
  exact ob_vret hx hb hr hlocks hP hD hS dX5_begin_13

def fd_X5_ahead  (b : ob_B) (x1 : Int32) : Option (Int32 × ob_B) := ob_b1 (fd_X5_isRoute b) (fun r_1 => if r_1 = 0 then (some ((-1000002), b)) else (ob_b1 (fd_X5_in x1 0 60) (fun r_2 => if r_2 = 0 then (some ((-1000001), b)) else (ob_b1 (fd_X5_begin b) (fun b_3 => ob_b2 (fd_X5_goOn b_3 x1) (fun r_4 b_5 => some (r_4, b_5)))))))
set_option maxHeartbeats 4000000 in
set_option maxRecDepth 100000 in
theorem mt_X5_ahead (l : Launch) (dC : Nat → ClassId) (dI : Nat → Nat → Nat) (cI cZ cR cW : ClassId) (xs : Nat → Nat) (sz : Nat) (o_b : Nat) (a_b : Nat → Nat) (b : ob_B) (x1 : Int32)  (rr : Int32) (b' : ob_B) (hd : fd_X5_ahead b x1 = some (rr, b')) : ob_M l yX5_ahead wsX5_ahead ({ frames := 5, cells := 0, slots := 0, locals := 114 } : Room) (dC, dI) (ob_ty cI cZ cR cW) xs [.ref o_b, .int x1] (ob_w5 o_b a_b cI cZ b) sz (ob_Qi (dC, dI) rr (ob_w5 o_b a_b cI cZ b')) := by
  rw [fd_X5_ahead] at hd
  refine ob_in (cc := cX5_ahead) (maxL := 2) (ret := (some .int)) (own := RX5) (by decide) rfl rfl [(0, .ref o_b), (1, .int x1)] rfl (Nat.le_of_ble_eq_true rfl) ?_
  intro p e s m below meth c hx hb hr hml hown hts hlocks hnm hK A hA hE hP hD hS ls hl
  have kw0 := hts (.constant RX5 63 (-1000001)) (by decide +kernel)
  have kw1 := hts (.constant RX5 130 (-1000002)) (by decide +kernel)
  refine lv_aload_n hx hb dX5_ahead_0 rfl (lv_at hl 0 rfl) ?_
  obtain ⟨r_1, hc_1, hd⟩ := ob_s1 hd
  refine ob_Vi (isC := [0, 1, 2, 3, 4, 5, 6, 7, 8, 9, 10, 11, 12, 13]) (isR := []) (is2 := [0, 1, 2, 3, 4, 5, 6, 7, 8, 9, 10, 11, 12, 13]) (wc := (ob_w5 o_b a_b cI cZ b)) (wr := ([] : va_W)) (w1 := (ob_w5 o_b a_b cI cZ b)) (w2 := (ob_w5 o_b a_b cI cZ b)) (b := o_b) (As := []) (rest := []) ⟨hx, hb, hml, hown, hts⟩ (mt_X5_isRoute l dC dI cI cZ cR cW xs _ o_b a_b b r_1 hc_1) (cwV 0 hts gX5_ahead_X5_isRoute rfl rfl rfl (by decide +kernel) ⟨Nat.le_of_ble_eq_true rfl, Nat.le_of_ble_eq_true rfl⟩) hK hE hP hD hS hA ⟨rfl, rfl, rfl, rfl, rfl, rfl, rfl⟩ 5 0 rfl rfl rfl hl rfl rfl (Nat.le_of_ble_eq_true rfl) ⟨Nat.le_of_ble_eq_true rfl, Nat.le_of_ble_eq_true rfl⟩ dX5_ahead_1 (fun H locs hP hD hS => ?_)
  refine W.widen (k := 0) (n := 0) (Nat.le_refl _) (Nat.le_refl _) ?_
  refine lv_if_ne (tgt := 10) hx hb dX5_ahead_4 (by decide) (fun c_4 => ?_) (fun c_4 => ?_)
  · replace hd := ob_f c_4 hd
    refine lv_iload_n hx hb dX5_ahead_10 rfl (lv_at hl 1 rfl) ?_
    refine lv_iconst (v := 0) hx hb dX5_ahead_11 (by decide) ?_
    refine lv_bipush (v := 60) hx hb dX5_ahead_12 (by decide) ?_
    obtain ⟨r_2, hc_14, hd⟩ := ob_s1 hd
    refine ob_Si (isC := []) (isR := [0, 1, 2, 3, 4, 5, 6, 7, 8, 9, 10, 11, 12, 13]) (is2 := [0, 1, 2, 3, 4, 5, 6, 7, 8, 9, 10, 11, 12, 13]) (wc := ([] : va_W)) (wr := (List.filterMap (fun i => (ob_w5 o_b a_b cI cZ b)[i]?) [0, 1, 2, 3, 4, 5, 6, 7, 8, 9, 10, 11, 12, 13])) (w1 := ([] : va_W)) (w2 := (ob_w5 o_b a_b cI cZ b)) (As := [.int x1, .int 0, .int 60]) (rest := []) ⟨hx, hb, hml, hown, hts⟩ (mt_X5_in l dC dI cI cZ cR cW xs _ x1 0 60 r_2 hc_14) (va_cwS 3 hts gX5_ahead_X5_in rfl rfl rfl (by decide +kernel) ⟨Nat.le_of_ble_eq_true rfl, Nat.le_of_ble_eq_true rfl⟩) hK hE hP hD hS hA ⟨rfl, rfl, rfl, rfl, rfl, rfl, rfl⟩ hl rfl rfl (Nat.le_of_ble_eq_true rfl) ⟨Nat.le_of_ble_eq_true rfl, Nat.le_of_ble_eq_true rfl⟩ dX5_ahead_14 (fun H locs hP hD hS => ?_)
    refine W.widen (k := 0) (n := 0) (Nat.le_refl _) (Nat.le_refl _) ?_
    refine lv_if_ne (tgt := 23) hx hb dX5_ahead_17 (by decide) (fun c_17 => ?_) (fun c_17 => ?_)
    · replace hd := ob_f c_17 hd
      refine lv_aload_n hx hb dX5_ahead_23 rfl (lv_at hl 0 rfl) ?_
      obtain ⟨b_3, hc_24, hd⟩ := ob_s1 hd
      refine ob_Vv (isC := [0, 1, 2, 3, 4, 5, 6, 7, 8, 9, 10, 11, 12, 13]) (isR := []) (is2 := [0, 1, 2, 3, 4, 5, 6, 7, 8, 9, 10, 11, 12, 13]) (wc := (ob_w5 o_b a_b cI cZ b)) (wr := ([] : va_W)) (w1 := (ob_w5 o_b a_b cI cZ b_3)) (w2 := (ob_w5 o_b a_b cI cZ b_3)) (b := o_b) (As := []) (rest := []) ⟨hx, hb, hml, hown, hts⟩ (mt_X5_begin l dC dI cI cZ cR cW xs _ o_b a_b b b_3 hc_24) (cwV 0 hts gX5_ahead_X5_begin rfl rfl rfl (by decide +kernel) ⟨Nat.le_of_ble_eq_true rfl, Nat.le_of_ble_eq_true rfl⟩) hK hE hP hD hS hA ⟨rfl, rfl, rfl, rfl, rfl, rfl, rfl⟩ 5 0 rfl rfl rfl hl rfl rfl (Nat.le_of_ble_eq_true rfl) ⟨Nat.le_of_ble_eq_true rfl, Nat.le_of_ble_eq_true rfl⟩ dX5_ahead_24 (fun H locs hP hD hS => ?_)
      refine W.widen (k := 0) (n := 0) (Nat.le_refl _) (Nat.le_refl _) ?_
      refine lv_aload_n hx hb dX5_ahead_27 rfl (lv_at hl 0 rfl) ?_
      refine lv_iload_n hx hb dX5_ahead_28 rfl (lv_at hl 1 rfl) ?_
      obtain ⟨r_4, b_5, hc_29, hd⟩ := ob_s2 hd
      refine ob_Vi (isC := [0, 1, 2, 3, 4, 5, 6, 7, 8, 9, 10, 11, 12, 13]) (isR := []) (is2 := [0, 1, 2, 3, 4, 5, 6, 7, 8, 9, 10, 11, 12, 13]) (wc := (ob_w5 o_b a_b cI cZ b_3)) (wr := ([] : va_W)) (w1 := (ob_w5 o_b a_b cI cZ b_5)) (w2 := (ob_w5 o_b a_b cI cZ b_5)) (b := o_b) (As := [.int x1]) (rest := []) ⟨hx, hb, hml, hown, hts⟩ (mt_X5_goOn l dC dI cI cZ cR cW xs _ o_b a_b b_3 x1 r_4 b_5 hc_29) (cwV 1 hts gX5_ahead_X5_goOn rfl rfl rfl (by decide +kernel) ⟨Nat.le_of_ble_eq_true rfl, Nat.le_of_ble_eq_true rfl⟩) hK hE hP hD hS hA ⟨rfl, rfl, rfl, rfl, rfl, rfl, rfl⟩ 5 0 rfl rfl rfl hl rfl rfl (Nat.le_of_ble_eq_true rfl) ⟨Nat.le_of_ble_eq_true rfl, Nat.le_of_ble_eq_true rfl⟩ dX5_ahead_29 (fun H locs hP hD hS => ?_)
      refine W.widen (k := 0) (n := 0) (Nat.le_refl _) (Nat.le_refl _) ?_
      obtain ⟨e1, e2⟩ := ob_pp hd
      subst e1
      subst e2
      exact ob_iret hx hb hr hlocks hP hD hS dX5_ahead_32
    · replace hd := ob_t c_17 hd
      refine lv_ldc hx hb hown kw0 dX5_ahead_20 ?_
      obtain ⟨e1, e2⟩ := ob_pp hd
      subst e1
      subst e2
      exact ob_iret hx hb hr hlocks hP hD hS dX5_ahead_22
  · replace hd := ob_t c_4 hd
    refine lv_ldc hx hb hown kw1 dX5_ahead_7 ?_
    obtain ⟨e1, e2⟩ := ob_pp hd
    subst e1
    subst e2
    exact ob_iret hx hb hr hlocks hP hD hS dX5_ahead_9

def fd_X5_comesTo  (b : ob_B) (x1 : Int32) (x2 : Int32) : Option (Int32 × ob_B) := ob_b1 (fd_X5_isOne b x1) (fun r_1 => if r_1 = 0 then (some ((-1000001), b)) else (ob_b1 (fd_X5_in x2 0 60) (fun r_2 => if r_2 = 0 then (some ((-1000001), b)) else (ob_b1 (fd_X5_begin b) (fun b_3 => ob_b2 (fd_X5_goOn b_3 x2) (fun r_4 b_5 => if (35 + x1) < 0 ∨ 42 ≤ Int32.toNatClampNeg (35 + x1) then none else (some ((b_5.2 14) (Int32.toNatClampNeg (35 + x1)), b_5))))))))
set_option maxHeartbeats 4000000 in
set_option maxRecDepth 100000 in
theorem mt_X5_comesTo (l : Launch) (dC : Nat → ClassId) (dI : Nat → Nat → Nat) (cI cZ cR cW : ClassId) (xs : Nat → Nat) (sz : Nat) (o_b : Nat) (a_b : Nat → Nat) (b : ob_B) (x1 : Int32) (x2 : Int32)  (rr : Int32) (b' : ob_B) (hd : fd_X5_comesTo b x1 x2 = some (rr, b')) : ob_M l yX5_comesTo wsX5_comesTo ({ frames := 5, cells := 0, slots := 0, locals := 114 } : Room) (dC, dI) (ob_ty cI cZ cR cW) xs [.ref o_b, .int x1, .int x2] (ob_w5 o_b a_b cI cZ b) sz (ob_Qi (dC, dI) rr (ob_w5 o_b a_b cI cZ b')) := by
  rw [fd_X5_comesTo] at hd
  refine ob_in (cc := cX5_comesTo) (maxL := 3) (ret := (some .int)) (own := RX5) (by decide) rfl rfl [(0, .ref o_b), (1, .int x1), (2, .int x2)] rfl (Nat.le_of_ble_eq_true rfl) ?_
  intro p e s m below meth c hx hb hr hml hown hts hlocks hnm hK A hA hE hP hD hS ls hl
  have kw0 := hts (.constant RX5 63 (-1000001)) (by decide +kernel)
  have kw1 := hts (.fieldLink RX5 28 "OathCoachModel" "tried" "[I") (by decide +kernel)
  have hi_X5 : ∀ w ∈ u_ws RX5 TX5 23, w ∈ wsX5_comesTo := by decide +kernel
  refine lv_aload_n hx hb dX5_comesTo_0 rfl (lv_at hl 0 rfl) ?_
  refine lv_iload_n hx hb dX5_comesTo_1 rfl (lv_at hl 1 rfl) ?_
  obtain ⟨r_1, hc_2, hd⟩ := ob_s1 hd
  refine ob_Vi (isC := [0, 1, 2, 3, 4, 5, 6, 7, 8, 9, 10, 11, 12, 13]) (isR := []) (is2 := [0, 1, 2, 3, 4, 5, 6, 7, 8, 9, 10, 11, 12, 13]) (wc := (ob_w5 o_b a_b cI cZ b)) (wr := ([] : va_W)) (w1 := (ob_w5 o_b a_b cI cZ b)) (w2 := (ob_w5 o_b a_b cI cZ b)) (b := o_b) (As := [.int x1]) (rest := []) ⟨hx, hb, hml, hown, hts⟩ (mt_X5_isOne l dC dI cI cZ cR cW xs _ o_b a_b b x1 r_1 hc_2) (cwV 1 hts gX5_comesTo_X5_isOne rfl rfl rfl (by decide +kernel) ⟨Nat.le_of_ble_eq_true rfl, Nat.le_of_ble_eq_true rfl⟩) hK hE hP hD hS hA ⟨rfl, rfl, rfl, rfl, rfl, rfl, rfl⟩ 5 0 rfl rfl rfl hl rfl rfl (Nat.le_of_ble_eq_true rfl) ⟨Nat.le_of_ble_eq_true rfl, Nat.le_of_ble_eq_true rfl⟩ dX5_comesTo_2 (fun H locs hP hD hS => ?_)
  refine W.widen (k := 0) (n := 0) (Nat.le_refl _) (Nat.le_refl _) ?_
  refine lv_if_eq (tgt := 18) hx hb dX5_comesTo_5 (by decide) (fun c_5 => ?_) (fun c_5 => ?_)
  · replace hd := ob_t c_5 hd
    refine lv_ldc hx hb hown kw0 dX5_comesTo_18 ?_
    obtain ⟨e1, e2⟩ := ob_pp hd
    subst e1
    subst e2
    exact ob_iret hx hb hr hlocks hP hD hS dX5_comesTo_20
  · replace hd := ob_f c_5 hd
    refine lv_iload_n hx hb dX5_comesTo_8 rfl (lv_at hl 2 rfl) ?_
    refine lv_iconst (v := 0) hx hb dX5_comesTo_9 (by decide) ?_
    refine lv_bipush (v := 60) hx hb dX5_comesTo_10 (by decide) ?_
    obtain ⟨r_2, hc_12, hd⟩ := ob_s1 hd
    refine ob_Si (isC := []) (isR := [0, 1, 2, 3, 4, 5, 6, 7, 8, 9, 10, 11, 12, 13]) (is2 := [0, 1, 2, 3, 4, 5, 6, 7, 8, 9, 10, 11, 12, 13]) (wc := ([] : va_W)) (wr := (List.filterMap (fun i => (ob_w5 o_b a_b cI cZ b)[i]?) [0, 1, 2, 3, 4, 5, 6, 7, 8, 9, 10, 11, 12, 13])) (w1 := ([] : va_W)) (w2 := (ob_w5 o_b a_b cI cZ b)) (As := [.int x2, .int 0, .int 60]) (rest := []) ⟨hx, hb, hml, hown, hts⟩ (mt_X5_in l dC dI cI cZ cR cW xs _ x2 0 60 r_2 hc_12) (va_cwS 3 hts gX5_comesTo_X5_in rfl rfl rfl (by decide +kernel) ⟨Nat.le_of_ble_eq_true rfl, Nat.le_of_ble_eq_true rfl⟩) hK hE hP hD hS hA ⟨rfl, rfl, rfl, rfl, rfl, rfl, rfl⟩ hl rfl rfl (Nat.le_of_ble_eq_true rfl) ⟨Nat.le_of_ble_eq_true rfl, Nat.le_of_ble_eq_true rfl⟩ dX5_comesTo_12 (fun H locs hP hD hS => ?_)
    refine W.widen (k := 0) (n := 0) (Nat.le_refl _) (Nat.le_refl _) ?_
    refine lv_if_ne (tgt := 21) hx hb dX5_comesTo_15 (by decide) (fun c_15 => ?_) (fun c_15 => ?_)
    · replace hd := ob_f c_15 hd
      refine lv_aload_n hx hb dX5_comesTo_21 rfl (lv_at hl 0 rfl) ?_
      obtain ⟨b_3, hc_22, hd⟩ := ob_s1 hd
      refine ob_Vv (isC := [0, 1, 2, 3, 4, 5, 6, 7, 8, 9, 10, 11, 12, 13]) (isR := []) (is2 := [0, 1, 2, 3, 4, 5, 6, 7, 8, 9, 10, 11, 12, 13]) (wc := (ob_w5 o_b a_b cI cZ b)) (wr := ([] : va_W)) (w1 := (ob_w5 o_b a_b cI cZ b_3)) (w2 := (ob_w5 o_b a_b cI cZ b_3)) (b := o_b) (As := []) (rest := []) ⟨hx, hb, hml, hown, hts⟩ (mt_X5_begin l dC dI cI cZ cR cW xs _ o_b a_b b b_3 hc_22) (cwV 0 hts gX5_comesTo_X5_begin rfl rfl rfl (by decide +kernel) ⟨Nat.le_of_ble_eq_true rfl, Nat.le_of_ble_eq_true rfl⟩) hK hE hP hD hS hA ⟨rfl, rfl, rfl, rfl, rfl, rfl, rfl⟩ 5 0 rfl rfl rfl hl rfl rfl (Nat.le_of_ble_eq_true rfl) ⟨Nat.le_of_ble_eq_true rfl, Nat.le_of_ble_eq_true rfl⟩ dX5_comesTo_22 (fun H locs hP hD hS => ?_)
      refine W.widen (k := 0) (n := 0) (Nat.le_refl _) (Nat.le_refl _) ?_
      refine lv_aload_n hx hb dX5_comesTo_25 rfl (lv_at hl 0 rfl) ?_
      refine lv_iload_n hx hb dX5_comesTo_26 rfl (lv_at hl 2 rfl) ?_
      obtain ⟨r_4, b_5, hc_27, hd⟩ := ob_s2 hd
      refine ob_Vi (isC := [0, 1, 2, 3, 4, 5, 6, 7, 8, 9, 10, 11, 12, 13]) (isR := []) (is2 := [0, 1, 2, 3, 4, 5, 6, 7, 8, 9, 10, 11, 12, 13]) (wc := (ob_w5 o_b a_b cI cZ b_3)) (wr := ([] : va_W)) (w1 := (ob_w5 o_b a_b cI cZ b_5)) (w2 := (ob_w5 o_b a_b cI cZ b_5)) (b := o_b) (As := [.int x2]) (rest := []) ⟨hx, hb, hml, hown, hts⟩ (mt_X5_goOn l dC dI cI cZ cR cW xs _ o_b a_b b_3 x2 r_4 b_5 hc_27) (cwV 1 hts gX5_comesTo_X5_goOn rfl rfl rfl (by decide +kernel) ⟨Nat.le_of_ble_eq_true rfl, Nat.le_of_ble_eq_true rfl⟩) hK hE hP hD hS hA ⟨rfl, rfl, rfl, rfl, rfl, rfl, rfl⟩ 5 0 rfl rfl rfl hl rfl rfl (Nat.le_of_ble_eq_true rfl) ⟨Nat.le_of_ble_eq_true rfl, Nat.le_of_ble_eq_true rfl⟩ dX5_comesTo_27 (fun H locs hP hD hS => ?_)
      refine W.widen (k := 0) (n := 0) (Nat.le_refl _) (Nat.le_refl _) ?_
      refine lv_pop hx hb dX5_comesTo_30 rfl ?_
      refine lv_aload_n hx hb dX5_comesTo_31 rfl (lv_at hl 0 rfl) ?_
      refine va_get (D := (dC, dI)) (ci := 5) (v := .ref (a_b 14)) (C := RX5) (T := TX5) (N := 23) hx hb hts hi_X5 hown hK hP 0 rfl rfl 14 (by decide) kw1 (fun _ h9 => h9) rfl dX5_comesTo_32 ?_
      refine lv_bipush (v := 35) hx hb dX5_comesTo_35 (by decide) ?_
      refine lv_iload_n hx hb dX5_comesTo_37 rfl (lv_at hl 1 rfl) ?_
      refine lv_iadd hx hb dX5_comesTo_38 ?_
      obtain ⟨h1_39, hd⟩ := ob_nn hd
      refine va_iald hx hb hK hP 7 0 rfl rfl h1_39 dX5_comesTo_39 ?_
      obtain ⟨e1, e2⟩ := ob_pp hd
      subst e1
      subst e2
      exact ob_iret hx hb hr hlocks hP hD hS dX5_comesTo_40
    · replace hd := ob_t c_15 hd
      refine lv_ldc hx hb hown kw0 dX5_comesTo_18 ?_
      obtain ⟨e1, e2⟩ := ob_pp hd
      subst e1
      subst e2
      exact ob_iret hx hb hr hlocks hP hD hS dX5_comesTo_20

def fd_X5_kept_L17  : Nat → ob_B → Int32 → Int32 → Option (Int32 × ob_B)
  | 0, _, _, _ => none
  | fu + 1, b, x1, z2 => if 60 < z2 then (some ((-1000000), b)) else (if (35 + x1) < 0 ∨ 42 ≤ Int32.toNatClampNeg (35 + x1) then none else (if ((b.2 14) (Int32.toNatClampNeg (35 + x1))) = 0 then (ob_b2 (fd_X5_pass ((b.2 14))) (fun r_3 f_4 => ob_lt (ob_A b 14 f_4 : ob_B) (fun b_5 => ob_lt (z2 + 1 : Int32) (fun x_6 => fd_X5_kept_L17 fu b_5 x1 x_6)))) else (some (z2, b))))
def fd_X5_kept  (b : ob_B) (x1 : Int32) : Option (Int32 × ob_B) := ob_b1 (fd_X5_isOne b x1) (fun r_1 => if r_1 = 0 then (some ((-1000001), b)) else (ob_b1 (fd_X5_begin b) (fun b_2 => fd_X5_kept_L17 2000 b_2 x1 0)))
set_option maxHeartbeats 4000000 in
set_option maxRecDepth 100000 in
theorem mt_X5_kept (l : Launch) (dC : Nat → ClassId) (dI : Nat → Nat → Nat) (cI cZ cR cW : ClassId) (xs : Nat → Nat) (sz : Nat) (o_b : Nat) (a_b : Nat → Nat) (b : ob_B) (x1 : Int32)  (rr : Int32) (b' : ob_B) (hd : fd_X5_kept b x1 = some (rr, b')) : ob_M l yX5_kept wsX5_kept ({ frames := 4, cells := 0, slots := 0, locals := 92 } : Room) (dC, dI) (ob_ty cI cZ cR cW) xs [.ref o_b, .int x1] (ob_w5 o_b a_b cI cZ b) sz (ob_Qi (dC, dI) rr (ob_w5 o_b a_b cI cZ b')) := by
  rw [fd_X5_kept] at hd
  refine ob_in (cc := cX5_kept) (maxL := 3) (ret := (some .int)) (own := RX5) (by decide) rfl rfl [(0, .ref o_b), (1, .int x1)] rfl (Nat.le_of_ble_eq_true rfl) ?_
  intro p e s m below meth c hx hb hr hml hown hts hlocks hnm hK A hA hE hP hD hS ls hl
  have kw0 := hts (.constant RX5 63 (-1000001)) (by decide +kernel)
  have kw1 := hts (.constant RX5 163 (-1000000)) (by decide +kernel)
  have kw2 := hts (.fieldLink RX5 28 "OathCoachModel" "tried" "[I") (by decide +kernel)
  have hi_X5 : ∀ w ∈ u_ws RX5 TX5 23, w ∈ wsX5_kept := by decide +kernel
  have L17 : ∀  (fu : Nat), ∀ (H : Heap) (locs : List Loc) (b : ob_B) (z2 : Int32) (ls : Array Slot), va_P (dC, dI) vwCl (ob_w5 o_b a_b cI cZ b) H → va_D A (ob_w5 o_b a_b cI cZ b) → va_S A s.heap H locs → lv_has ls 3 [(0, .ref o_b), (1, .int x1), (2, .int z2)] → fd_X5_kept_L17 fu b x1 z2 = some (rr, b') → W p l e ({ frames := 4, cells := 0, slots := 0, locals := 92 } : Room) s m (List.toArray [.ref o_b, .int x1]) below meth c H locs 0 0 (MQ below ((ob_Qi (dC, dI) rr (ob_w5 o_b a_b cI cZ b')) A) (List.toArray [.ref o_b, .int x1]) s 0 0 A) (F0 m 17 ls []) := by
    intro  fu
    induction fu with
    | zero =>
      intro H locs b z2 ls hP hD hS hl hd
      rw [fd_X5_kept_L17] at hd
      cases hd
    | succ fu ih =>
      intro H locs b z2 ls hP hD hS hl hd
      rw [fd_X5_kept_L17] at hd
      refine lv_iload_n hx hb dX5_kept_17 rfl (lv_at hl 2 rfl) ?_
      refine lv_bipush (v := 60) hx hb dX5_kept_18 (by decide) ?_
      refine lv_icmp_gt (tgt := 51) hx hb dX5_kept_20 (by decide) (fun c_20 => ?_) (fun c_20 => ?_)
      · replace hd := ob_t c_20 hd
        refine lv_ldc hx hb hown kw1 dX5_kept_51 ?_
        obtain ⟨e1, e2⟩ := ob_pp hd
        subst e1
        subst e2
        exact ob_iret hx hb hr hlocks hP hD hS dX5_kept_53
      · replace hd := ob_f c_20 hd
        refine lv_aload_n hx hb dX5_kept_23 rfl (lv_at hl 0 rfl) ?_
        refine va_get (D := (dC, dI)) (ci := 5) (v := .ref (a_b 14)) (C := RX5) (T := TX5) (N := 23) hx hb hts hi_X5 hown hK hP 0 rfl rfl 14 (by decide) kw2 (fun _ h9 => h9) rfl dX5_kept_24 ?_
        refine lv_bipush (v := 35) hx hb dX5_kept_27 (by decide) ?_
        refine lv_iload_n hx hb dX5_kept_29 rfl (lv_at hl 1 rfl) ?_
        refine lv_iadd hx hb dX5_kept_30 ?_
        obtain ⟨h1_31, hd⟩ := ob_nn hd
        refine va_iald hx hb hK hP 7 0 rfl rfl h1_31 dX5_kept_31 ?_
        refine lv_if_eq (tgt := 37) hx hb dX5_kept_32 (by decide) (fun c_32 => ?_) (fun c_32 => ?_)
        · replace hd := ob_t c_32 hd
          refine lv_aload_n hx hb dX5_kept_37 rfl (lv_at hl 0 rfl) ?_
          refine va_get (D := (dC, dI)) (ci := 5) (v := .ref (a_b 14)) (C := RX5) (T := TX5) (N := 23) hx hb hts hi_X5 hown hK hP 0 rfl rfl 14 (by decide) kw2 (fun _ h9 => h9) rfl dX5_kept_38 ?_
          obtain ⟨r_3, f_4, hc_41, hd⟩ := ob_s2 hd
          refine ob_Si (isC := [7]) (isR := [0, 1, 2, 3, 4, 5, 6, 8, 9, 10, 11, 12, 13]) (is2 := [0, 1, 2, 3, 4, 5, 6, 13, 7, 8, 9, 10, 11, 12]) (wc := (ob_wa (a_b 14) cI 42 (b.2 14))) (wr := (List.filterMap (fun i => (ob_w5 o_b a_b cI cZ b)[i]?) [0, 1, 2, 3, 4, 5, 6, 8, 9, 10, 11, 12, 13])) (w1 := (ob_wa (a_b 14) cI 42 f_4)) (w2 := (ob_w5 o_b a_b cI cZ (ob_A b 14 f_4))) (As := [.ref (a_b 14)]) (rest := []) ⟨hx, hb, hml, hown, hts⟩ (mt_X5_pass l dC dI cI cZ cR cW xs _ ((a_b 14)) ((b.2 14)) r_3 f_4 hc_41) (va_cwS 1 hts gX5_kept_X5_pass rfl rfl rfl (by decide +kernel) ⟨Nat.le_of_ble_eq_true rfl, Nat.le_of_ble_eq_true rfl⟩) hK hE hP hD hS hA ⟨rfl, rfl, rfl, rfl, rfl, rfl, rfl⟩ hl rfl rfl (Nat.le_of_ble_eq_true rfl) ⟨Nat.le_of_ble_eq_true rfl, Nat.le_of_ble_eq_true rfl⟩ dX5_kept_41 (fun H locs hP hD hS => ?_)
          refine W.widen (k := 0) (n := 0) (Nat.le_refl _) (Nat.le_refl _) ?_
          obtain ⟨b_5, eb_5⟩ : ∃ z : ob_B, z = ob_A b 14 f_4 := ⟨_, rfl⟩
          replace hd := ob_lx eb_5 hd
          replace hP : va_P (dC, dI) vwCl (ob_w5 o_b a_b cI cZ b_5) H := by rw [eb_5]; exact hP
          replace hD : va_D A (ob_w5 o_b a_b cI cZ b_5) := by rw [eb_5]; exact hD
          clear eb_5
          refine lv_pop hx hb dX5_kept_44 rfl ?_
          obtain ⟨x_6, ex_6⟩ : ∃ z : Int32, z = z2 + 1 := ⟨_, rfl⟩
          replace hd := ob_lx ex_6 hd
          refine lv_iinc (v := x_6) (lv' := [(2, .int x_6), (0, .ref o_b), (1, .int x1)]) hx hb dX5_kept_45 hl (k := 2) rfl (by rw [ex_6]; rfl) (by decide) rfl (fun ls hl => ?_)
          clear ex_6
          refine lv_goto (tgt := 17) hx hb dX5_kept_48 (by decide) ?_
          exact ih _ _ b_5 x_6 _ hP hD hS (lv_sub hl [1, 2, 0] rfl) hd
        · replace hd := ob_f c_32 hd
          refine lv_iload_n hx hb dX5_kept_35 rfl (lv_at hl 2 rfl) ?_
          obtain ⟨e1, e2⟩ := ob_pp hd
          subst e1
          subst e2
          exact ob_iret hx hb hr hlocks hP hD hS dX5_kept_36
  refine lv_aload_n hx hb dX5_kept_0 rfl (lv_at hl 0 rfl) ?_
  refine lv_iload_n hx hb dX5_kept_1 rfl (lv_at hl 1 rfl) ?_
  obtain ⟨r_1, hc_2, hd⟩ := ob_s1 hd
  refine ob_Vi (isC := [0, 1, 2, 3, 4, 5, 6, 7, 8, 9, 10, 11, 12, 13]) (isR := []) (is2 := [0, 1, 2, 3, 4, 5, 6, 7, 8, 9, 10, 11, 12, 13]) (wc := (ob_w5 o_b a_b cI cZ b)) (wr := ([] : va_W)) (w1 := (ob_w5 o_b a_b cI cZ b)) (w2 := (ob_w5 o_b a_b cI cZ b)) (b := o_b) (As := [.int x1]) (rest := []) ⟨hx, hb, hml, hown, hts⟩ (mt_X5_isOne l dC dI cI cZ cR cW xs _ o_b a_b b x1 r_1 hc_2) (cwV 1 hts gX5_kept_X5_isOne rfl rfl rfl (by decide +kernel) ⟨Nat.le_of_ble_eq_true rfl, Nat.le_of_ble_eq_true rfl⟩) hK hE hP hD hS hA ⟨rfl, rfl, rfl, rfl, rfl, rfl, rfl⟩ 5 0 rfl rfl rfl hl rfl rfl (Nat.le_of_ble_eq_true rfl) ⟨Nat.le_of_ble_eq_true rfl, Nat.le_of_ble_eq_true rfl⟩ dX5_kept_2 (fun H locs hP hD hS => ?_)
  refine W.widen (k := 0) (n := 0) (Nat.le_refl _) (Nat.le_refl _) ?_
  refine lv_if_ne (tgt := 11) hx hb dX5_kept_5 (by decide) (fun c_5 => ?_) (fun c_5 => ?_)
  · replace hd := ob_f c_5 hd
    refine lv_aload_n hx hb dX5_kept_11 rfl (lv_at hl 0 rfl) ?_
    obtain ⟨b_2, hc_12, hd⟩ := ob_s1 hd
    refine ob_Vv (isC := [0, 1, 2, 3, 4, 5, 6, 7, 8, 9, 10, 11, 12, 13]) (isR := []) (is2 := [0, 1, 2, 3, 4, 5, 6, 7, 8, 9, 10, 11, 12, 13]) (wc := (ob_w5 o_b a_b cI cZ b)) (wr := ([] : va_W)) (w1 := (ob_w5 o_b a_b cI cZ b_2)) (w2 := (ob_w5 o_b a_b cI cZ b_2)) (b := o_b) (As := []) (rest := []) ⟨hx, hb, hml, hown, hts⟩ (mt_X5_begin l dC dI cI cZ cR cW xs _ o_b a_b b b_2 hc_12) (cwV 0 hts gX5_kept_X5_begin rfl rfl rfl (by decide +kernel) ⟨Nat.le_of_ble_eq_true rfl, Nat.le_of_ble_eq_true rfl⟩) hK hE hP hD hS hA ⟨rfl, rfl, rfl, rfl, rfl, rfl, rfl⟩ 5 0 rfl rfl rfl hl rfl rfl (Nat.le_of_ble_eq_true rfl) ⟨Nat.le_of_ble_eq_true rfl, Nat.le_of_ble_eq_true rfl⟩ dX5_kept_12 (fun H locs hP hD hS => ?_)
    refine W.widen (k := 0) (n := 0) (Nat.le_refl _) (Nat.le_refl _) ?_
    refine lv_iconst (v := 0) hx hb dX5_kept_15 (by decide) ?_
    refine lv_istore_n (lv' := [(2, .int 0), (0, .ref o_b), (1, .int x1)]) hx hb dX5_kept_16 rfl hl (by decide) rfl (fun ls hl => ?_)
    exact L17  2000 _ _ b_2 0 _ hP hD hS (lv_sub hl [1, 2, 0] rfl) hd
  · replace hd := ob_t c_5 hd
    refine lv_ldc hx hb hown kw0 dX5_kept_8 ?_
    obtain ⟨e1, e2⟩ := ob_pp hd
    subst e1
    subst e2
    exact ob_iret hx hb hr hlocks hP hD hS dX5_kept_10

def fd_X5_layPlaces_L6  : Nat → ob_B → Int32 → Option (ob_B)
  | 0, _, _ => none
  | fu + 1, b, z1 => if 71 ≤ z1 then (some (b)) else (ob_lt ((b.2 14) (Int32.toNatClampNeg 0) : Int32) (fun x_2 => if z1 < 0 ∨ 71 ≤ Int32.toNatClampNeg z1 then none else (ob_lt (ob_A b 22 (upd (b.2 22) (Int32.toNatClampNeg z1) x_2) : ob_B) (fun b_3 => ob_b2 (fd_X5_pass ((b_3.2 14))) (fun r_4 f_5 => ob_lt (ob_A b_3 14 f_5 : ob_B) (fun b_6 => ob_lt (z1 + 1 : Int32) (fun x_7 => fd_X5_layPlaces_L6 fu b_6 x_7)))))))
def fd_X5_layPlaces  (b : ob_B)  : Option (ob_B) := ob_b1 (fd_X5_begin b) (fun b_1 => fd_X5_layPlaces_L6 2000 b_1 0)
set_option maxHeartbeats 4000000 in
set_option maxRecDepth 100000 in
theorem mt_X5_layPlaces (l : Launch) (dC : Nat → ClassId) (dI : Nat → Nat → Nat) (cI cZ cR cW : ClassId) (xs : Nat → Nat) (sz : Nat) (o_b : Nat) (a_b : Nat → Nat) (b : ob_B)   (b' : ob_B) (hd : fd_X5_layPlaces b = some (b')) : ob_M l yX5_layPlaces wsX5_layPlaces ({ frames := 4, cells := 0, slots := 0, locals := 92 } : Room) (dC, dI) (ob_ty cI cZ cR cW) xs [.ref o_b] (ob_w5 o_b a_b cI cZ b) sz (ob_Qv (dC, dI) (ob_w5 o_b a_b cI cZ b')) := by
  rw [fd_X5_layPlaces] at hd
  refine ob_in (cc := cX5_layPlaces) (maxL := 2) (ret := none) (own := RX5) (by decide) rfl rfl [(0, .ref o_b)] rfl (Nat.le_of_ble_eq_true rfl) ?_
  intro p e s m below meth c hx hb hr hml hown hts hlocks hnm hK A hA hE hP hD hS ls hl
  have kw0 := hts (.fieldLink RX5 47 "OathCoachModel" "places" "[I") (by decide +kernel)
  have kw1 := hts (.fieldLink RX5 28 "OathCoachModel" "tried" "[I") (by decide +kernel)
  have hi_X5 : ∀ w ∈ u_ws RX5 TX5 23, w ∈ wsX5_layPlaces := by decide +kernel
  have L6 : ∀  (fu : Nat), ∀ (H : Heap) (locs : List Loc) (b : ob_B) (z1 : Int32) (ls : Array Slot), va_P (dC, dI) vwCl (ob_w5 o_b a_b cI cZ b) H → va_D A (ob_w5 o_b a_b cI cZ b) → va_S A s.heap H locs → lv_has ls 2 [(0, .ref o_b), (1, .int z1)] → fd_X5_layPlaces_L6 fu b z1 = some (b') → W p l e ({ frames := 4, cells := 0, slots := 0, locals := 92 } : Room) s m (List.toArray [.ref o_b]) below meth c H locs 0 0 (MQ below ((ob_Qv (dC, dI) (ob_w5 o_b a_b cI cZ b')) A) (List.toArray [.ref o_b]) s 0 0 A) (F0 m 6 ls []) := by
    intro  fu
    induction fu with
    | zero =>
      intro H locs b z1 ls hP hD hS hl hd
      rw [fd_X5_layPlaces_L6] at hd
      cases hd
    | succ fu ih =>
      intro H locs b z1 ls hP hD hS hl hd
      rw [fd_X5_layPlaces_L6] at hd
      refine lv_iload_n hx hb dX5_layPlaces_6 rfl (lv_at hl 1 rfl) ?_
      refine lv_bipush (v := 71) hx hb dX5_layPlaces_7 (by decide) ?_
      refine lv_icmp_ge (tgt := 38) hx hb dX5_layPlaces_9 (by decide) (fun c_9 => ?_) (fun c_9 => ?_)
      · replace hd := ob_t c_9 hd
        have e1 := Option.some.inj hd
        subst e1
        exact ob_vret hx hb hr hlocks hP hD hS dX5_layPlaces_38
      · replace hd := ob_f c_9 hd
        refine lv_aload_n hx hb dX5_layPlaces_12 rfl (lv_at hl 0 rfl) ?_
        refine va_get (D := (dC, dI)) (ci := 5) (v := .ref (a_b 22)) (C := RX5) (T := TX5) (N := 23) hx hb hts hi_X5 hown hK hP 0 rfl rfl 22 (by decide) kw0 (fun _ h9 => h9) rfl dX5_layPlaces_13 ?_
        refine lv_iload_n hx hb dX5_layPlaces_16 rfl (lv_at hl 1 rfl) ?_
        refine lv_aload_n hx hb dX5_layPlaces_17 rfl (lv_at hl 0 rfl) ?_
        refine va_get (D := (dC, dI)) (ci := 5) (v := .ref (a_b 14)) (C := RX5) (T := TX5) (N := 23) hx hb hts hi_X5 hown hK hP 0 rfl rfl 14 (by decide) kw1 (fun _ h9 => h9) rfl dX5_layPlaces_18 ?_
        refine lv_iconst (v := 0) hx hb dX5_layPlaces_21 (by decide) ?_
        refine va_iald hx hb hK hP 7 0 rfl rfl (by unfold vp_in; decide) dX5_layPlaces_22 ?_
        refine lv_topi (fun x_2 ex_2 => ?_)
        replace hd := ob_lx ex_2 hd
        clear ex_2
        obtain ⟨h1_23, hd⟩ := ob_nn hd
        refine va_iast hx hb hK hP hD hS 13 0 rfl rfl h1_23 dX5_layPlaces_23 (fun H locs hP hD hS => ?_)
        obtain ⟨b_3, eb_3⟩ : ∃ z : ob_B, z = ob_A b 22 (upd (b.2 22) (Int32.toNatClampNeg z1) x_2) := ⟨_, rfl⟩
        replace hd := ob_lx eb_3 hd
        replace hP : va_P (dC, dI) vwCl (ob_w5 o_b a_b cI cZ b_3) H := by rw [eb_3]; exact hP
        replace hD : va_D A (ob_w5 o_b a_b cI cZ b_3) := by rw [eb_3]; exact hD
        clear eb_3
        refine lv_aload_n hx hb dX5_layPlaces_24 rfl (lv_at hl 0 rfl) ?_
        refine va_get (D := (dC, dI)) (ci := 5) (v := .ref (a_b 14)) (C := RX5) (T := TX5) (N := 23) hx hb hts hi_X5 hown hK hP 0 rfl rfl 14 (by decide) kw1 (fun _ h9 => h9) rfl dX5_layPlaces_25 ?_
        obtain ⟨r_4, f_5, hc_28, hd⟩ := ob_s2 hd
        refine ob_Si (isC := [7]) (isR := [0, 1, 2, 3, 4, 5, 6, 8, 9, 10, 11, 12, 13]) (is2 := [0, 1, 2, 3, 4, 5, 6, 13, 7, 8, 9, 10, 11, 12]) (wc := (ob_wa (a_b 14) cI 42 (b_3.2 14))) (wr := (List.filterMap (fun i => (ob_w5 o_b a_b cI cZ b_3)[i]?) [0, 1, 2, 3, 4, 5, 6, 8, 9, 10, 11, 12, 13])) (w1 := (ob_wa (a_b 14) cI 42 f_5)) (w2 := (ob_w5 o_b a_b cI cZ (ob_A b_3 14 f_5))) (As := [.ref (a_b 14)]) (rest := []) ⟨hx, hb, hml, hown, hts⟩ (mt_X5_pass l dC dI cI cZ cR cW xs _ ((a_b 14)) ((b_3.2 14)) r_4 f_5 hc_28) (va_cwS 1 hts gX5_layPlaces_X5_pass rfl rfl rfl (by decide +kernel) ⟨Nat.le_of_ble_eq_true rfl, Nat.le_of_ble_eq_true rfl⟩) hK hE hP hD hS hA ⟨rfl, rfl, rfl, rfl, rfl, rfl, rfl⟩ hl rfl rfl (Nat.le_of_ble_eq_true rfl) ⟨Nat.le_of_ble_eq_true rfl, Nat.le_of_ble_eq_true rfl⟩ dX5_layPlaces_28 (fun H locs hP hD hS => ?_)
        refine W.widen (k := 0) (n := 0) (Nat.le_refl _) (Nat.le_refl _) ?_
        obtain ⟨b_6, eb_6⟩ : ∃ z : ob_B, z = ob_A b_3 14 f_5 := ⟨_, rfl⟩
        replace hd := ob_lx eb_6 hd
        replace hP : va_P (dC, dI) vwCl (ob_w5 o_b a_b cI cZ b_6) H := by rw [eb_6]; exact hP
        replace hD : va_D A (ob_w5 o_b a_b cI cZ b_6) := by rw [eb_6]; exact hD
        clear eb_6
        refine lv_pop hx hb dX5_layPlaces_31 rfl ?_
        obtain ⟨x_7, ex_7⟩ : ∃ z : Int32, z = z1 + 1 := ⟨_, rfl⟩
        replace hd := ob_lx ex_7 hd
        refine lv_iinc (v := x_7) (lv' := [(1, .int x_7), (0, .ref o_b)]) hx hb dX5_layPlaces_32 hl (k := 1) rfl (by rw [ex_7]; rfl) (by decide) rfl (fun ls hl => ?_)
        clear ex_7
        refine lv_goto (tgt := 6) hx hb dX5_layPlaces_35 (by decide) ?_
        exact ih _ _ b_6 x_7 _ hP hD hS (lv_sub hl [1, 0] rfl) hd
  refine lv_aload_n hx hb dX5_layPlaces_0 rfl (lv_at hl 0 rfl) ?_
  obtain ⟨b_1, hc_1, hd⟩ := ob_s1 hd
  refine ob_Vv (isC := [0, 1, 2, 3, 4, 5, 6, 7, 8, 9, 10, 11, 12, 13]) (isR := []) (is2 := [0, 1, 2, 3, 4, 5, 6, 7, 8, 9, 10, 11, 12, 13]) (wc := (ob_w5 o_b a_b cI cZ b)) (wr := ([] : va_W)) (w1 := (ob_w5 o_b a_b cI cZ b_1)) (w2 := (ob_w5 o_b a_b cI cZ b_1)) (b := o_b) (As := []) (rest := []) ⟨hx, hb, hml, hown, hts⟩ (mt_X5_begin l dC dI cI cZ cR cW xs _ o_b a_b b b_1 hc_1) (cwV 0 hts gX5_layPlaces_X5_begin rfl rfl rfl (by decide +kernel) ⟨Nat.le_of_ble_eq_true rfl, Nat.le_of_ble_eq_true rfl⟩) hK hE hP hD hS hA ⟨rfl, rfl, rfl, rfl, rfl, rfl, rfl⟩ 5 0 rfl rfl rfl hl rfl rfl (Nat.le_of_ble_eq_true rfl) ⟨Nat.le_of_ble_eq_true rfl, Nat.le_of_ble_eq_true rfl⟩ dX5_layPlaces_1 (fun H locs hP hD hS => ?_)
  refine W.widen (k := 0) (n := 0) (Nat.le_refl _) (Nat.le_refl _) ?_
  refine lv_iconst (v := 0) hx hb dX5_layPlaces_4 (by decide) ?_
  refine lv_istore_n (lv' := [(1, .int 0), (0, .ref o_b)]) hx hb dX5_layPlaces_5 rfl hl (by decide) rfl (fun ls hl => ?_)
  exact L6  2000 _ _ b_1 0 _ hP hD hS (lv_sub hl [1, 0] rfl) hd

def fd_X5_past_L29  : Nat → ob_B → Int32 → Int32 → Option (Int32 × ob_B)
  | 0, _, _, _ => none
  | fu + 1, b, x1, z2 => if 60 < z2 then (some ((-1000000), b)) else (if z2 < 0 ∨ 71 ≤ Int32.toNatClampNeg z2 then none else (if ((b.2 22) (Int32.toNatClampNeg z2)) = x1 then (some (z2, b)) else (ob_lt (z2 + 1 : Int32) (fun x_4 => fd_X5_past_L29 fu b x1 x_4))))
def fd_X5_past  (b : ob_B) (x1 : Int32) : Option (Int32 × ob_B) := ob_b1 (fd_X5_isRoute b) (fun r_1 => if r_1 = 0 then (some ((-1000002), b)) else (ob_b1 (fd_X5_in x1 0 9) (fun r_2 => if r_2 = 0 then (some ((-1000001), b)) else (ob_b1 (fd_X5_layPlaces b) (fun b_3 => fd_X5_past_L29 2000 b_3 x1 0)))))
set_option maxHeartbeats 4000000 in
set_option maxRecDepth 100000 in
theorem mt_X5_past (l : Launch) (dC : Nat → ClassId) (dI : Nat → Nat → Nat) (cI cZ cR cW : ClassId) (xs : Nat → Nat) (sz : Nat) (o_b : Nat) (a_b : Nat → Nat) (b : ob_B) (x1 : Int32)  (rr : Int32) (b' : ob_B) (hd : fd_X5_past b x1 = some (rr, b')) : ob_M l yX5_past wsX5_past ({ frames := 5, cells := 0, slots := 0, locals := 113 } : Room) (dC, dI) (ob_ty cI cZ cR cW) xs [.ref o_b, .int x1] (ob_w5 o_b a_b cI cZ b) sz (ob_Qi (dC, dI) rr (ob_w5 o_b a_b cI cZ b')) := by
  rw [fd_X5_past] at hd
  refine ob_in (cc := cX5_past) (maxL := 3) (ret := (some .int)) (own := RX5) (by decide) rfl rfl [(0, .ref o_b), (1, .int x1)] rfl (Nat.le_of_ble_eq_true rfl) ?_
  intro p e s m below meth c hx hb hr hml hown hts hlocks hnm hK A hA hE hP hD hS ls hl
  have kw0 := hts (.constant RX5 63 (-1000001)) (by decide +kernel)
  have kw1 := hts (.constant RX5 130 (-1000002)) (by decide +kernel)
  have kw2 := hts (.constant RX5 163 (-1000000)) (by decide +kernel)
  have kw3 := hts (.fieldLink RX5 47 "OathCoachModel" "places" "[I") (by decide +kernel)
  have hi_X5 : ∀ w ∈ u_ws RX5 TX5 23, w ∈ wsX5_past := by decide +kernel
  have L29 : ∀  (fu : Nat), ∀ (H : Heap) (locs : List Loc) (b : ob_B) (z2 : Int32) (ls : Array Slot), va_P (dC, dI) vwCl (ob_w5 o_b a_b cI cZ b) H → va_D A (ob_w5 o_b a_b cI cZ b) → va_S A s.heap H locs → lv_has ls 3 [(0, .ref o_b), (1, .int x1), (2, .int z2)] → fd_X5_past_L29 fu b x1 z2 = some (rr, b') → W p l e ({ frames := 5, cells := 0, slots := 0, locals := 113 } : Room) s m (List.toArray [.ref o_b, .int x1]) below meth c H locs 0 0 (MQ below ((ob_Qi (dC, dI) rr (ob_w5 o_b a_b cI cZ b')) A) (List.toArray [.ref o_b, .int x1]) s 0 0 A) (F0 m 29 ls []) := by
    intro  fu
    induction fu with
    | zero =>
      intro H locs b z2 ls hP hD hS hl hd
      rw [fd_X5_past_L29] at hd
      cases hd
    | succ fu ih =>
      intro H locs b z2 ls hP hD hS hl hd
      rw [fd_X5_past_L29] at hd
      refine lv_iload_n hx hb dX5_past_29 rfl (lv_at hl 2 rfl) ?_
      refine lv_bipush (v := 60) hx hb dX5_past_30 (by decide) ?_
      refine lv_icmp_gt (tgt := 53) hx hb dX5_past_32 (by decide) (fun c_32 => ?_) (fun c_32 => ?_)
      · replace hd := ob_t c_32 hd
        refine lv_ldc hx hb hown kw2 dX5_past_53 ?_
        obtain ⟨e1, e2⟩ := ob_pp hd
        subst e1
        subst e2
        exact ob_iret hx hb hr hlocks hP hD hS dX5_past_55
      · replace hd := ob_f c_32 hd
        refine lv_aload_n hx hb dX5_past_35 rfl (lv_at hl 0 rfl) ?_
        refine va_get (D := (dC, dI)) (ci := 5) (v := .ref (a_b 22)) (C := RX5) (T := TX5) (N := 23) hx hb hts hi_X5 hown hK hP 0 rfl rfl 22 (by decide) kw3 (fun _ h9 => h9) rfl dX5_past_36 ?_
        refine lv_iload_n hx hb dX5_past_39 rfl (lv_at hl 2 rfl) ?_
        obtain ⟨h1_40, hd⟩ := ob_nn hd
        refine va_iald hx hb hK hP 13 0 rfl rfl h1_40 dX5_past_40 ?_
        refine lv_iload_n hx hb dX5_past_41 rfl (lv_at hl 1 rfl) ?_
        refine lv_icmp_ne (tgt := 47) hx hb dX5_past_42 (by decide) (fun c_42 => ?_) (fun c_42 => ?_)
        · replace hd := ob_f c_42 hd
          obtain ⟨x_4, ex_4⟩ : ∃ z : Int32, z = z2 + 1 := ⟨_, rfl⟩
          replace hd := ob_lx ex_4 hd
          refine lv_iinc (v := x_4) (lv' := [(2, .int x_4), (0, .ref o_b), (1, .int x1)]) hx hb dX5_past_47 hl (k := 2) rfl (by rw [ex_4]; rfl) (by decide) rfl (fun ls hl => ?_)
          clear ex_4
          refine lv_goto (tgt := 29) hx hb dX5_past_50 (by decide) ?_
          exact ih _ _ b x_4 _ hP hD hS (lv_sub hl [1, 2, 0] rfl) hd
        · replace hd := ob_t c_42 hd
          refine lv_iload_n hx hb dX5_past_45 rfl (lv_at hl 2 rfl) ?_
          obtain ⟨e1, e2⟩ := ob_pp hd
          subst e1
          subst e2
          exact ob_iret hx hb hr hlocks hP hD hS dX5_past_46
  refine lv_aload_n hx hb dX5_past_0 rfl (lv_at hl 0 rfl) ?_
  obtain ⟨r_1, hc_1, hd⟩ := ob_s1 hd
  refine ob_Vi (isC := [0, 1, 2, 3, 4, 5, 6, 7, 8, 9, 10, 11, 12, 13]) (isR := []) (is2 := [0, 1, 2, 3, 4, 5, 6, 7, 8, 9, 10, 11, 12, 13]) (wc := (ob_w5 o_b a_b cI cZ b)) (wr := ([] : va_W)) (w1 := (ob_w5 o_b a_b cI cZ b)) (w2 := (ob_w5 o_b a_b cI cZ b)) (b := o_b) (As := []) (rest := []) ⟨hx, hb, hml, hown, hts⟩ (mt_X5_isRoute l dC dI cI cZ cR cW xs _ o_b a_b b r_1 hc_1) (cwV 0 hts gX5_past_X5_isRoute rfl rfl rfl (by decide +kernel) ⟨Nat.le_of_ble_eq_true rfl, Nat.le_of_ble_eq_true rfl⟩) hK hE hP hD hS hA ⟨rfl, rfl, rfl, rfl, rfl, rfl, rfl⟩ 5 0 rfl rfl rfl hl rfl rfl (Nat.le_of_ble_eq_true rfl) ⟨Nat.le_of_ble_eq_true rfl, Nat.le_of_ble_eq_true rfl⟩ dX5_past_1 (fun H locs hP hD hS => ?_)
  refine W.widen (k := 0) (n := 0) (Nat.le_refl _) (Nat.le_refl _) ?_
  refine lv_if_ne (tgt := 10) hx hb dX5_past_4 (by decide) (fun c_4 => ?_) (fun c_4 => ?_)
  · replace hd := ob_f c_4 hd
    refine lv_iload_n hx hb dX5_past_10 rfl (lv_at hl 1 rfl) ?_
    refine lv_iconst (v := 0) hx hb dX5_past_11 (by decide) ?_
    refine lv_bipush (v := 9) hx hb dX5_past_12 (by decide) ?_
    obtain ⟨r_2, hc_14, hd⟩ := ob_s1 hd
    refine ob_Si (isC := []) (isR := [0, 1, 2, 3, 4, 5, 6, 7, 8, 9, 10, 11, 12, 13]) (is2 := [0, 1, 2, 3, 4, 5, 6, 7, 8, 9, 10, 11, 12, 13]) (wc := ([] : va_W)) (wr := (List.filterMap (fun i => (ob_w5 o_b a_b cI cZ b)[i]?) [0, 1, 2, 3, 4, 5, 6, 7, 8, 9, 10, 11, 12, 13])) (w1 := ([] : va_W)) (w2 := (ob_w5 o_b a_b cI cZ b)) (As := [.int x1, .int 0, .int 9]) (rest := []) ⟨hx, hb, hml, hown, hts⟩ (mt_X5_in l dC dI cI cZ cR cW xs _ x1 0 9 r_2 hc_14) (va_cwS 3 hts gX5_past_X5_in rfl rfl rfl (by decide +kernel) ⟨Nat.le_of_ble_eq_true rfl, Nat.le_of_ble_eq_true rfl⟩) hK hE hP hD hS hA ⟨rfl, rfl, rfl, rfl, rfl, rfl, rfl⟩ hl rfl rfl (Nat.le_of_ble_eq_true rfl) ⟨Nat.le_of_ble_eq_true rfl, Nat.le_of_ble_eq_true rfl⟩ dX5_past_14 (fun H locs hP hD hS => ?_)
    refine W.widen (k := 0) (n := 0) (Nat.le_refl _) (Nat.le_refl _) ?_
    refine lv_if_ne (tgt := 23) hx hb dX5_past_17 (by decide) (fun c_17 => ?_) (fun c_17 => ?_)
    · replace hd := ob_f c_17 hd
      refine lv_aload_n hx hb dX5_past_23 rfl (lv_at hl 0 rfl) ?_
      obtain ⟨b_3, hc_24, hd⟩ := ob_s1 hd
      refine ob_Vv (isC := [0, 1, 2, 3, 4, 5, 6, 7, 8, 9, 10, 11, 12, 13]) (isR := []) (is2 := [0, 1, 2, 3, 4, 5, 6, 7, 8, 9, 10, 11, 12, 13]) (wc := (ob_w5 o_b a_b cI cZ b)) (wr := ([] : va_W)) (w1 := (ob_w5 o_b a_b cI cZ b_3)) (w2 := (ob_w5 o_b a_b cI cZ b_3)) (b := o_b) (As := []) (rest := []) ⟨hx, hb, hml, hown, hts⟩ (mt_X5_layPlaces l dC dI cI cZ cR cW xs _ o_b a_b b b_3 hc_24) (cwV 0 hts gX5_past_X5_layPlaces rfl rfl rfl (by decide +kernel) ⟨Nat.le_of_ble_eq_true rfl, Nat.le_of_ble_eq_true rfl⟩) hK hE hP hD hS hA ⟨rfl, rfl, rfl, rfl, rfl, rfl, rfl⟩ 5 0 rfl rfl rfl hl rfl rfl (Nat.le_of_ble_eq_true rfl) ⟨Nat.le_of_ble_eq_true rfl, Nat.le_of_ble_eq_true rfl⟩ dX5_past_24 (fun H locs hP hD hS => ?_)
      refine W.widen (k := 0) (n := 0) (Nat.le_refl _) (Nat.le_refl _) ?_
      refine lv_iconst (v := 0) hx hb dX5_past_27 (by decide) ?_
      refine lv_istore_n (lv' := [(2, .int 0), (0, .ref o_b), (1, .int x1)]) hx hb dX5_past_28 rfl hl (by decide) rfl (fun ls hl => ?_)
      exact L29  2000 _ _ b_3 0 _ hP hD hS (lv_sub hl [1, 2, 0] rfl) hd
    · replace hd := ob_t c_17 hd
      refine lv_ldc hx hb hown kw0 dX5_past_20 ?_
      obtain ⟨e1, e2⟩ := ob_pp hd
      subst e1
      subst e2
      exact ob_iret hx hb hr hlocks hP hD hS dX5_past_22
  · replace hd := ob_t c_4 hd
    refine lv_ldc hx hb hown kw1 dX5_past_7 ?_
    obtain ⟨e1, e2⟩ := ob_pp hd
    subst e1
    subst e2
    exact ob_iret hx hb hr hlocks hP hD hS dX5_past_9
