def fd_X1_clear  (b : ob_B)  : Option (ob_B) := ob_lt (ob_I b 0 0 : ob_B) (fun b_1 => ob_lt (ob_I b_1 1 0 : ob_B) (fun b_2 => ob_lt (ob_I b_2 2 0 : ob_B) (fun b_3 => ob_lt (ob_I b_3 3 0 : ob_B) (fun b_4 => ob_lt (ob_I b_4 4 0 : ob_B) (fun b_5 => ob_lt (ob_I b_5 5 0 : ob_B) (fun b_6 => ob_lt (ob_I b_6 6 0 : ob_B) (fun b_7 => some (b_7))))))))
set_option maxHeartbeats 4000000 in
set_option maxRecDepth 100000 in
theorem mt_X1_clear (l : Launch) (dC : Nat → ClassId) (dI : Nat → Nat → Nat) (cI cZ cR cW : ClassId) (xs : Nat → Nat) (sz : Nat) (o_b : Nat) (a_b : Nat → Nat) (b : ob_B)   (b' : ob_B) (hd : fd_X1_clear b = some (b')) : ob_M l yX1_clear wsX1_clear ({ frames := 0, cells := 0, slots := 0, locals := 0 } : Room) (dC, dI) (ob_ty cI cZ cR cW) xs [.ref o_b] (ob_w1 o_b a_b cI b) sz (ob_Qv (dC, dI) (ob_w1 o_b a_b cI b')) := by
  rw [fd_X1_clear] at hd
  refine ob_in (cc := cX1_clear) (maxL := 1) (ret := none) (own := RX1) (by decide) rfl rfl [(0, .ref o_b)] rfl (Nat.le_of_ble_eq_true rfl) ?_
  intro p e s m below meth c hx hb hr hml hown hts hlocks hnm hK A hA hE hP hD hS ls hl
  have kw0 := hts (.fieldLink RX1 9 "OathCoach$Route" "at" "I") (by decide +kernel)
  have kw1 := hts (.fieldLink RX1 15 "OathCoach$Route" "home" "I") (by decide +kernel)
  have kw2 := hts (.fieldLink RX1 18 "OathCoach$Route" "hour" "I") (by decide +kernel)
  have kw3 := hts (.fieldLink RX1 21 "OathCoach$Route" "snow" "I") (by decide +kernel)
  have kw4 := hts (.fieldLink RX1 24 "OathCoach$Route" "oaths" "I") (by decide +kernel)
  have kw5 := hts (.fieldLink RX1 27 "OathCoach$Route" "timesKept" "I") (by decide +kernel)
  have kw6 := hts (.fieldLink RX1 30 "OathCoach$Route" "timesBroken" "I") (by decide +kernel)
  have hi_X1 : ∀ w ∈ u_ws RX1 TX1 12, w ∈ wsX1_clear := by decide +kernel
  refine lv_aload_n hx hb dX1_clear_0 rfl (lv_at hl 0 rfl) ?_
  refine lv_iconst (v := 0) hx hb dX1_clear_1 (by decide) ?_
  refine va_put (D := (dC, dI)) (ci := 1) (v := .int 0) (ty := .int) (C := RX1) (T := TX1) (N := 12) hx hb hts hi_X1 tyX1 tyX1_ok nmX1 hown hK hP hD hS 0 rfl rfl 0 (by decide) kw0 (fun _ h9 => h9) rfl (by decide +kernel) rfl rfl (Nat.le_of_ble_eq_true rfl) dX1_clear_2 (fun H locs hP hD hS => ?_)
  obtain ⟨b_1, eb_1⟩ : ∃ z : ob_B, z = ob_I b 0 0 := ⟨_, rfl⟩
  replace hd := ob_lx eb_1 hd
  replace hP : va_P (dC, dI) vwCl (ob_w1 o_b a_b cI b_1) H := by rw [eb_1]; exact hP
  replace hD : va_D A (ob_w1 o_b a_b cI b_1) := by rw [eb_1]; exact hD
  clear eb_1
  refine lv_aload_n hx hb dX1_clear_5 rfl (lv_at hl 0 rfl) ?_
  refine lv_iconst (v := 0) hx hb dX1_clear_6 (by decide) ?_
  refine va_put (D := (dC, dI)) (ci := 1) (v := .int 0) (ty := .int) (C := RX1) (T := TX1) (N := 12) hx hb hts hi_X1 tyX1 tyX1_ok nmX1 hown hK hP hD hS 0 rfl rfl 1 (by decide) kw1 (fun _ h9 => h9) rfl (by decide +kernel) rfl rfl (Nat.le_of_ble_eq_true rfl) dX1_clear_7 (fun H locs hP hD hS => ?_)
  obtain ⟨b_2, eb_2⟩ : ∃ z : ob_B, z = ob_I b_1 1 0 := ⟨_, rfl⟩
  replace hd := ob_lx eb_2 hd
  replace hP : va_P (dC, dI) vwCl (ob_w1 o_b a_b cI b_2) H := by rw [eb_2]; exact hP
  replace hD : va_D A (ob_w1 o_b a_b cI b_2) := by rw [eb_2]; exact hD
  clear eb_2
  refine lv_aload_n hx hb dX1_clear_10 rfl (lv_at hl 0 rfl) ?_
  refine lv_iconst (v := 0) hx hb dX1_clear_11 (by decide) ?_
  refine va_put (D := (dC, dI)) (ci := 1) (v := .int 0) (ty := .int) (C := RX1) (T := TX1) (N := 12) hx hb hts hi_X1 tyX1 tyX1_ok nmX1 hown hK hP hD hS 0 rfl rfl 2 (by decide) kw2 (fun _ h9 => h9) rfl (by decide +kernel) rfl rfl (Nat.le_of_ble_eq_true rfl) dX1_clear_12 (fun H locs hP hD hS => ?_)
  obtain ⟨b_3, eb_3⟩ : ∃ z : ob_B, z = ob_I b_2 2 0 := ⟨_, rfl⟩
  replace hd := ob_lx eb_3 hd
  replace hP : va_P (dC, dI) vwCl (ob_w1 o_b a_b cI b_3) H := by rw [eb_3]; exact hP
  replace hD : va_D A (ob_w1 o_b a_b cI b_3) := by rw [eb_3]; exact hD
  clear eb_3
  refine lv_aload_n hx hb dX1_clear_15 rfl (lv_at hl 0 rfl) ?_
  refine lv_iconst (v := 0) hx hb dX1_clear_16 (by decide) ?_
  refine va_put (D := (dC, dI)) (ci := 1) (v := .int 0) (ty := .int) (C := RX1) (T := TX1) (N := 12) hx hb hts hi_X1 tyX1 tyX1_ok nmX1 hown hK hP hD hS 0 rfl rfl 3 (by decide) kw3 (fun _ h9 => h9) rfl (by decide +kernel) rfl rfl (Nat.le_of_ble_eq_true rfl) dX1_clear_17 (fun H locs hP hD hS => ?_)
  obtain ⟨b_4, eb_4⟩ : ∃ z : ob_B, z = ob_I b_3 3 0 := ⟨_, rfl⟩
  replace hd := ob_lx eb_4 hd
  replace hP : va_P (dC, dI) vwCl (ob_w1 o_b a_b cI b_4) H := by rw [eb_4]; exact hP
  replace hD : va_D A (ob_w1 o_b a_b cI b_4) := by rw [eb_4]; exact hD
  clear eb_4
  refine lv_aload_n hx hb dX1_clear_20 rfl (lv_at hl 0 rfl) ?_
  refine lv_iconst (v := 0) hx hb dX1_clear_21 (by decide) ?_
  refine va_put (D := (dC, dI)) (ci := 1) (v := .int 0) (ty := .int) (C := RX1) (T := TX1) (N := 12) hx hb hts hi_X1 tyX1 tyX1_ok nmX1 hown hK hP hD hS 0 rfl rfl 4 (by decide) kw4 (fun _ h9 => h9) rfl (by decide +kernel) rfl rfl (Nat.le_of_ble_eq_true rfl) dX1_clear_22 (fun H locs hP hD hS => ?_)
  obtain ⟨b_5, eb_5⟩ : ∃ z : ob_B, z = ob_I b_4 4 0 := ⟨_, rfl⟩
  replace hd := ob_lx eb_5 hd
  replace hP : va_P (dC, dI) vwCl (ob_w1 o_b a_b cI b_5) H := by rw [eb_5]; exact hP
  replace hD : va_D A (ob_w1 o_b a_b cI b_5) := by rw [eb_5]; exact hD
  clear eb_5
  refine lv_aload_n hx hb dX1_clear_25 rfl (lv_at hl 0 rfl) ?_
  refine lv_iconst (v := 0) hx hb dX1_clear_26 (by decide) ?_
  refine va_put (D := (dC, dI)) (ci := 1) (v := .int 0) (ty := .int) (C := RX1) (T := TX1) (N := 12) hx hb hts hi_X1 tyX1 tyX1_ok nmX1 hown hK hP hD hS 0 rfl rfl 5 (by decide) kw5 (fun _ h9 => h9) rfl (by decide +kernel) rfl rfl (Nat.le_of_ble_eq_true rfl) dX1_clear_27 (fun H locs hP hD hS => ?_)
  obtain ⟨b_6, eb_6⟩ : ∃ z : ob_B, z = ob_I b_5 5 0 := ⟨_, rfl⟩
  replace hd := ob_lx eb_6 hd
  replace hP : va_P (dC, dI) vwCl (ob_w1 o_b a_b cI b_6) H := by rw [eb_6]; exact hP
  replace hD : va_D A (ob_w1 o_b a_b cI b_6) := by rw [eb_6]; exact hD
  clear eb_6
  refine lv_aload_n hx hb dX1_clear_30 rfl (lv_at hl 0 rfl) ?_
  refine lv_iconst (v := 0) hx hb dX1_clear_31 (by decide) ?_
  refine va_put (D := (dC, dI)) (ci := 1) (v := .int 0) (ty := .int) (C := RX1) (T := TX1) (N := 12) hx hb hts hi_X1 tyX1 tyX1_ok nmX1 hown hK hP hD hS 0 rfl rfl 6 (by decide) kw6 (fun _ h9 => h9) rfl (by decide +kernel) rfl rfl (Nat.le_of_ble_eq_true rfl) dX1_clear_32 (fun H locs hP hD hS => ?_)
  obtain ⟨b_7, eb_7⟩ : ∃ z : ob_B, z = ob_I b_6 6 0 := ⟨_, rfl⟩
  replace hd := ob_lx eb_7 hd
  replace hP : va_P (dC, dI) vwCl (ob_w1 o_b a_b cI b_7) H := by rw [eb_7]; exact hP
  replace hD : va_D A (ob_w1 o_b a_b cI b_7) := by rw [eb_7]; exact hD
  clear eb_7
  have e1 := Option.some.inj hd
  subst e1
  exact ob_vret hx hb hr hlocks hP hD hS dX1_clear_35

def fd_X1_openTo  (b : ob_B) (x1 : Int32) (x2 : Int32) (x3 : Int32) : Option (ob_B) := if x1 < 0 ∨ 7 ≤ Int32.toNatClampNeg x1 then none else (ob_lt (ob_A b 8 (upd (b.2 8) (Int32.toNatClampNeg x1) x2) : ob_B) (fun b_1 => if x1 < 0 ∨ 7 ≤ Int32.toNatClampNeg x1 then none else (ob_lt (ob_A b_1 9 (upd (b_1.2 9) (Int32.toNatClampNeg x1) x3) : ob_B) (fun b_2 => if x1 < 0 ∨ 7 ≤ Int32.toNatClampNeg x1 then none else (ob_lt (ob_A b_2 11 (upd (b_2.2 11) (Int32.toNatClampNeg x1) 0) : ob_B) (fun b_3 => some (b_3)))))))
set_option maxHeartbeats 4000000 in
set_option maxRecDepth 100000 in
theorem mt_X1_openTo (l : Launch) (dC : Nat → ClassId) (dI : Nat → Nat → Nat) (cI cZ cR cW : ClassId) (xs : Nat → Nat) (sz : Nat) (o_b : Nat) (a_b : Nat → Nat) (b : ob_B) (x1 : Int32) (x2 : Int32) (x3 : Int32)  (b' : ob_B) (hd : fd_X1_openTo b x1 x2 x3 = some (b')) : ob_M l yX1_openTo wsX1_openTo ({ frames := 0, cells := 0, slots := 0, locals := 0 } : Room) (dC, dI) (ob_ty cI cZ cR cW) xs [.ref o_b, .int x1, .int x2, .int x3] (ob_w1 o_b a_b cI b) sz (ob_Qv (dC, dI) (ob_w1 o_b a_b cI b')) := by
  rw [fd_X1_openTo] at hd
  refine ob_in (cc := cX1_openTo) (maxL := 4) (ret := none) (own := RX1) (by decide) rfl rfl [(0, .ref o_b), (1, .int x1), (2, .int x2), (3, .int x3)] rfl (Nat.le_of_ble_eq_true rfl) ?_
  intro p e s m below meth c hx hb hr hml hown hts hlocks hnm hK A hA hE hP hD hS ls hl
  have kw0 := hts (.fieldLink RX1 37 "OathCoach$Route" "place" "[I") (by decide +kernel)
  have kw1 := hts (.fieldLink RX1 40 "OathCoach$Route" "weight" "[I") (by decide +kernel)
  have kw2 := hts (.fieldLink RX1 46 "OathCoach$Route" "came" "[I") (by decide +kernel)
  have hi_X1 : ∀ w ∈ u_ws RX1 TX1 12, w ∈ wsX1_openTo := by decide +kernel
  refine lv_aload_n hx hb dX1_openTo_0 rfl (lv_at hl 0 rfl) ?_
  refine va_get (D := (dC, dI)) (ci := 1) (v := .ref (a_b 8)) (C := RX1) (T := TX1) (N := 12) hx hb hts hi_X1 hown hK hP 0 rfl rfl 8 (by decide) kw0 (fun _ h9 => h9) rfl dX1_openTo_1 ?_
  refine lv_iload_n hx hb dX1_openTo_4 rfl (lv_at hl 1 rfl) ?_
  refine lv_iload_n hx hb dX1_openTo_5 rfl (lv_at hl 2 rfl) ?_
  obtain ⟨h1_6, hd⟩ := ob_nn hd
  refine va_iast hx hb hK hP hD hS 2 0 rfl rfl h1_6 dX1_openTo_6 (fun H locs hP hD hS => ?_)
  obtain ⟨b_1, eb_1⟩ : ∃ z : ob_B, z = ob_A b 8 (upd (b.2 8) (Int32.toNatClampNeg x1) x2) := ⟨_, rfl⟩
  replace hd := ob_lx eb_1 hd
  replace hP : va_P (dC, dI) vwCl (ob_w1 o_b a_b cI b_1) H := by rw [eb_1]; exact hP
  replace hD : va_D A (ob_w1 o_b a_b cI b_1) := by rw [eb_1]; exact hD
  clear eb_1
  refine lv_aload_n hx hb dX1_openTo_7 rfl (lv_at hl 0 rfl) ?_
  refine va_get (D := (dC, dI)) (ci := 1) (v := .ref (a_b 9)) (C := RX1) (T := TX1) (N := 12) hx hb hts hi_X1 hown hK hP 0 rfl rfl 9 (by decide) kw1 (fun _ h9 => h9) rfl dX1_openTo_8 ?_
  refine lv_iload_n hx hb dX1_openTo_11 rfl (lv_at hl 1 rfl) ?_
  refine lv_iload_n hx hb dX1_openTo_12 rfl (lv_at hl 3 rfl) ?_
  obtain ⟨h1_13, hd⟩ := ob_nn hd
  refine va_iast hx hb hK hP hD hS 3 0 rfl rfl h1_13 dX1_openTo_13 (fun H locs hP hD hS => ?_)
  obtain ⟨b_2, eb_2⟩ : ∃ z : ob_B, z = ob_A b_1 9 (upd (b_1.2 9) (Int32.toNatClampNeg x1) x3) := ⟨_, rfl⟩
  replace hd := ob_lx eb_2 hd
  replace hP : va_P (dC, dI) vwCl (ob_w1 o_b a_b cI b_2) H := by rw [eb_2]; exact hP
  replace hD : va_D A (ob_w1 o_b a_b cI b_2) := by rw [eb_2]; exact hD
  clear eb_2
  refine lv_aload_n hx hb dX1_openTo_14 rfl (lv_at hl 0 rfl) ?_
  refine va_get (D := (dC, dI)) (ci := 1) (v := .ref (a_b 11)) (C := RX1) (T := TX1) (N := 12) hx hb hts hi_X1 hown hK hP 0 rfl rfl 11 (by decide) kw2 (fun _ h9 => h9) rfl dX1_openTo_15 ?_
  refine lv_iload_n hx hb dX1_openTo_18 rfl (lv_at hl 1 rfl) ?_
  refine lv_iconst (v := 0) hx hb dX1_openTo_19 (by decide) ?_
  obtain ⟨h1_20, hd⟩ := ob_nn hd
  refine va_iast hx hb hK hP hD hS 5 0 rfl rfl h1_20 dX1_openTo_20 (fun H locs hP hD hS => ?_)
  obtain ⟨b_3, eb_3⟩ : ∃ z : ob_B, z = ob_A b_2 11 (upd (b_2.2 11) (Int32.toNatClampNeg x1) 0) := ⟨_, rfl⟩
  replace hd := ob_lx eb_3 hd
  replace hP : va_P (dC, dI) vwCl (ob_w1 o_b a_b cI b_3) H := by rw [eb_3]; exact hP
  replace hD : va_D A (ob_w1 o_b a_b cI b_3) := by rw [eb_3]; exact hD
  clear eb_3
  have e1 := Option.some.inj hd
  subst e1
  exact ob_vret hx hb hr hlocks hP hD hS dX1_openTo_21

def fd_X1_openByDraw  (b : ob_B) (x1 : Int64) : Option (ob_B) := if (b.1 4) ≤ 0 then (some (b)) else (if (lg_cmp x1 0) < 0 then (some (b)) else (if (Int32.toInt64 (b.1 4)) = 0 then none else (ob_lt (Int64.toInt32 (x1 - x1 / (Int32.toInt64 (b.1 4)) * (Int32.toInt64 (b.1 4))) : Int32) (fun x_1 => if x_1 < 0 ∨ 7 ≤ Int32.toNatClampNeg x_1 then none else (ob_b1 (fd_X1_openTo b x_1 (Int64.toInt32 (x1 - x1 / 10 * 10)) ((b.2 9) (Int32.toNatClampNeg x_1))) (fun b_2 => some (b_2)))))))
set_option maxHeartbeats 4000000 in
set_option maxRecDepth 100000 in
theorem mt_X1_openByDraw (l : Launch) (dC : Nat → ClassId) (dI : Nat → Nat → Nat) (cI cZ cR cW : ClassId) (xs : Nat → Nat) (sz : Nat) (o_b : Nat) (a_b : Nat → Nat) (b : ob_B) (x1 : Int64)  (b' : ob_B) (hd : fd_X1_openByDraw b x1 = some (b')) : ob_M l yX1_openByDraw wsX1_openByDraw ({ frames := 1, cells := 0, slots := 0, locals := 23 } : Room) (dC, dI) (ob_ty cI cZ cR cW) xs [.ref o_b, .long x1] (ob_w1 o_b a_b cI b) sz (ob_Qv (dC, dI) (ob_w1 o_b a_b cI b')) := by
  rw [fd_X1_openByDraw] at hd
  refine ob_in (cc := cX1_openByDraw) (maxL := 4) (ret := none) (own := RX1) (by decide) rfl rfl [(0, .ref o_b), (1, .long x1)] rfl (Nat.le_of_ble_eq_true rfl) ?_
  intro p e s m below meth c hx hb hr hml hown hts hlocks hnm hK A hA hE hP hD hS ls hl
  have kw0 := hts (.fieldLink RX1 24 "OathCoach$Route" "oaths" "I") (by decide +kernel)
  have kw1 := hts (.constantLong RX1 59 (10)) (by decide +kernel)
  have kw2 := hts (.fieldLink RX1 40 "OathCoach$Route" "weight" "[I") (by decide +kernel)
  have hi_X1 : ∀ w ∈ u_ws RX1 TX1 12, w ∈ wsX1_openByDraw := by decide +kernel
  refine lv_aload_n hx hb dX1_openByDraw_0 rfl (lv_at hl 0 rfl) ?_
  refine va_get (D := (dC, dI)) (ci := 1) (v := .int (b.1 4)) (C := RX1) (T := TX1) (N := 12) hx hb hts hi_X1 hown hK hP 0 rfl rfl 4 (by decide) kw0 (fun _ h9 => h9) rfl dX1_openByDraw_1 ?_
  refine lv_if_le (tgt := 39) hx hb dX1_openByDraw_4 (by decide) (fun c_4 => ?_) (fun c_4 => ?_)
  · replace hd := ob_t c_4 hd
    have e1 := Option.some.inj hd
    subst e1
    exact ob_vret hx hb hr hlocks hP hD hS dX1_openByDraw_39
  · replace hd := ob_f c_4 hd
    refine lv_lload_n hx hb dX1_openByDraw_7 rfl (lv_at hl 1 rfl) ?_
    refine lv_lconst (v := 0) hx hb dX1_openByDraw_8 (by decide) ?_
    refine W.lcmp hx hb dX1_openByDraw_9 ?_
    refine lv_if_lt (tgt := 39) hx hb dX1_openByDraw_10 (by decide) (fun c_10 => ?_) (fun c_10 => ?_)
    · replace hd := ob_t c_10 hd
      have e1 := Option.some.inj hd
      subst e1
      exact ob_vret hx hb hr hlocks hP hD hS dX1_openByDraw_39
    · replace hd := ob_f c_10 hd
      refine lv_lload_n hx hb dX1_openByDraw_13 rfl (lv_at hl 1 rfl) ?_
      refine lv_aload_n hx hb dX1_openByDraw_14 rfl (lv_at hl 0 rfl) ?_
      refine va_get (D := (dC, dI)) (ci := 1) (v := .int (b.1 4)) (C := RX1) (T := TX1) (N := 12) hx hb hts hi_X1 hown hK hP 0 rfl rfl 4 (by decide) kw0 (fun _ h9 => h9) rfl dX1_openByDraw_15 ?_
      refine lv_i2l hx hb dX1_openByDraw_18 rfl ?_
      obtain ⟨h0_19, hd⟩ := ob_nn hd
      refine lv_lrem hx hb dX1_openByDraw_19 h0_19 ?_
      refine lv_l2i hx hb dX1_openByDraw_20 rfl ?_
      refine lv_topi (fun x_1 ex_1 => ?_)
      replace hd := ob_lx ex_1 hd
      clear ex_1
      refine lv_istore_n (lv' := [(3, .int x_1), (0, .ref o_b), (1, .long x1)]) hx hb dX1_openByDraw_21 rfl hl (by decide) rfl (fun ls hl => ?_)
      refine lv_aload_n hx hb dX1_openByDraw_22 rfl (lv_at hl 1 rfl) ?_
      refine lv_iload_n hx hb dX1_openByDraw_23 rfl (lv_at hl 0 rfl) ?_
      refine lv_lload_n hx hb dX1_openByDraw_24 rfl (lv_at hl 2 rfl) ?_
      refine lv_ldc2 hx hb hown kw1 dX1_openByDraw_25 ?_
      refine lv_lrem hx hb dX1_openByDraw_28 (by decide) ?_
      refine lv_l2i hx hb dX1_openByDraw_29 rfl ?_
      refine lv_aload_n hx hb dX1_openByDraw_30 rfl (lv_at hl 1 rfl) ?_
      refine va_get (D := (dC, dI)) (ci := 1) (v := .ref (a_b 9)) (C := RX1) (T := TX1) (N := 12) hx hb hts hi_X1 hown hK hP 0 rfl rfl 9 (by decide) kw2 (fun _ h9 => h9) rfl dX1_openByDraw_31 ?_
      refine lv_iload_n hx hb dX1_openByDraw_34 rfl (lv_at hl 0 rfl) ?_
      obtain ⟨h1_35, hd⟩ := ob_nn hd
      refine va_iald hx hb hK hP 3 0 rfl rfl h1_35 dX1_openByDraw_35 ?_
      obtain ⟨b_2, hc_36, hd⟩ := ob_s1 hd
      refine ob_Vv (isC := [0, 1, 2, 3, 4, 5]) (isR := []) (is2 := [0, 1, 2, 3, 4, 5]) (wc := (ob_w1 o_b a_b cI b)) (wr := ([] : va_W)) (w1 := (ob_w1 o_b a_b cI b_2)) (w2 := (ob_w1 o_b a_b cI b_2)) (b := o_b) (As := [.int x_1, .int (Int64.toInt32 (x1 - x1 / 10 * 10)), .int ((b.2 9) (Int32.toNatClampNeg x_1))]) (rest := []) ⟨hx, hb, hml, hown, hts⟩ (mt_X1_openTo l dC dI cI cZ cR cW xs _ o_b a_b b x_1 (Int64.toInt32 (x1 - x1 / 10 * 10)) ((b.2 9) (Int32.toNatClampNeg x_1)) b_2 hc_36) (cwV 3 hts gX1_openByDraw_X1_openTo rfl rfl rfl (by decide +kernel) ⟨Nat.le_of_ble_eq_true rfl, Nat.le_of_ble_eq_true rfl⟩) hK hE hP hD hS hA ⟨rfl, rfl, rfl, rfl, rfl, rfl, rfl⟩ 1 0 rfl rfl rfl hl rfl rfl (Nat.le_of_ble_eq_true rfl) ⟨Nat.le_of_ble_eq_true rfl, Nat.le_of_ble_eq_true rfl⟩ dX1_openByDraw_36 (fun H locs hP hD hS => ?_)
      refine W.widen (k := 0) (n := 0) (Nat.le_refl _) (Nat.le_refl _) ?_
      have e1 := Option.some.inj hd
      subst e1
      exact ob_vret hx hb hr hlocks hP hD hS dX1_openByDraw_39

def fd_X1_openBits_L4  : Nat → ob_B → Int32 → Int32 → Option (Int32)
  | 0, _, _, _ => none
  | fu + 1, b, z1, z2 => if (b.1 4) ≤ z2 then (some (z1)) else (if z2 < 0 ∨ 7 ≤ Int32.toNatClampNeg z2 then none else (if ((b.2 11) (Int32.toNatClampNeg z2)) = 0 then (ob_lt (z1 ||| (1 <<< (z2 &&& 31)) : Int32) (fun x_2 => ob_lt (z2 + 1 : Int32) (fun x_3 => fd_X1_openBits_L4 fu b x_2 x_3))) else (ob_lt (z2 + 1 : Int32) (fun x_1 => fd_X1_openBits_L4 fu b z1 x_1))))
def fd_X1_openBits  (b : ob_B)  : Option (Int32) := fd_X1_openBits_L4 2000 b 0 0
set_option maxHeartbeats 4000000 in
set_option maxRecDepth 100000 in
theorem mt_X1_openBits (l : Launch) (dC : Nat → ClassId) (dI : Nat → Nat → Nat) (cI cZ cR cW : ClassId) (xs : Nat → Nat) (sz : Nat) (o_b : Nat) (a_b : Nat → Nat) (b : ob_B)   (rr : Int32) (hd : fd_X1_openBits b = some (rr)) : ob_M l yX1_openBits wsX1_openBits ({ frames := 0, cells := 0, slots := 0, locals := 0 } : Room) (dC, dI) (ob_ty cI cZ cR cW) xs [.ref o_b] (ob_w1 o_b a_b cI b) sz (ob_Qi (dC, dI) rr (ob_w1 o_b a_b cI b)) := by
  rw [fd_X1_openBits] at hd
  refine ob_in (cc := cX1_openBits) (maxL := 3) (ret := (some .int)) (own := RX1) (by decide) rfl rfl [(0, .ref o_b)] rfl (Nat.le_of_ble_eq_true rfl) ?_
  intro p e s m below meth c hx hb hr hml hown hts hlocks hnm hK A hA hE hP hD hS ls hl
  have kw0 := hts (.fieldLink RX1 24 "OathCoach$Route" "oaths" "I") (by decide +kernel)
  have kw1 := hts (.fieldLink RX1 46 "OathCoach$Route" "came" "[I") (by decide +kernel)
  have hi_X1 : ∀ w ∈ u_ws RX1 TX1 12, w ∈ wsX1_openBits := by decide +kernel
  have L4 : ∀  (fu : Nat), ∀ (H : Heap) (locs : List Loc)  (z1 : Int32) (z2 : Int32) (ls : Array Slot), va_P (dC, dI) vwCl (ob_w1 o_b a_b cI b) H → va_D A (ob_w1 o_b a_b cI b) → va_S A s.heap H locs → lv_has ls 3 [(0, .ref o_b), (1, .int z1), (2, .int z2)] → fd_X1_openBits_L4 fu b z1 z2 = some (rr) → W p l e ({ frames := 0, cells := 0, slots := 0, locals := 0 } : Room) s m (List.toArray [.ref o_b]) below meth c H locs 0 0 (MQ below ((ob_Qi (dC, dI) rr (ob_w1 o_b a_b cI b)) A) (List.toArray [.ref o_b]) s 0 0 A) (F0 m 4 ls []) := by
    intro  fu
    induction fu with
    | zero =>
      intro H locs z1 z2 ls hP hD hS hl hd
      rw [fd_X1_openBits_L4] at hd
      cases hd
    | succ fu ih =>
      intro H locs z1 z2 ls hP hD hS hl hd
      rw [fd_X1_openBits_L4] at hd
      refine lv_iload_n hx hb dX1_openBits_4 rfl (lv_at hl 2 rfl) ?_
      refine lv_aload_n hx hb dX1_openBits_5 rfl (lv_at hl 0 rfl) ?_
      refine va_get (D := (dC, dI)) (ci := 1) (v := .int (b.1 4)) (C := RX1) (T := TX1) (N := 12) hx hb hts hi_X1 hown hK hP 0 rfl rfl 4 (by decide) kw0 (fun _ h9 => h9) rfl dX1_openBits_6 ?_
      refine lv_icmp_ge (tgt := 33) hx hb dX1_openBits_9 (by decide) (fun c_9 => ?_) (fun c_9 => ?_)
      · replace hd := ob_t c_9 hd
        refine lv_iload_n hx hb dX1_openBits_33 rfl (lv_at hl 1 rfl) ?_
        have e1 := Option.some.inj hd
        subst e1
        exact ob_iret hx hb hr hlocks hP hD hS dX1_openBits_34
      · replace hd := ob_f c_9 hd
        refine lv_aload_n hx hb dX1_openBits_12 rfl (lv_at hl 0 rfl) ?_
        refine va_get (D := (dC, dI)) (ci := 1) (v := .ref (a_b 11)) (C := RX1) (T := TX1) (N := 12) hx hb hts hi_X1 hown hK hP 0 rfl rfl 11 (by decide) kw1 (fun _ h9 => h9) rfl dX1_openBits_13 ?_
        refine lv_iload_n hx hb dX1_openBits_16 rfl (lv_at hl 2 rfl) ?_
        obtain ⟨h1_17, hd⟩ := ob_nn hd
        refine va_iald hx hb hK hP 5 0 rfl rfl h1_17 dX1_openBits_17 ?_
        refine lv_if_ne (tgt := 27) hx hb dX1_openBits_18 (by decide) (fun c_18 => ?_) (fun c_18 => ?_)
        · replace hd := ob_f c_18 hd
          obtain ⟨x_1, ex_1⟩ : ∃ z : Int32, z = z2 + 1 := ⟨_, rfl⟩
          replace hd := ob_lx ex_1 hd
          refine lv_iinc (v := x_1) (lv' := [(2, .int x_1), (0, .ref o_b), (1, .int z1)]) hx hb dX1_openBits_27 hl (k := 2) rfl (by rw [ex_1]; rfl) (by decide) rfl (fun ls hl => ?_)
          clear ex_1
          refine lv_goto (tgt := 4) hx hb dX1_openBits_30 (by decide) ?_
          exact ih _ _ z1 x_1 _ hP hD hS (lv_sub hl [1, 2, 0] rfl) hd
        · replace hd := ob_t c_18 hd
          refine lv_iload_n hx hb dX1_openBits_21 rfl (lv_at hl 1 rfl) ?_
          refine lv_iconst (v := 1) hx hb dX1_openBits_22 (by decide) ?_
          refine lv_iload_n hx hb dX1_openBits_23 rfl (lv_at hl 2 rfl) ?_
          refine lv_ishl hx hb dX1_openBits_24 ?_
          refine lv_ior hx hb dX1_openBits_25 ?_
          refine lv_topi (fun x_2 ex_2 => ?_)
          replace hd := ob_lx ex_2 hd
          clear ex_2
          refine lv_istore_n (lv' := [(1, .int x_2), (0, .ref o_b), (2, .int z2)]) hx hb dX1_openBits_26 rfl hl (by decide) rfl (fun ls hl => ?_)
          obtain ⟨x_3, ex_3⟩ : ∃ z : Int32, z = z2 + 1 := ⟨_, rfl⟩
          replace hd := ob_lx ex_3 hd
          refine lv_iinc (v := x_3) (lv' := [(2, .int x_3), (1, .int x_2), (0, .ref o_b)]) hx hb dX1_openBits_27 hl (k := 2) rfl (by rw [ex_3]; rfl) (by decide) rfl (fun ls hl => ?_)
          clear ex_3
          refine lv_goto (tgt := 4) hx hb dX1_openBits_30 (by decide) ?_
          exact ih _ _ x_2 x_3 _ hP hD hS (lv_sub hl [2, 1, 0] rfl) hd
  refine lv_iconst (v := 0) hx hb dX1_openBits_0 (by decide) ?_
  refine lv_istore_n (lv' := [(1, .int 0), (0, .ref o_b)]) hx hb dX1_openBits_1 rfl hl (by decide) rfl (fun ls hl => ?_)
  refine lv_iconst (v := 0) hx hb dX1_openBits_2 (by decide) ?_
  refine lv_istore_n (lv' := [(2, .int 0), (1, .int 0), (0, .ref o_b)]) hx hb dX1_openBits_3 rfl hl (by decide) rfl (fun ls hl => ?_)
  exact L4  2000 _ _ 0 0 _ hP hD hS (lv_sub hl [2, 1, 0] rfl) hd

def fd_X1_pullOf_L46  (b : ob_B) (x1 : Int32) (v0 : Int32) : Option (Int32) := if x1 < 0 ∨ 7 ≤ Int32.toNatClampNeg x1 then none else (ob_lt ((b.2 7) (Int32.toNatClampNeg x1) : Int32) (fun x_1 => if x_1 = 1 then (if x1 < 0 ∨ 7 ≤ Int32.toNatClampNeg x1 then none else (some (((b.2 9) (Int32.toNatClampNeg x1)) + v0))) else (if x_1 = 2 then (if x1 < 0 ∨ 7 ≤ Int32.toNatClampNeg x1 then none else (some ((3 * ((b.2 9) (Int32.toNatClampNeg x1))) + v0))) else (if x_1 = 3 then (if x1 < 0 ∨ 7 ≤ Int32.toNatClampNeg x1 then none else (some ((((b.2 9) (Int32.toNatClampNeg x1)) / 2) + v0))) else (if x_1 = 4 then (if x1 < 0 ∨ 7 ≤ Int32.toNatClampNeg x1 then none else (some (((b.2 9) (Int32.toNatClampNeg x1)) + 5))) else (if x_1 = 5 then (if ((b.1 2) - (b.1 2) / 2 * 2) = 0 then (if x1 < 0 ∨ 7 ≤ Int32.toNatClampNeg x1 then none else (some (((b.2 9) (Int32.toNatClampNeg x1)) + 5))) else (if x1 < 0 ∨ 7 ≤ Int32.toNatClampNeg x1 then none else (some ((b.2 9) (Int32.toNatClampNeg x1))))) else (if x1 < 0 ∨ 7 ≤ Int32.toNatClampNeg x1 then none else (some (((b.2 9) (Int32.toNatClampNeg x1)) + 5)))))))))
def fd_X1_pullOf  (b : ob_B) (x1 : Int32) : Option (Int32) := if x1 < 0 ∨ 7 ≤ Int32.toNatClampNeg x1 then none else (if ((b.2 11) (Int32.toNatClampNeg x1)) = 0 then (if x1 < 0 ∨ 7 ≤ Int32.toNatClampNeg x1 then none else (if (((b.1 3) >>> (((b.2 8) (Int32.toNatClampNeg x1)) &&& 31)) &&& 1) = 0 then (if x1 < 0 ∨ 7 ≤ Int32.toNatClampNeg x1 then none else (if (b.1 2) < ((b.2 10) (Int32.toNatClampNeg x1)) then (fd_X1_pullOf_L46 b x1 0) else (fd_X1_pullOf_L46 b x1 10))) else (some (0)))) else (some (0)))
set_option maxHeartbeats 4000000 in
set_option maxRecDepth 100000 in
theorem mt_X1_pullOf (l : Launch) (dC : Nat → ClassId) (dI : Nat → Nat → Nat) (cI cZ cR cW : ClassId) (xs : Nat → Nat) (sz : Nat) (o_b : Nat) (a_b : Nat → Nat) (b : ob_B) (x1 : Int32)  (rr : Int32) (hd : fd_X1_pullOf b x1 = some (rr)) : ob_M l yX1_pullOf wsX1_pullOf ({ frames := 0, cells := 0, slots := 0, locals := 0 } : Room) (dC, dI) (ob_ty cI cZ cR cW) xs [.ref o_b, .int x1] (ob_w1 o_b a_b cI b) sz (ob_Qi (dC, dI) rr (ob_w1 o_b a_b cI b)) := by
  rw [fd_X1_pullOf] at hd
  refine ob_in (cc := cX1_pullOf) (maxL := 3) (ret := (some .int)) (own := RX1) (by decide) rfl rfl [(0, .ref o_b), (1, .int x1)] rfl (Nat.le_of_ble_eq_true rfl) ?_
  intro p e s m below meth c hx hb hr hml hown hts hlocks hnm hK A hA hE hP hD hS ls hl
  have kw0 := hts (.fieldLink RX1 46 "OathCoach$Route" "came" "[I") (by decide +kernel)
  have kw1 := hts (.fieldLink RX1 21 "OathCoach$Route" "snow" "I") (by decide +kernel)
  have kw2 := hts (.fieldLink RX1 37 "OathCoach$Route" "place" "[I") (by decide +kernel)
  have kw3 := hts (.fieldLink RX1 18 "OathCoach$Route" "hour" "I") (by decide +kernel)
  have kw4 := hts (.fieldLink RX1 43 "OathCoach$Route" "due" "[I") (by decide +kernel)
  have kw5 := hts (.fieldLink RX1 33 "OathCoach$Route" "kind" "[I") (by decide +kernel)
  have kw6 := hts (.fieldLink RX1 40 "OathCoach$Route" "weight" "[I") (by decide +kernel)
  have hi_X1 : ∀ w ∈ u_ws RX1 TX1 12, w ∈ wsX1_pullOf := by decide +kernel
  have L46 : ∀ (H : Heap) (locs : List Loc)  (v0 : Int32) (ls : Array Slot), va_P (dC, dI) vwCl (ob_w1 o_b a_b cI b) H → va_D A (ob_w1 o_b a_b cI b) → va_S A s.heap H locs → lv_has ls 3 [(0, .ref o_b), (1, .int x1)] → fd_X1_pullOf_L46 b x1 v0 = some (rr) → W p l e ({ frames := 0, cells := 0, slots := 0, locals := 0 } : Room) s m (List.toArray [.ref o_b, .int x1]) below meth c H locs 0 0 (MQ below ((ob_Qi (dC, dI) rr (ob_w1 o_b a_b cI b)) A) (List.toArray [.ref o_b, .int x1]) s 0 0 A) (F0 m 46 ls [.int v0]) := by
    intro  H locs v0 ls hP hD hS hl hd
    rw [fd_X1_pullOf_L46] at hd
    refine lv_istore_n (lv' := [(2, .int v0), (0, .ref o_b), (1, .int x1)]) hx hb dX1_pullOf_46 rfl hl (by decide) rfl (fun ls hl => ?_)
    refine lv_aload_n hx hb dX1_pullOf_47 rfl (lv_at hl 1 rfl) ?_
    refine va_get (D := (dC, dI)) (ci := 1) (v := .ref (a_b 7)) (C := RX1) (T := TX1) (N := 12) hx hb hts hi_X1 hown hK hP 0 rfl rfl 7 (by decide) kw5 (fun _ h9 => h9) rfl dX1_pullOf_48 ?_
    refine lv_iload_n hx hb dX1_pullOf_51 rfl (lv_at hl 2 rfl) ?_
    obtain ⟨h1_52, hd⟩ := ob_nn hd
    refine va_iald hx hb hK hP 1 0 rfl rfl h1_52 dX1_pullOf_52 ?_
    refine lv_topi (fun x_1 ex_1 => ?_)
    replace hd := ob_lx ex_1 hd
    clear ex_1
    by_cases c1_53 : x_1 = 1
    · replace hd := ob_t c1_53 hd
      refine lv_tableIn (off := 35) (tgt := 88) hx hb dX1_pullOf_53 (by rw [c1_53]; decide) (by rw [c1_53]; decide) (by rw [c1_53]; decide) (by decide) ?_
      refine lv_aload_n hx hb dX1_pullOf_88 rfl (lv_at hl 1 rfl) ?_
      refine va_get (D := (dC, dI)) (ci := 1) (v := .ref (a_b 9)) (C := RX1) (T := TX1) (N := 12) hx hb hts hi_X1 hown hK hP 0 rfl rfl 9 (by decide) kw6 (fun _ h9 => h9) rfl dX1_pullOf_89 ?_
      refine lv_iload_n hx hb dX1_pullOf_92 rfl (lv_at hl 2 rfl) ?_
      obtain ⟨h1_93, hd⟩ := ob_nn hd
      refine va_iald hx hb hK hP 3 0 rfl rfl h1_93 dX1_pullOf_93 ?_
      refine lv_iload_n hx hb dX1_pullOf_94 rfl (lv_at hl 0 rfl) ?_
      refine lv_iadd hx hb dX1_pullOf_95 ?_
      have e1 := Option.some.inj hd
      subst e1
      exact ob_iret hx hb hr hlocks hP hD hS dX1_pullOf_96
    replace hd := ob_f c1_53 hd
    by_cases c2_53 : x_1 = 2
    · replace hd := ob_t c2_53 hd
      refine lv_tableIn (off := 44) (tgt := 97) hx hb dX1_pullOf_53 (by rw [c2_53]; decide) (by rw [c2_53]; decide) (by rw [c2_53]; decide) (by decide) ?_
      refine lv_iconst (v := 3) hx hb dX1_pullOf_97 (by decide) ?_
      refine lv_aload_n hx hb dX1_pullOf_98 rfl (lv_at hl 1 rfl) ?_
      refine va_get (D := (dC, dI)) (ci := 1) (v := .ref (a_b 9)) (C := RX1) (T := TX1) (N := 12) hx hb hts hi_X1 hown hK hP 0 rfl rfl 9 (by decide) kw6 (fun _ h9 => h9) rfl dX1_pullOf_99 ?_
      refine lv_iload_n hx hb dX1_pullOf_102 rfl (lv_at hl 2 rfl) ?_
      obtain ⟨h1_103, hd⟩ := ob_nn hd
      refine va_iald hx hb hK hP 3 0 rfl rfl h1_103 dX1_pullOf_103 ?_
      refine lv_imul hx hb dX1_pullOf_104 ?_
      refine lv_iload_n hx hb dX1_pullOf_105 rfl (lv_at hl 0 rfl) ?_
      refine lv_iadd hx hb dX1_pullOf_106 ?_
      have e1 := Option.some.inj hd
      subst e1
      exact ob_iret hx hb hr hlocks hP hD hS dX1_pullOf_107
    replace hd := ob_f c2_53 hd
    by_cases c3_53 : x_1 = 3
    · replace hd := ob_t c3_53 hd
      refine lv_tableIn (off := 55) (tgt := 108) hx hb dX1_pullOf_53 (by rw [c3_53]; decide) (by rw [c3_53]; decide) (by rw [c3_53]; decide) (by decide) ?_
      refine lv_aload_n hx hb dX1_pullOf_108 rfl (lv_at hl 1 rfl) ?_
      refine va_get (D := (dC, dI)) (ci := 1) (v := .ref (a_b 9)) (C := RX1) (T := TX1) (N := 12) hx hb hts hi_X1 hown hK hP 0 rfl rfl 9 (by decide) kw6 (fun _ h9 => h9) rfl dX1_pullOf_109 ?_
      refine lv_iload_n hx hb dX1_pullOf_112 rfl (lv_at hl 2 rfl) ?_
      obtain ⟨h1_113, hd⟩ := ob_nn hd
      refine va_iald hx hb hK hP 3 0 rfl rfl h1_113 dX1_pullOf_113 ?_
      refine lv_iconst (v := 2) hx hb dX1_pullOf_114 (by decide) ?_
      refine lv_idiv hx hb dX1_pullOf_115 (by decide) ?_
      refine lv_iload_n hx hb dX1_pullOf_116 rfl (lv_at hl 0 rfl) ?_
      refine lv_iadd hx hb dX1_pullOf_117 ?_
      have e1 := Option.some.inj hd
      subst e1
      exact ob_iret hx hb hr hlocks hP hD hS dX1_pullOf_118
    replace hd := ob_f c3_53 hd
    by_cases c4_53 : x_1 = 4
    · replace hd := ob_t c4_53 hd
      refine lv_tableIn (off := 93) (tgt := 146) hx hb dX1_pullOf_53 (by rw [c4_53]; decide) (by rw [c4_53]; decide) (by rw [c4_53]; decide) (by decide) ?_
      refine lv_aload_n hx hb dX1_pullOf_146 rfl (lv_at hl 1 rfl) ?_
      refine va_get (D := (dC, dI)) (ci := 1) (v := .ref (a_b 9)) (C := RX1) (T := TX1) (N := 12) hx hb hts hi_X1 hown hK hP 0 rfl rfl 9 (by decide) kw6 (fun _ h9 => h9) rfl dX1_pullOf_147 ?_
      refine lv_iload_n hx hb dX1_pullOf_150 rfl (lv_at hl 2 rfl) ?_
      obtain ⟨h1_151, hd⟩ := ob_nn hd
      refine va_iald hx hb hK hP 3 0 rfl rfl h1_151 dX1_pullOf_151 ?_
      refine lv_iconst (v := 5) hx hb dX1_pullOf_152 (by decide) ?_
      refine lv_iadd hx hb dX1_pullOf_153 ?_
      have e1 := Option.some.inj hd
      subst e1
      exact ob_iret hx hb hr hlocks hP hD hS dX1_pullOf_154
    replace hd := ob_f c4_53 hd
    by_cases c5_53 : x_1 = 5
    · replace hd := ob_t c5_53 hd
      refine lv_tableIn (off := 66) (tgt := 119) hx hb dX1_pullOf_53 (by rw [c5_53]; decide) (by rw [c5_53]; decide) (by rw [c5_53]; decide) (by decide) ?_
      refine lv_aload_n hx hb dX1_pullOf_119 rfl (lv_at hl 1 rfl) ?_
      refine va_get (D := (dC, dI)) (ci := 1) (v := .int (b.1 2)) (C := RX1) (T := TX1) (N := 12) hx hb hts hi_X1 hown hK hP 0 rfl rfl 2 (by decide) kw3 (fun _ h9 => h9) rfl dX1_pullOf_120 ?_
      refine lv_iconst (v := 2) hx hb dX1_pullOf_123 (by decide) ?_
      refine lv_irem hx hb dX1_pullOf_124 (by decide) ?_
      refine lv_if_ne (tgt := 139) hx hb dX1_pullOf_125 (by decide) (fun c_125 => ?_) (fun c_125 => ?_)
      · replace hd := ob_f c_125 hd
        refine lv_aload_n hx hb dX1_pullOf_139 rfl (lv_at hl 1 rfl) ?_
        refine va_get (D := (dC, dI)) (ci := 1) (v := .ref (a_b 9)) (C := RX1) (T := TX1) (N := 12) hx hb hts hi_X1 hown hK hP 0 rfl rfl 9 (by decide) kw6 (fun _ h9 => h9) rfl dX1_pullOf_140 ?_
        refine lv_iload_n hx hb dX1_pullOf_143 rfl (lv_at hl 2 rfl) ?_
        obtain ⟨h1_144, hd⟩ := ob_nn hd
        refine va_iald hx hb hK hP 3 0 rfl rfl h1_144 dX1_pullOf_144 ?_
        have e1 := Option.some.inj hd
        subst e1
        exact ob_iret hx hb hr hlocks hP hD hS dX1_pullOf_145
      · replace hd := ob_t c_125 hd
        refine lv_aload_n hx hb dX1_pullOf_128 rfl (lv_at hl 1 rfl) ?_
        refine va_get (D := (dC, dI)) (ci := 1) (v := .ref (a_b 9)) (C := RX1) (T := TX1) (N := 12) hx hb hts hi_X1 hown hK hP 0 rfl rfl 9 (by decide) kw6 (fun _ h9 => h9) rfl dX1_pullOf_129 ?_
        refine lv_iload_n hx hb dX1_pullOf_132 rfl (lv_at hl 2 rfl) ?_
        obtain ⟨h1_133, hd⟩ := ob_nn hd
        refine va_iald hx hb hK hP 3 0 rfl rfl h1_133 dX1_pullOf_133 ?_
        refine lv_iconst (v := 5) hx hb dX1_pullOf_134 (by decide) ?_
        refine lv_iadd hx hb dX1_pullOf_135 ?_
        refine lv_goto (tgt := 145) hx hb dX1_pullOf_136 (by decide) ?_
        have e1 := Option.some.inj hd
        subst e1
        exact ob_iret hx hb hr hlocks hP hD hS dX1_pullOf_145
    replace hd := ob_f c5_53 hd
    refine lv_tableOut (tgt := 146) hx hb dX1_pullOf_53 (by have n1 := lv_neT c1_53 (show (1 : Int32).toInt = 1 from rfl); have n2 := lv_neT c2_53 (show (2 : Int32).toInt = 2 from rfl); have n3 := lv_neT c3_53 (show (3 : Int32).toInt = 3 from rfl); have n4 := lv_neT c4_53 (show (4 : Int32).toInt = 4 from rfl); have n5 := lv_neT c5_53 (show (5 : Int32).toInt = 5 from rfl); omega) (by decide) ?_
    refine lv_aload_n hx hb dX1_pullOf_146 rfl (lv_at hl 1 rfl) ?_
    refine va_get (D := (dC, dI)) (ci := 1) (v := .ref (a_b 9)) (C := RX1) (T := TX1) (N := 12) hx hb hts hi_X1 hown hK hP 0 rfl rfl 9 (by decide) kw6 (fun _ h9 => h9) rfl dX1_pullOf_147 ?_
    refine lv_iload_n hx hb dX1_pullOf_150 rfl (lv_at hl 2 rfl) ?_
    obtain ⟨h1_151, hd⟩ := ob_nn hd
    refine va_iald hx hb hK hP 3 0 rfl rfl h1_151 dX1_pullOf_151 ?_
    refine lv_iconst (v := 5) hx hb dX1_pullOf_152 (by decide) ?_
    refine lv_iadd hx hb dX1_pullOf_153 ?_
    have e1 := Option.some.inj hd
    subst e1
    exact ob_iret hx hb hr hlocks hP hD hS dX1_pullOf_154
  refine lv_aload_n hx hb dX1_pullOf_0 rfl (lv_at hl 0 rfl) ?_
  refine va_get (D := (dC, dI)) (ci := 1) (v := .ref (a_b 11)) (C := RX1) (T := TX1) (N := 12) hx hb hts hi_X1 hown hK hP 0 rfl rfl 11 (by decide) kw0 (fun _ h9 => h9) rfl dX1_pullOf_1 ?_
  refine lv_iload_n hx hb dX1_pullOf_4 rfl (lv_at hl 1 rfl) ?_
  obtain ⟨h1_5, hd⟩ := ob_nn hd
  refine va_iald hx hb hK hP 5 0 rfl rfl h1_5 dX1_pullOf_5 ?_
  refine lv_if_ne (tgt := 25) hx hb dX1_pullOf_6 (by decide) (fun c_6 => ?_) (fun c_6 => ?_)
  · replace hd := ob_f c_6 hd
    refine lv_iconst (v := 0) hx hb dX1_pullOf_25 (by decide) ?_
    have e1 := Option.some.inj hd
    subst e1
    exact ob_iret hx hb hr hlocks hP hD hS dX1_pullOf_26
  · replace hd := ob_t c_6 hd
    refine lv_aload_n hx hb dX1_pullOf_9 rfl (lv_at hl 0 rfl) ?_
    refine va_get (D := (dC, dI)) (ci := 1) (v := .int (b.1 3)) (C := RX1) (T := TX1) (N := 12) hx hb hts hi_X1 hown hK hP 0 rfl rfl 3 (by decide) kw1 (fun _ h9 => h9) rfl dX1_pullOf_10 ?_
    refine lv_aload_n hx hb dX1_pullOf_13 rfl (lv_at hl 0 rfl) ?_
    refine va_get (D := (dC, dI)) (ci := 1) (v := .ref (a_b 8)) (C := RX1) (T := TX1) (N := 12) hx hb hts hi_X1 hown hK hP 0 rfl rfl 8 (by decide) kw2 (fun _ h9 => h9) rfl dX1_pullOf_14 ?_
    refine lv_iload_n hx hb dX1_pullOf_17 rfl (lv_at hl 1 rfl) ?_
    obtain ⟨h1_18, hd⟩ := ob_nn hd
    refine va_iald hx hb hK hP 2 0 rfl rfl h1_18 dX1_pullOf_18 ?_
    refine lv_ishr hx hb dX1_pullOf_19 ?_
    refine lv_iconst (v := 1) hx hb dX1_pullOf_20 (by decide) ?_
    refine lv_iand hx hb dX1_pullOf_21 ?_
    refine lv_if_eq (tgt := 27) hx hb dX1_pullOf_22 (by decide) (fun c_22 => ?_) (fun c_22 => ?_)
    · replace hd := ob_t c_22 hd
      refine lv_aload_n hx hb dX1_pullOf_27 rfl (lv_at hl 0 rfl) ?_
      refine va_get (D := (dC, dI)) (ci := 1) (v := .int (b.1 2)) (C := RX1) (T := TX1) (N := 12) hx hb hts hi_X1 hown hK hP 0 rfl rfl 2 (by decide) kw3 (fun _ h9 => h9) rfl dX1_pullOf_28 ?_
      refine lv_aload_n hx hb dX1_pullOf_31 rfl (lv_at hl 0 rfl) ?_
      refine va_get (D := (dC, dI)) (ci := 1) (v := .ref (a_b 10)) (C := RX1) (T := TX1) (N := 12) hx hb hts hi_X1 hown hK hP 0 rfl rfl 10 (by decide) kw4 (fun _ h9 => h9) rfl dX1_pullOf_32 ?_
      refine lv_iload_n hx hb dX1_pullOf_35 rfl (lv_at hl 1 rfl) ?_
      obtain ⟨h1_36, hd⟩ := ob_nn hd
      refine va_iald hx hb hK hP 4 0 rfl rfl h1_36 dX1_pullOf_36 ?_
      refine lv_icmp_lt (tgt := 45) hx hb dX1_pullOf_37 (by decide) (fun c_37 => ?_) (fun c_37 => ?_)
      · replace hd := ob_t c_37 hd
        refine lv_iconst (v := 0) hx hb dX1_pullOf_45 (by decide) ?_
        exact L46   _ _ 0 _ hP hD hS (lv_sub hl [0, 1] rfl) hd
      · replace hd := ob_f c_37 hd
        refine lv_bipush (v := 10) hx hb dX1_pullOf_40 (by decide) ?_
        refine lv_goto (tgt := 46) hx hb dX1_pullOf_42 (by decide) ?_
        exact L46   _ _ 10 _ hP hD hS (lv_sub hl [0, 1] rfl) hd
    · replace hd := ob_f c_22 hd
      refine lv_iconst (v := 0) hx hb dX1_pullOf_25 (by decide) ?_
      have e1 := Option.some.inj hd
      subst e1
      exact ob_iret hx hb hr hlocks hP hD hS dX1_pullOf_26

def fd_X1_puller_L36 (k_8 : ob_B → Int32 → Int32 → Int32 → Int32 → Option (Int32)) (b : ob_B) (x1 : Int32) (z2 : Int32) (z3 : Int32) (z4 : Int32) (v0 : Int32) : Option (Int32) := if v0 ≤ z3 then (ob_lt (z4 + 1 : Int32) (fun x_2 => k_8 b x1 z2 z3 x_2)) else (ob_lt (z4 + 1 : Int32) (fun x_3 => k_8 b x1 z4 v0 x_3))
def fd_X1_puller_L8  : Nat → ob_B → Int32 → Int32 → Int32 → Int32 → Option (Int32)
  | 0, _, _, _, _, _ => none
  | fu + 1, b, x1, z2, z3, z4 => if (b.1 4) ≤ z4 then (some (z2)) else (if ((x1 >>> (z4 &&& 31)) &&& 1) = 0 then (ob_b1 (fd_X1_pullOf b z4) (fun r_1 => fd_X1_puller_L36 (fd_X1_puller_L8 fu) b x1 z2 z3 z4 r_1)) else (fd_X1_puller_L36 (fd_X1_puller_L8 fu) b x1 z2 z3 z4 0))
def fd_X1_puller  (b : ob_B) (x1 : Int32) : Option (Int32) := fd_X1_puller_L8 2000 b x1 (-1000000) 0 0
set_option maxHeartbeats 4000000 in
set_option maxRecDepth 100000 in
theorem mt_X1_puller (l : Launch) (dC : Nat → ClassId) (dI : Nat → Nat → Nat) (cI cZ cR cW : ClassId) (xs : Nat → Nat) (sz : Nat) (o_b : Nat) (a_b : Nat → Nat) (b : ob_B) (x1 : Int32)  (rr : Int32) (hd : fd_X1_puller b x1 = some (rr)) : ob_M l yX1_puller wsX1_puller ({ frames := 1, cells := 0, slots := 0, locals := 22 } : Room) (dC, dI) (ob_ty cI cZ cR cW) xs [.ref o_b, .int x1] (ob_w1 o_b a_b cI b) sz (ob_Qi (dC, dI) rr (ob_w1 o_b a_b cI b)) := by
  rw [fd_X1_puller] at hd
  refine ob_in (cc := cX1_puller) (maxL := 6) (ret := (some .int)) (own := RX1) (by decide) rfl rfl [(0, .ref o_b), (1, .int x1)] rfl (Nat.le_of_ble_eq_true rfl) ?_
  intro p e s m below meth c hx hb hr hml hown hts hlocks hnm hK A hA hE hP hD hS ls hl
  have kw0 := hts (.constant RX1 61 (-1000000)) (by decide +kernel)
  have kw1 := hts (.fieldLink RX1 24 "OathCoach$Route" "oaths" "I") (by decide +kernel)
  have hi_X1 : ∀ w ∈ u_ws RX1 TX1 12, w ∈ wsX1_puller := by decide +kernel
  have L36 : ∀ (k_8 : ob_B → Int32 → Int32 → Int32 → Int32 → Option (Int32)) (hk_8 : ∀ (H : Heap) (locs : List Loc)  (z2 : Int32) (z3 : Int32) (z4 : Int32) (ls : Array Slot), va_P (dC, dI) vwCl (ob_w1 o_b a_b cI b) H → va_D A (ob_w1 o_b a_b cI b) → va_S A s.heap H locs → lv_has ls 6 [(0, .ref o_b), (1, .int x1), (2, .int z2), (3, .int z3), (4, .int z4)] → k_8 b x1 z2 z3 z4 = some (rr) → W p l e ({ frames := 1, cells := 0, slots := 0, locals := 22 } : Room) s m (List.toArray [.ref o_b, .int x1]) below meth c H locs 0 0 (MQ below ((ob_Qi (dC, dI) rr (ob_w1 o_b a_b cI b)) A) (List.toArray [.ref o_b, .int x1]) s 0 0 A) (F0 m 8 ls [])), ∀ (H : Heap) (locs : List Loc)  (z2 : Int32) (z3 : Int32) (z4 : Int32) (v0 : Int32) (ls : Array Slot), va_P (dC, dI) vwCl (ob_w1 o_b a_b cI b) H → va_D A (ob_w1 o_b a_b cI b) → va_S A s.heap H locs → lv_has ls 6 [(0, .ref o_b), (1, .int x1), (2, .int z2), (3, .int z3), (4, .int z4)] → fd_X1_puller_L36 k_8 b x1 z2 z3 z4 v0 = some (rr) → W p l e ({ frames := 1, cells := 0, slots := 0, locals := 22 } : Room) s m (List.toArray [.ref o_b, .int x1]) below meth c H locs 0 0 (MQ below ((ob_Qi (dC, dI) rr (ob_w1 o_b a_b cI b)) A) (List.toArray [.ref o_b, .int x1]) s 0 0 A) (F0 m 36 ls [.int v0]) := by
    intro k_8 hk_8 H locs z2 z3 z4 v0 ls hP hD hS hl hd
    rw [fd_X1_puller_L36] at hd
    refine lv_istore (lv' := [(5, .int v0), (0, .ref o_b), (1, .int x1), (2, .int z2), (3, .int z3), (4, .int z4)]) hx hb dX1_puller_36 hl (by decide) rfl (fun ls hl => ?_)
    refine lv_iload hx hb dX1_puller_38 (lv_at hl 0 rfl) ?_
    refine lv_iload_n hx hb dX1_puller_40 rfl (lv_at hl 4 rfl) ?_
    refine lv_icmp_le (tgt := 50) hx hb dX1_puller_41 (by decide) (fun c_41 => ?_) (fun c_41 => ?_)
    · replace hd := ob_t c_41 hd
      obtain ⟨x_2, ex_2⟩ : ∃ z : Int32, z = z4 + 1 := ⟨_, rfl⟩
      replace hd := ob_lx ex_2 hd
      refine lv_iinc (v := x_2) (lv' := [(4, .int x_2), (5, .int v0), (0, .ref o_b), (1, .int x1), (2, .int z2), (3, .int z3)]) hx hb dX1_puller_50 hl (k := 5) rfl (by rw [ex_2]; rfl) (by decide) rfl (fun ls hl => ?_)
      clear ex_2
      refine lv_goto (tgt := 8) hx hb dX1_puller_53 (by decide) ?_
      exact hk_8 _ _ z2 z3 x_2 _ hP hD hS (lv_sub hl [2, 3, 4, 5, 0] rfl) hd
    · replace hd := ob_f c_41 hd
      refine lv_iload hx hb dX1_puller_44 (lv_at hl 5 rfl) ?_
      refine lv_istore_n (lv' := [(2, .int z4), (5, .int v0), (0, .ref o_b), (1, .int x1), (3, .int z3), (4, .int z4)]) hx hb dX1_puller_46 rfl hl (by decide) rfl (fun ls hl => ?_)
      refine lv_iload hx hb dX1_puller_47 (lv_at hl 1 rfl) ?_
      refine lv_istore_n (lv' := [(3, .int v0), (2, .int z4), (5, .int v0), (0, .ref o_b), (1, .int x1), (4, .int z4)]) hx hb dX1_puller_49 rfl hl (by decide) rfl (fun ls hl => ?_)
      obtain ⟨x_3, ex_3⟩ : ∃ z : Int32, z = z4 + 1 := ⟨_, rfl⟩
      replace hd := ob_lx ex_3 hd
      refine lv_iinc (v := x_3) (lv' := [(4, .int x_3), (3, .int v0), (2, .int z4), (5, .int v0), (0, .ref o_b), (1, .int x1)]) hx hb dX1_puller_50 hl (k := 5) rfl (by rw [ex_3]; rfl) (by decide) rfl (fun ls hl => ?_)
      clear ex_3
      refine lv_goto (tgt := 8) hx hb dX1_puller_53 (by decide) ?_
      exact hk_8 _ _ z4 v0 x_3 _ hP hD hS (lv_sub hl [4, 5, 2, 1, 0] rfl) hd
  have L8 : ∀  (fu : Nat), ∀ (H : Heap) (locs : List Loc)  (z2 : Int32) (z3 : Int32) (z4 : Int32) (ls : Array Slot), va_P (dC, dI) vwCl (ob_w1 o_b a_b cI b) H → va_D A (ob_w1 o_b a_b cI b) → va_S A s.heap H locs → lv_has ls 6 [(0, .ref o_b), (1, .int x1), (2, .int z2), (3, .int z3), (4, .int z4)] → fd_X1_puller_L8 fu b x1 z2 z3 z4 = some (rr) → W p l e ({ frames := 1, cells := 0, slots := 0, locals := 22 } : Room) s m (List.toArray [.ref o_b, .int x1]) below meth c H locs 0 0 (MQ below ((ob_Qi (dC, dI) rr (ob_w1 o_b a_b cI b)) A) (List.toArray [.ref o_b, .int x1]) s 0 0 A) (F0 m 8 ls []) := by
    intro  fu
    induction fu with
    | zero =>
      intro H locs z2 z3 z4 ls hP hD hS hl hd
      rw [fd_X1_puller_L8] at hd
      cases hd
    | succ fu ih =>
      intro H locs z2 z3 z4 ls hP hD hS hl hd
      rw [fd_X1_puller_L8] at hd
      refine lv_iload hx hb dX1_puller_8 (lv_at hl 4 rfl) ?_
      refine lv_aload_n hx hb dX1_puller_10 rfl (lv_at hl 0 rfl) ?_
      refine va_get (D := (dC, dI)) (ci := 1) (v := .int (b.1 4)) (C := RX1) (T := TX1) (N := 12) hx hb hts hi_X1 hown hK hP 0 rfl rfl 4 (by decide) kw1 (fun _ h9 => h9) rfl dX1_puller_11 ?_
      refine lv_icmp_ge (tgt := 56) hx hb dX1_puller_14 (by decide) (fun c_14 => ?_) (fun c_14 => ?_)
      · replace hd := ob_t c_14 hd
        refine lv_iload_n hx hb dX1_puller_56 rfl (lv_at hl 2 rfl) ?_
        have e1 := Option.some.inj hd
        subst e1
        exact ob_iret hx hb hr hlocks hP hD hS dX1_puller_57
      · replace hd := ob_f c_14 hd
        refine lv_iload_n hx hb dX1_puller_17 rfl (lv_at hl 1 rfl) ?_
        refine lv_iload hx hb dX1_puller_18 (lv_at hl 4 rfl) ?_
        refine lv_ishr hx hb dX1_puller_20 ?_
        refine lv_iconst (v := 1) hx hb dX1_puller_21 (by decide) ?_
        refine lv_iand hx hb dX1_puller_22 ?_
        refine lv_if_eq (tgt := 30) hx hb dX1_puller_23 (by decide) (fun c_23 => ?_) (fun c_23 => ?_)
        · replace hd := ob_t c_23 hd
          refine lv_aload_n hx hb dX1_puller_30 rfl (lv_at hl 0 rfl) ?_
          refine lv_iload hx hb dX1_puller_31 (lv_at hl 4 rfl) ?_
          obtain ⟨r_1, hc_33, hd⟩ := ob_s1 hd
          refine ob_Vi (isC := [0, 1, 2, 3, 4, 5]) (isR := []) (is2 := [0, 1, 2, 3, 4, 5]) (wc := (ob_w1 o_b a_b cI b)) (wr := ([] : va_W)) (w1 := (ob_w1 o_b a_b cI b)) (w2 := (ob_w1 o_b a_b cI b)) (b := o_b) (As := [.int z4]) (rest := []) ⟨hx, hb, hml, hown, hts⟩ (mt_X1_pullOf l dC dI cI cZ cR cW xs _ o_b a_b b z4 r_1 hc_33) (cwV 1 hts gX1_puller_X1_pullOf rfl rfl rfl (by decide +kernel) ⟨Nat.le_of_ble_eq_true rfl, Nat.le_of_ble_eq_true rfl⟩) hK hE hP hD hS hA ⟨rfl, rfl, rfl, rfl, rfl, rfl, rfl⟩ 1 0 rfl rfl rfl hl rfl rfl (Nat.le_of_ble_eq_true rfl) ⟨Nat.le_of_ble_eq_true rfl, Nat.le_of_ble_eq_true rfl⟩ dX1_puller_33 (fun H locs hP hD hS => ?_)
          refine W.widen (k := 0) (n := 0) (Nat.le_refl _) (Nat.le_refl _) ?_
          exact L36 (fd_X1_puller_L8 fu) ih  _ _ z2 z3 z4 r_1 _ hP hD hS (lv_sub hl [0, 1, 2, 3, 4] rfl) hd
        · replace hd := ob_f c_23 hd
          refine lv_iconst (v := 0) hx hb dX1_puller_26 (by decide) ?_
          refine lv_goto (tgt := 36) hx hb dX1_puller_27 (by decide) ?_
          exact L36 (fd_X1_puller_L8 fu) ih  _ _ z2 z3 z4 0 _ hP hD hS (lv_sub hl [0, 1, 2, 3, 4] rfl) hd
  refine lv_ldc hx hb hown kw0 dX1_puller_0 ?_
  refine lv_istore_n (lv' := [(2, .int (-1000000)), (0, .ref o_b), (1, .int x1)]) hx hb dX1_puller_2 rfl hl (by decide) rfl (fun ls hl => ?_)
  refine lv_iconst (v := 0) hx hb dX1_puller_3 (by decide) ?_
  refine lv_istore_n (lv' := [(3, .int 0), (2, .int (-1000000)), (0, .ref o_b), (1, .int x1)]) hx hb dX1_puller_4 rfl hl (by decide) rfl (fun ls hl => ?_)
  refine lv_iconst (v := 0) hx hb dX1_puller_5 (by decide) ?_
  refine lv_istore (lv' := [(4, .int 0), (3, .int 0), (2, .int (-1000000)), (0, .ref o_b), (1, .int x1)]) hx hb dX1_puller_6 hl (by decide) rfl (fun ls hl => ?_)
  exact L8  2000 _ _ (-1000000) 0 0 _ hP hD hS (lv_sub hl [3, 4, 2, 1, 0] rfl) hd

def fd_X1_placeNext  (b : ob_B) (x1 : Int32) : Option (Int32) := ob_b1 (fd_X1_puller b x1) (fun r_1 => if 0 ≤ r_1 then (if r_1 < 0 ∨ 7 ≤ Int32.toNatClampNeg r_1 then none else (ob_b1 (fd_J6_signum_0f7a4 (((b.2 8) (Int32.toNatClampNeg r_1)) - (b.1 0))) (fun r_2 => some ((b.1 0) + r_2)))) else (some (b.1 0)))
set_option maxHeartbeats 4000000 in
set_option maxRecDepth 100000 in
theorem mt_X1_placeNext (l : Launch) (dC : Nat → ClassId) (dI : Nat → Nat → Nat) (cI cZ cR cW : ClassId) (xs : Nat → Nat) (sz : Nat) (o_b : Nat) (a_b : Nat → Nat) (b : ob_B) (x1 : Int32)  (rr : Int32) (hd : fd_X1_placeNext b x1 = some (rr)) : ob_M l yX1_placeNext wsX1_placeNext ({ frames := 2, cells := 0, slots := 0, locals := 47 } : Room) (dC, dI) (ob_ty cI cZ cR cW) xs [.ref o_b, .int x1] (ob_w1 o_b a_b cI b) sz (ob_Qi (dC, dI) rr (ob_w1 o_b a_b cI b)) := by
  rw [fd_X1_placeNext] at hd
  refine ob_in (cc := cX1_placeNext) (maxL := 3) (ret := (some .int)) (own := RX1) (by decide) rfl rfl [(0, .ref o_b), (1, .int x1)] rfl (Nat.le_of_ble_eq_true rfl) ?_
  intro p e s m below meth c hx hb hr hml hown hts hlocks hnm hK A hA hE hP hD hS ls hl
  have kw0 := hts (.fieldLink RX1 9 "OathCoach$Route" "at" "I") (by decide +kernel)
  have kw1 := hts (.fieldLink RX1 37 "OathCoach$Route" "place" "[I") (by decide +kernel)
  have hi_X1 : ∀ w ∈ u_ws RX1 TX1 12, w ∈ wsX1_placeNext := by decide +kernel
  refine lv_aload_n hx hb dX1_placeNext_0 rfl (lv_at hl 0 rfl) ?_
  refine lv_iload_n hx hb dX1_placeNext_1 rfl (lv_at hl 1 rfl) ?_
  obtain ⟨r_1, hc_2, hd⟩ := ob_s1 hd
  refine ob_Vi (isC := [0, 1, 2, 3, 4, 5]) (isR := []) (is2 := [0, 1, 2, 3, 4, 5]) (wc := (ob_w1 o_b a_b cI b)) (wr := ([] : va_W)) (w1 := (ob_w1 o_b a_b cI b)) (w2 := (ob_w1 o_b a_b cI b)) (b := o_b) (As := [.int x1]) (rest := []) ⟨hx, hb, hml, hown, hts⟩ (mt_X1_puller l dC dI cI cZ cR cW xs _ o_b a_b b x1 r_1 hc_2) (cwV 1 hts gX1_placeNext_X1_puller rfl rfl rfl (by decide +kernel) ⟨Nat.le_of_ble_eq_true rfl, Nat.le_of_ble_eq_true rfl⟩) hK hE hP hD hS hA ⟨rfl, rfl, rfl, rfl, rfl, rfl, rfl⟩ 1 0 rfl rfl rfl hl rfl rfl (Nat.le_of_ble_eq_true rfl) ⟨Nat.le_of_ble_eq_true rfl, Nat.le_of_ble_eq_true rfl⟩ dX1_placeNext_2 (fun H locs hP hD hS => ?_)
  refine W.widen (k := 0) (n := 0) (Nat.le_refl _) (Nat.le_refl _) ?_
  refine lv_istore_n (lv' := [(2, .int r_1), (0, .ref o_b), (1, .int x1)]) hx hb dX1_placeNext_5 rfl hl (by decide) rfl (fun ls hl => ?_)
  refine lv_iload_n hx hb dX1_placeNext_6 rfl (lv_at hl 0 rfl) ?_
  refine lv_if_ge (tgt := 17) hx hb dX1_placeNext_7 (by decide) (fun c_7 => ?_) (fun c_7 => ?_)
  · replace hd := ob_t c_7 hd
    refine lv_aload_n hx hb dX1_placeNext_17 rfl (lv_at hl 1 rfl) ?_
    refine va_get (D := (dC, dI)) (ci := 1) (v := .int (b.1 0)) (C := RX1) (T := TX1) (N := 12) hx hb hts hi_X1 hown hK hP 0 rfl rfl 0 (by decide) kw0 (fun _ h9 => h9) rfl dX1_placeNext_18 ?_
    refine lv_aload_n hx hb dX1_placeNext_21 rfl (lv_at hl 1 rfl) ?_
    refine va_get (D := (dC, dI)) (ci := 1) (v := .ref (a_b 8)) (C := RX1) (T := TX1) (N := 12) hx hb hts hi_X1 hown hK hP 0 rfl rfl 8 (by decide) kw1 (fun _ h9 => h9) rfl dX1_placeNext_22 ?_
    refine lv_iload_n hx hb dX1_placeNext_25 rfl (lv_at hl 0 rfl) ?_
    obtain ⟨h1_26, hd⟩ := ob_nn hd
    refine va_iald hx hb hK hP 2 0 rfl rfl h1_26 dX1_placeNext_26 ?_
    refine lv_aload_n hx hb dX1_placeNext_27 rfl (lv_at hl 1 rfl) ?_
    refine va_get (D := (dC, dI)) (ci := 1) (v := .int (b.1 0)) (C := RX1) (T := TX1) (N := 12) hx hb hts hi_X1 hown hK hP 0 rfl rfl 0 (by decide) kw0 (fun _ h9 => h9) rfl dX1_placeNext_28 ?_
    refine lv_isub hx hb dX1_placeNext_31 ?_
    obtain ⟨r_2, hc_32, hd⟩ := ob_s1 hd
    refine ob_Si (isC := []) (isR := [0, 1, 2, 3, 4, 5]) (is2 := [0, 1, 2, 3, 4, 5]) (wc := ([] : va_W)) (wr := (List.filterMap (fun i => (ob_w1 o_b a_b cI b)[i]?) [0, 1, 2, 3, 4, 5])) (w1 := ([] : va_W)) (w2 := (ob_w1 o_b a_b cI b)) (As := [.int (((b.2 8) (Int32.toNatClampNeg r_1)) - (b.1 0))]) (rest := [.int (b.1 0)]) ⟨hx, hb, hml, hown, hts⟩ (mt_J6_signum_0f7a4 l dC dI cI cZ cR cW xs _ (((b.2 8) (Int32.toNatClampNeg r_1)) - (b.1 0)) r_2 hc_32) (va_cwS 1 hts gX1_placeNext_J6_signum_0f7a4 rfl rfl rfl (by decide +kernel) ⟨Nat.le_of_ble_eq_true rfl, Nat.le_of_ble_eq_true rfl⟩) hK hE hP hD hS hA ⟨rfl, rfl, rfl, rfl, rfl, rfl, rfl⟩ hl rfl rfl (Nat.le_of_ble_eq_true rfl) ⟨Nat.le_of_ble_eq_true rfl, Nat.le_of_ble_eq_true rfl⟩ dX1_placeNext_32 (fun H locs hP hD hS => ?_)
    refine W.widen (k := 0) (n := 0) (Nat.le_refl _) (Nat.le_refl _) ?_
    refine lv_iadd hx hb dX1_placeNext_35 ?_
    have e1 := Option.some.inj hd
    subst e1
    exact ob_iret hx hb hr hlocks hP hD hS dX1_placeNext_36
  · replace hd := ob_f c_7 hd
    refine lv_aload_n hx hb dX1_placeNext_10 rfl (lv_at hl 1 rfl) ?_
    refine va_get (D := (dC, dI)) (ci := 1) (v := .int (b.1 0)) (C := RX1) (T := TX1) (N := 12) hx hb hts hi_X1 hown hK hP 0 rfl rfl 0 (by decide) kw0 (fun _ h9 => h9) rfl dX1_placeNext_11 ?_
    refine lv_goto (tgt := 36) hx hb dX1_placeNext_14 (by decide) ?_
    have e1 := Option.some.inj hd
    subst e1
    exact ob_iret hx hb hr hlocks hP hD hS dX1_placeNext_36

def fd_X1_meet_L4  : Nat → ob_B → Int32 → Int32 → Option (Int32 × ob_B)
  | 0, _, _, _ => none
  | fu + 1, b, z1, z2 => if (b.1 4) ≤ z2 then (some (z1, b)) else (if z2 < 0 ∨ 7 ≤ Int32.toNatClampNeg z2 then none else (if ((b.2 11) (Int32.toNatClampNeg z2)) = 0 then (if z2 < 0 ∨ 7 ≤ Int32.toNatClampNeg z2 then none else (if ((b.2 8) (Int32.toNatClampNeg z2)) = (b.1 0) then (ob_lt (z1 ||| (1 <<< (z2 &&& 31)) : Int32) (fun x_3 => if z2 < 0 ∨ 7 ≤ Int32.toNatClampNeg z2 then none else (if ((b.2 7) (Int32.toNatClampNeg z2)) = 4 then (if z2 < 0 ∨ 7 ≤ Int32.toNatClampNeg z2 then none else (ob_lt (ob_A b 11 (upd (b.2 11) (Int32.toNatClampNeg z2) 2) : ob_B) (fun b_8 => ob_lt ((b_8.1 6) + 1 : Int32) (fun x_9 => ob_lt (ob_I b_8 6 x_9 : ob_B) (fun b_10 => ob_lt (z2 + 1 : Int32) (fun x_11 => fd_X1_meet_L4 fu b_10 x_3 x_11)))))) else (if z2 < 0 ∨ 7 ≤ Int32.toNatClampNeg z2 then none else (ob_lt (ob_A b 11 (upd (b.2 11) (Int32.toNatClampNeg z2) 1) : ob_B) (fun b_4 => ob_lt ((b_4.1 5) + 1 : Int32) (fun x_5 => ob_lt (ob_I b_4 5 x_5 : ob_B) (fun b_6 => ob_lt (z2 + 1 : Int32) (fun x_7 => fd_X1_meet_L4 fu b_6 x_3 x_7))))))))) else (ob_lt (z2 + 1 : Int32) (fun x_2 => fd_X1_meet_L4 fu b z1 x_2)))) else (ob_lt (z2 + 1 : Int32) (fun x_1 => fd_X1_meet_L4 fu b z1 x_1))))
def fd_X1_meet  (b : ob_B)  : Option (Int32 × ob_B) := fd_X1_meet_L4 2000 b 0 0
set_option maxHeartbeats 4000000 in
set_option maxRecDepth 100000 in
theorem mt_X1_meet (l : Launch) (dC : Nat → ClassId) (dI : Nat → Nat → Nat) (cI cZ cR cW : ClassId) (xs : Nat → Nat) (sz : Nat) (o_b : Nat) (a_b : Nat → Nat) (b : ob_B)   (rr : Int32) (b' : ob_B) (hd : fd_X1_meet b = some (rr, b')) : ob_M l yX1_meet wsX1_meet ({ frames := 0, cells := 0, slots := 0, locals := 0 } : Room) (dC, dI) (ob_ty cI cZ cR cW) xs [.ref o_b] (ob_w1 o_b a_b cI b) sz (ob_Qi (dC, dI) rr (ob_w1 o_b a_b cI b')) := by
  rw [fd_X1_meet] at hd
  refine ob_in (cc := cX1_meet) (maxL := 3) (ret := (some .int)) (own := RX1) (by decide) rfl rfl [(0, .ref o_b)] rfl (Nat.le_of_ble_eq_true rfl) ?_
  intro p e s m below meth c hx hb hr hml hown hts hlocks hnm hK A hA hE hP hD hS ls hl
  have kw0 := hts (.fieldLink RX1 24 "OathCoach$Route" "oaths" "I") (by decide +kernel)
  have kw1 := hts (.fieldLink RX1 46 "OathCoach$Route" "came" "[I") (by decide +kernel)
  have kw2 := hts (.fieldLink RX1 37 "OathCoach$Route" "place" "[I") (by decide +kernel)
  have kw3 := hts (.fieldLink RX1 9 "OathCoach$Route" "at" "I") (by decide +kernel)
  have kw4 := hts (.fieldLink RX1 33 "OathCoach$Route" "kind" "[I") (by decide +kernel)
  have kw5 := hts (.fieldLink RX1 27 "OathCoach$Route" "timesKept" "I") (by decide +kernel)
  have kw6 := hts (.fieldLink RX1 30 "OathCoach$Route" "timesBroken" "I") (by decide +kernel)
  have hi_X1 : ∀ w ∈ u_ws RX1 TX1 12, w ∈ wsX1_meet := by decide +kernel
  have L4 : ∀  (fu : Nat), ∀ (H : Heap) (locs : List Loc) (b : ob_B) (z1 : Int32) (z2 : Int32) (ls : Array Slot), va_P (dC, dI) vwCl (ob_w1 o_b a_b cI b) H → va_D A (ob_w1 o_b a_b cI b) → va_S A s.heap H locs → lv_has ls 3 [(0, .ref o_b), (1, .int z1), (2, .int z2)] → fd_X1_meet_L4 fu b z1 z2 = some (rr, b') → W p l e ({ frames := 0, cells := 0, slots := 0, locals := 0 } : Room) s m (List.toArray [.ref o_b]) below meth c H locs 0 0 (MQ below ((ob_Qi (dC, dI) rr (ob_w1 o_b a_b cI b')) A) (List.toArray [.ref o_b]) s 0 0 A) (F0 m 4 ls []) := by
    intro  fu
    induction fu with
    | zero =>
      intro H locs b z1 z2 ls hP hD hS hl hd
      rw [fd_X1_meet_L4] at hd
      cases hd
    | succ fu ih =>
      intro H locs b z1 z2 ls hP hD hS hl hd
      rw [fd_X1_meet_L4] at hd
      refine lv_iload_n hx hb dX1_meet_4 rfl (lv_at hl 2 rfl) ?_
      refine lv_aload_n hx hb dX1_meet_5 rfl (lv_at hl 0 rfl) ?_
      refine va_get (D := (dC, dI)) (ci := 1) (v := .int (b.1 4)) (C := RX1) (T := TX1) (N := 12) hx hb hts hi_X1 hown hK hP 0 rfl rfl 4 (by decide) kw0 (fun _ h9 => h9) rfl dX1_meet_6 ?_
      refine lv_icmp_ge (tgt := 93) hx hb dX1_meet_9 (by decide) (fun c_9 => ?_) (fun c_9 => ?_)
      · replace hd := ob_t c_9 hd
        refine lv_iload_n hx hb dX1_meet_93 rfl (lv_at hl 1 rfl) ?_
        obtain ⟨e1, e2⟩ := ob_pp hd
        subst e1
        subst e2
        exact ob_iret hx hb hr hlocks hP hD hS dX1_meet_94
      · replace hd := ob_f c_9 hd
        refine lv_aload_n hx hb dX1_meet_12 rfl (lv_at hl 0 rfl) ?_
        refine va_get (D := (dC, dI)) (ci := 1) (v := .ref (a_b 11)) (C := RX1) (T := TX1) (N := 12) hx hb hts hi_X1 hown hK hP 0 rfl rfl 11 (by decide) kw1 (fun _ h9 => h9) rfl dX1_meet_13 ?_
        refine lv_iload_n hx hb dX1_meet_16 rfl (lv_at hl 2 rfl) ?_
        obtain ⟨h1_17, hd⟩ := ob_nn hd
        refine va_iald hx hb hK hP 5 0 rfl rfl h1_17 dX1_meet_17 ?_
        refine lv_if_ne (tgt := 87) hx hb dX1_meet_18 (by decide) (fun c_18 => ?_) (fun c_18 => ?_)
        · replace hd := ob_f c_18 hd
          obtain ⟨x_1, ex_1⟩ : ∃ z : Int32, z = z2 + 1 := ⟨_, rfl⟩
          replace hd := ob_lx ex_1 hd
          refine lv_iinc (v := x_1) (lv' := [(2, .int x_1), (0, .ref o_b), (1, .int z1)]) hx hb dX1_meet_87 hl (k := 2) rfl (by rw [ex_1]; rfl) (by decide) rfl (fun ls hl => ?_)
          clear ex_1
          refine lv_goto (tgt := 4) hx hb dX1_meet_90 (by decide) ?_
          exact ih _ _ b z1 x_1 _ hP hD hS (lv_sub hl [1, 2, 0] rfl) hd
        · replace hd := ob_t c_18 hd
          refine lv_aload_n hx hb dX1_meet_21 rfl (lv_at hl 0 rfl) ?_
          refine va_get (D := (dC, dI)) (ci := 1) (v := .ref (a_b 8)) (C := RX1) (T := TX1) (N := 12) hx hb hts hi_X1 hown hK hP 0 rfl rfl 8 (by decide) kw2 (fun _ h9 => h9) rfl dX1_meet_22 ?_
          refine lv_iload_n hx hb dX1_meet_25 rfl (lv_at hl 2 rfl) ?_
          obtain ⟨h1_26, hd⟩ := ob_nn hd
          refine va_iald hx hb hK hP 2 0 rfl rfl h1_26 dX1_meet_26 ?_
          refine lv_aload_n hx hb dX1_meet_27 rfl (lv_at hl 0 rfl) ?_
          refine va_get (D := (dC, dI)) (ci := 1) (v := .int (b.1 0)) (C := RX1) (T := TX1) (N := 12) hx hb hts hi_X1 hown hK hP 0 rfl rfl 0 (by decide) kw3 (fun _ h9 => h9) rfl dX1_meet_28 ?_
          refine lv_icmp_ne (tgt := 87) hx hb dX1_meet_31 (by decide) (fun c_31 => ?_) (fun c_31 => ?_)
          · replace hd := ob_f c_31 hd
            obtain ⟨x_2, ex_2⟩ : ∃ z : Int32, z = z2 + 1 := ⟨_, rfl⟩
            replace hd := ob_lx ex_2 hd
            refine lv_iinc (v := x_2) (lv' := [(2, .int x_2), (0, .ref o_b), (1, .int z1)]) hx hb dX1_meet_87 hl (k := 2) rfl (by rw [ex_2]; rfl) (by decide) rfl (fun ls hl => ?_)
            clear ex_2
            refine lv_goto (tgt := 4) hx hb dX1_meet_90 (by decide) ?_
            exact ih _ _ b z1 x_2 _ hP hD hS (lv_sub hl [1, 2, 0] rfl) hd
          · replace hd := ob_t c_31 hd
            refine lv_iload_n hx hb dX1_meet_34 rfl (lv_at hl 1 rfl) ?_
            refine lv_iconst (v := 1) hx hb dX1_meet_35 (by decide) ?_
            refine lv_iload_n hx hb dX1_meet_36 rfl (lv_at hl 2 rfl) ?_
            refine lv_ishl hx hb dX1_meet_37 ?_
            refine lv_ior hx hb dX1_meet_38 ?_
            refine lv_topi (fun x_3 ex_3 => ?_)
            replace hd := ob_lx ex_3 hd
            clear ex_3
            refine lv_istore_n (lv' := [(1, .int x_3), (0, .ref o_b), (2, .int z2)]) hx hb dX1_meet_39 rfl hl (by decide) rfl (fun ls hl => ?_)
            refine lv_aload_n hx hb dX1_meet_40 rfl (lv_at hl 1 rfl) ?_
            refine va_get (D := (dC, dI)) (ci := 1) (v := .ref (a_b 7)) (C := RX1) (T := TX1) (N := 12) hx hb hts hi_X1 hown hK hP 0 rfl rfl 7 (by decide) kw4 (fun _ h9 => h9) rfl dX1_meet_41 ?_
            refine lv_iload_n hx hb dX1_meet_44 rfl (lv_at hl 2 rfl) ?_
            obtain ⟨h1_45, hd⟩ := ob_nn hd
            refine va_iald hx hb hK hP 1 0 rfl rfl h1_45 dX1_meet_45 ?_
            refine lv_iconst (v := 4) hx hb dX1_meet_46 (by decide) ?_
            refine lv_icmp_ne (tgt := 70) hx hb dX1_meet_47 (by decide) (fun c_47 => ?_) (fun c_47 => ?_)
            · replace hd := ob_f c_47 hd
              refine lv_aload_n hx hb dX1_meet_70 rfl (lv_at hl 1 rfl) ?_
              refine va_get (D := (dC, dI)) (ci := 1) (v := .ref (a_b 11)) (C := RX1) (T := TX1) (N := 12) hx hb hts hi_X1 hown hK hP 0 rfl rfl 11 (by decide) kw1 (fun _ h9 => h9) rfl dX1_meet_71 ?_
              refine lv_iload_n hx hb dX1_meet_74 rfl (lv_at hl 2 rfl) ?_
              refine lv_iconst (v := 1) hx hb dX1_meet_75 (by decide) ?_
              obtain ⟨h1_76, hd⟩ := ob_nn hd
              refine va_iast hx hb hK hP hD hS 5 0 rfl rfl h1_76 dX1_meet_76 (fun H locs hP hD hS => ?_)
              obtain ⟨b_4, eb_4⟩ : ∃ z : ob_B, z = ob_A b 11 (upd (b.2 11) (Int32.toNatClampNeg z2) 1) := ⟨_, rfl⟩
              replace hd := ob_lx eb_4 hd
              replace hP : va_P (dC, dI) vwCl (ob_w1 o_b a_b cI b_4) H := by rw [eb_4]; exact hP
              replace hD : va_D A (ob_w1 o_b a_b cI b_4) := by rw [eb_4]; exact hD
              clear eb_4
              refine lv_aload_n hx hb dX1_meet_77 rfl (lv_at hl 1 rfl) ?_
              refine lv_dup hx hb dX1_meet_78 rfl ?_
              refine va_get (D := (dC, dI)) (ci := 1) (v := .int (b_4.1 5)) (C := RX1) (T := TX1) (N := 12) hx hb hts hi_X1 hown hK hP 0 rfl rfl 5 (by decide) kw5 (fun _ h9 => h9) rfl dX1_meet_79 ?_
              refine lv_iconst (v := 1) hx hb dX1_meet_82 (by decide) ?_
              refine lv_iadd hx hb dX1_meet_83 ?_
              refine lv_topi (fun x_5 ex_5 => ?_)
              replace hd := ob_lx ex_5 hd
              clear ex_5
              refine va_put (D := (dC, dI)) (ci := 1) (v := .int x_5) (ty := .int) (C := RX1) (T := TX1) (N := 12) hx hb hts hi_X1 tyX1 tyX1_ok nmX1 hown hK hP hD hS 0 rfl rfl 5 (by decide) kw5 (fun _ h9 => h9) rfl (by decide +kernel) rfl rfl (Nat.le_of_ble_eq_true rfl) dX1_meet_84 (fun H locs hP hD hS => ?_)
              obtain ⟨b_6, eb_6⟩ : ∃ z : ob_B, z = ob_I b_4 5 x_5 := ⟨_, rfl⟩
              replace hd := ob_lx eb_6 hd
              replace hP : va_P (dC, dI) vwCl (ob_w1 o_b a_b cI b_6) H := by rw [eb_6]; exact hP
              replace hD : va_D A (ob_w1 o_b a_b cI b_6) := by rw [eb_6]; exact hD
              clear eb_6
              obtain ⟨x_7, ex_7⟩ : ∃ z : Int32, z = z2 + 1 := ⟨_, rfl⟩
              replace hd := ob_lx ex_7 hd
              refine lv_iinc (v := x_7) (lv' := [(2, .int x_7), (1, .int x_3), (0, .ref o_b)]) hx hb dX1_meet_87 hl (k := 2) rfl (by rw [ex_7]; rfl) (by decide) rfl (fun ls hl => ?_)
              clear ex_7
              refine lv_goto (tgt := 4) hx hb dX1_meet_90 (by decide) ?_
              exact ih _ _ b_6 x_3 x_7 _ hP hD hS (lv_sub hl [2, 1, 0] rfl) hd
            · replace hd := ob_t c_47 hd
              refine lv_aload_n hx hb dX1_meet_50 rfl (lv_at hl 1 rfl) ?_
              refine va_get (D := (dC, dI)) (ci := 1) (v := .ref (a_b 11)) (C := RX1) (T := TX1) (N := 12) hx hb hts hi_X1 hown hK hP 0 rfl rfl 11 (by decide) kw1 (fun _ h9 => h9) rfl dX1_meet_51 ?_
              refine lv_iload_n hx hb dX1_meet_54 rfl (lv_at hl 2 rfl) ?_
              refine lv_iconst (v := 2) hx hb dX1_meet_55 (by decide) ?_
              obtain ⟨h1_56, hd⟩ := ob_nn hd
              refine va_iast hx hb hK hP hD hS 5 0 rfl rfl h1_56 dX1_meet_56 (fun H locs hP hD hS => ?_)
              obtain ⟨b_8, eb_8⟩ : ∃ z : ob_B, z = ob_A b 11 (upd (b.2 11) (Int32.toNatClampNeg z2) 2) := ⟨_, rfl⟩
              replace hd := ob_lx eb_8 hd
              replace hP : va_P (dC, dI) vwCl (ob_w1 o_b a_b cI b_8) H := by rw [eb_8]; exact hP
              replace hD : va_D A (ob_w1 o_b a_b cI b_8) := by rw [eb_8]; exact hD
              clear eb_8
              refine lv_aload_n hx hb dX1_meet_57 rfl (lv_at hl 1 rfl) ?_
              refine lv_dup hx hb dX1_meet_58 rfl ?_
              refine va_get (D := (dC, dI)) (ci := 1) (v := .int (b_8.1 6)) (C := RX1) (T := TX1) (N := 12) hx hb hts hi_X1 hown hK hP 0 rfl rfl 6 (by decide) kw6 (fun _ h9 => h9) rfl dX1_meet_59 ?_
              refine lv_iconst (v := 1) hx hb dX1_meet_62 (by decide) ?_
              refine lv_iadd hx hb dX1_meet_63 ?_
              refine lv_topi (fun x_9 ex_9 => ?_)
              replace hd := ob_lx ex_9 hd
              clear ex_9
              refine va_put (D := (dC, dI)) (ci := 1) (v := .int x_9) (ty := .int) (C := RX1) (T := TX1) (N := 12) hx hb hts hi_X1 tyX1 tyX1_ok nmX1 hown hK hP hD hS 0 rfl rfl 6 (by decide) kw6 (fun _ h9 => h9) rfl (by decide +kernel) rfl rfl (Nat.le_of_ble_eq_true rfl) dX1_meet_64 (fun H locs hP hD hS => ?_)
              obtain ⟨b_10, eb_10⟩ : ∃ z : ob_B, z = ob_I b_8 6 x_9 := ⟨_, rfl⟩
              replace hd := ob_lx eb_10 hd
              replace hP : va_P (dC, dI) vwCl (ob_w1 o_b a_b cI b_10) H := by rw [eb_10]; exact hP
              replace hD : va_D A (ob_w1 o_b a_b cI b_10) := by rw [eb_10]; exact hD
              clear eb_10
              refine lv_goto (tgt := 87) hx hb dX1_meet_67 (by decide) ?_
              obtain ⟨x_11, ex_11⟩ : ∃ z : Int32, z = z2 + 1 := ⟨_, rfl⟩
              replace hd := ob_lx ex_11 hd
              refine lv_iinc (v := x_11) (lv' := [(2, .int x_11), (1, .int x_3), (0, .ref o_b)]) hx hb dX1_meet_87 hl (k := 2) rfl (by rw [ex_11]; rfl) (by decide) rfl (fun ls hl => ?_)
              clear ex_11
              refine lv_goto (tgt := 4) hx hb dX1_meet_90 (by decide) ?_
              exact ih _ _ b_10 x_3 x_11 _ hP hD hS (lv_sub hl [2, 1, 0] rfl) hd
  refine lv_iconst (v := 0) hx hb dX1_meet_0 (by decide) ?_
  refine lv_istore_n (lv' := [(1, .int 0), (0, .ref o_b)]) hx hb dX1_meet_1 rfl hl (by decide) rfl (fun ls hl => ?_)
  refine lv_iconst (v := 0) hx hb dX1_meet_2 (by decide) ?_
  refine lv_istore_n (lv' := [(2, .int 0), (1, .int 0), (0, .ref o_b)]) hx hb dX1_meet_3 rfl hl (by decide) rfl (fun ls hl => ?_)
  exact L4  2000 _ _ b 0 0 _ hP hD hS (lv_sub hl [2, 1, 0] rfl) hd

def fd_X1_reopenVows_L2  : Nat → ob_B → Int32 → Option (ob_B)
  | 0, _, _ => none
  | fu + 1, b, z1 => if (b.1 4) ≤ z1 then (some (b)) else (if z1 < 0 ∨ 7 ≤ Int32.toNatClampNeg z1 then none else (ob_lt (((b.2 9) (Int32.toNatClampNeg z1)) + 1 : Int32) (fun x_1 => if z1 < 0 ∨ 7 ≤ Int32.toNatClampNeg z1 then none else (if ((b.2 7) (Int32.toNatClampNeg z1)) = 5 then (if z1 < 0 ∨ 7 ≤ Int32.toNatClampNeg z1 then none else (if ((b.2 11) (Int32.toNatClampNeg z1)) = 1 then (if x_1 ≤ 0 then (ob_lt (z1 + 1 : Int32) (fun x_4 => fd_X1_reopenVows_L2 fu b x_4)) else (if x_1 = 0 then none else (if ((b.1 2) - (b.1 2) / x_1 * x_1) = 0 then (if z1 < 0 ∨ 7 ≤ Int32.toNatClampNeg z1 then none else (ob_lt (ob_A b 11 (upd (b.2 11) (Int32.toNatClampNeg z1) 0) : ob_B) (fun b_6 => ob_lt (z1 + 1 : Int32) (fun x_7 => fd_X1_reopenVows_L2 fu b_6 x_7)))) else (ob_lt (z1 + 1 : Int32) (fun x_5 => fd_X1_reopenVows_L2 fu b x_5))))) else (ob_lt (z1 + 1 : Int32) (fun x_3 => fd_X1_reopenVows_L2 fu b x_3)))) else (ob_lt (z1 + 1 : Int32) (fun x_2 => fd_X1_reopenVows_L2 fu b x_2))))))
def fd_X1_reopenVows  (b : ob_B)  : Option (ob_B) := fd_X1_reopenVows_L2 2000 b 0
set_option maxHeartbeats 4000000 in
set_option maxRecDepth 100000 in
theorem mt_X1_reopenVows (l : Launch) (dC : Nat → ClassId) (dI : Nat → Nat → Nat) (cI cZ cR cW : ClassId) (xs : Nat → Nat) (sz : Nat) (o_b : Nat) (a_b : Nat → Nat) (b : ob_B)   (b' : ob_B) (hd : fd_X1_reopenVows b = some (b')) : ob_M l yX1_reopenVows wsX1_reopenVows ({ frames := 0, cells := 0, slots := 0, locals := 0 } : Room) (dC, dI) (ob_ty cI cZ cR cW) xs [.ref o_b] (ob_w1 o_b a_b cI b) sz (ob_Qv (dC, dI) (ob_w1 o_b a_b cI b')) := by
  rw [fd_X1_reopenVows] at hd
  refine ob_in (cc := cX1_reopenVows) (maxL := 3) (ret := none) (own := RX1) (by decide) rfl rfl [(0, .ref o_b)] rfl (Nat.le_of_ble_eq_true rfl) ?_
  intro p e s m below meth c hx hb hr hml hown hts hlocks hnm hK A hA hE hP hD hS ls hl
  have kw0 := hts (.fieldLink RX1 24 "OathCoach$Route" "oaths" "I") (by decide +kernel)
  have kw1 := hts (.fieldLink RX1 40 "OathCoach$Route" "weight" "[I") (by decide +kernel)
  have kw2 := hts (.fieldLink RX1 33 "OathCoach$Route" "kind" "[I") (by decide +kernel)
  have kw3 := hts (.fieldLink RX1 46 "OathCoach$Route" "came" "[I") (by decide +kernel)
  have kw4 := hts (.fieldLink RX1 18 "OathCoach$Route" "hour" "I") (by decide +kernel)
  have hi_X1 : ∀ w ∈ u_ws RX1 TX1 12, w ∈ wsX1_reopenVows := by decide +kernel
  have L2 : ∀  (fu : Nat), ∀ (H : Heap) (locs : List Loc) (b : ob_B) (z1 : Int32) (ls : Array Slot), va_P (dC, dI) vwCl (ob_w1 o_b a_b cI b) H → va_D A (ob_w1 o_b a_b cI b) → va_S A s.heap H locs → lv_has ls 3 [(0, .ref o_b), (1, .int z1)] → fd_X1_reopenVows_L2 fu b z1 = some (b') → W p l e ({ frames := 0, cells := 0, slots := 0, locals := 0 } : Room) s m (List.toArray [.ref o_b]) below meth c H locs 0 0 (MQ below ((ob_Qv (dC, dI) (ob_w1 o_b a_b cI b')) A) (List.toArray [.ref o_b]) s 0 0 A) (F0 m 2 ls []) := by
    intro  fu
    induction fu with
    | zero =>
      intro H locs b z1 ls hP hD hS hl hd
      rw [fd_X1_reopenVows_L2] at hd
      cases hd
    | succ fu ih =>
      intro H locs b z1 ls hP hD hS hl hd
      rw [fd_X1_reopenVows_L2] at hd
      refine lv_iload_n hx hb dX1_reopenVows_2 rfl (lv_at hl 1 rfl) ?_
      refine lv_aload_n hx hb dX1_reopenVows_3 rfl (lv_at hl 0 rfl) ?_
      refine va_get (D := (dC, dI)) (ci := 1) (v := .int (b.1 4)) (C := RX1) (T := TX1) (N := 12) hx hb hts hi_X1 hown hK hP 0 rfl rfl 4 (by decide) kw0 (fun _ h9 => h9) rfl dX1_reopenVows_4 ?_
      refine lv_icmp_ge (tgt := 65) hx hb dX1_reopenVows_7 (by decide) (fun c_7 => ?_) (fun c_7 => ?_)
      · replace hd := ob_t c_7 hd
        have e1 := Option.some.inj hd
        subst e1
        exact ob_vret hx hb hr hlocks hP hD hS dX1_reopenVows_65
      · replace hd := ob_f c_7 hd
        refine lv_aload_n hx hb dX1_reopenVows_10 rfl (lv_at hl 0 rfl) ?_
        refine va_get (D := (dC, dI)) (ci := 1) (v := .ref (a_b 9)) (C := RX1) (T := TX1) (N := 12) hx hb hts hi_X1 hown hK hP 0 rfl rfl 9 (by decide) kw1 (fun _ h9 => h9) rfl dX1_reopenVows_11 ?_
        refine lv_iload_n hx hb dX1_reopenVows_14 rfl (lv_at hl 1 rfl) ?_
        obtain ⟨h1_15, hd⟩ := ob_nn hd
        refine va_iald hx hb hK hP 3 0 rfl rfl h1_15 dX1_reopenVows_15 ?_
        refine lv_iconst (v := 1) hx hb dX1_reopenVows_16 (by decide) ?_
        refine lv_iadd hx hb dX1_reopenVows_17 ?_
        refine lv_topi (fun x_1 ex_1 => ?_)
        replace hd := ob_lx ex_1 hd
        clear ex_1
        refine lv_istore_n (lv' := [(2, .int x_1), (0, .ref o_b), (1, .int z1)]) hx hb dX1_reopenVows_18 rfl hl (by decide) rfl (fun ls hl => ?_)
        refine lv_aload_n hx hb dX1_reopenVows_19 rfl (lv_at hl 1 rfl) ?_
        refine va_get (D := (dC, dI)) (ci := 1) (v := .ref (a_b 7)) (C := RX1) (T := TX1) (N := 12) hx hb hts hi_X1 hown hK hP 0 rfl rfl 7 (by decide) kw2 (fun _ h9 => h9) rfl dX1_reopenVows_20 ?_
        refine lv_iload_n hx hb dX1_reopenVows_23 rfl (lv_at hl 2 rfl) ?_
        obtain ⟨h1_24, hd⟩ := ob_nn hd
        refine va_iald hx hb hK hP 1 0 rfl rfl h1_24 dX1_reopenVows_24 ?_
        refine lv_iconst (v := 5) hx hb dX1_reopenVows_25 (by decide) ?_
        refine lv_icmp_ne (tgt := 59) hx hb dX1_reopenVows_26 (by decide) (fun c_26 => ?_) (fun c_26 => ?_)
        · replace hd := ob_f c_26 hd
          obtain ⟨x_2, ex_2⟩ : ∃ z : Int32, z = z1 + 1 := ⟨_, rfl⟩
          replace hd := ob_lx ex_2 hd
          refine lv_iinc (v := x_2) (lv' := [(1, .int x_2), (2, .int x_1), (0, .ref o_b)]) hx hb dX1_reopenVows_59 hl (k := 2) rfl (by rw [ex_2]; rfl) (by decide) rfl (fun ls hl => ?_)
          clear ex_2
          refine lv_goto (tgt := 2) hx hb dX1_reopenVows_62 (by decide) ?_
          exact ih _ _ b x_2 _ hP hD hS (lv_sub hl [2, 0] rfl) hd
        · replace hd := ob_t c_26 hd
          refine lv_aload_n hx hb dX1_reopenVows_29 rfl (lv_at hl 1 rfl) ?_
          refine va_get (D := (dC, dI)) (ci := 1) (v := .ref (a_b 11)) (C := RX1) (T := TX1) (N := 12) hx hb hts hi_X1 hown hK hP 0 rfl rfl 11 (by decide) kw3 (fun _ h9 => h9) rfl dX1_reopenVows_30 ?_
          refine lv_iload_n hx hb dX1_reopenVows_33 rfl (lv_at hl 2 rfl) ?_
          obtain ⟨h1_34, hd⟩ := ob_nn hd
          refine va_iald hx hb hK hP 5 0 rfl rfl h1_34 dX1_reopenVows_34 ?_
          refine lv_iconst (v := 1) hx hb dX1_reopenVows_35 (by decide) ?_
          refine lv_icmp_ne (tgt := 59) hx hb dX1_reopenVows_36 (by decide) (fun c_36 => ?_) (fun c_36 => ?_)
          · replace hd := ob_f c_36 hd
            obtain ⟨x_3, ex_3⟩ : ∃ z : Int32, z = z1 + 1 := ⟨_, rfl⟩
            replace hd := ob_lx ex_3 hd
            refine lv_iinc (v := x_3) (lv' := [(1, .int x_3), (2, .int x_1), (0, .ref o_b)]) hx hb dX1_reopenVows_59 hl (k := 2) rfl (by rw [ex_3]; rfl) (by decide) rfl (fun ls hl => ?_)
            clear ex_3
            refine lv_goto (tgt := 2) hx hb dX1_reopenVows_62 (by decide) ?_
            exact ih _ _ b x_3 _ hP hD hS (lv_sub hl [2, 0] rfl) hd
          · replace hd := ob_t c_36 hd
            refine lv_iload_n hx hb dX1_reopenVows_39 rfl (lv_at hl 0 rfl) ?_
            refine lv_if_le (tgt := 59) hx hb dX1_reopenVows_40 (by decide) (fun c_40 => ?_) (fun c_40 => ?_)
            · replace hd := ob_t c_40 hd
              obtain ⟨x_4, ex_4⟩ : ∃ z : Int32, z = z1 + 1 := ⟨_, rfl⟩
              replace hd := ob_lx ex_4 hd
              refine lv_iinc (v := x_4) (lv' := [(1, .int x_4), (2, .int x_1), (0, .ref o_b)]) hx hb dX1_reopenVows_59 hl (k := 2) rfl (by rw [ex_4]; rfl) (by decide) rfl (fun ls hl => ?_)
              clear ex_4
              refine lv_goto (tgt := 2) hx hb dX1_reopenVows_62 (by decide) ?_
              exact ih _ _ b x_4 _ hP hD hS (lv_sub hl [2, 0] rfl) hd
            · replace hd := ob_f c_40 hd
              refine lv_aload_n hx hb dX1_reopenVows_43 rfl (lv_at hl 1 rfl) ?_
              refine va_get (D := (dC, dI)) (ci := 1) (v := .int (b.1 2)) (C := RX1) (T := TX1) (N := 12) hx hb hts hi_X1 hown hK hP 0 rfl rfl 2 (by decide) kw4 (fun _ h9 => h9) rfl dX1_reopenVows_44 ?_
              refine lv_iload_n hx hb dX1_reopenVows_47 rfl (lv_at hl 0 rfl) ?_
              obtain ⟨h0_48, hd⟩ := ob_nn hd
              refine lv_irem hx hb dX1_reopenVows_48 h0_48 ?_
              refine lv_if_ne (tgt := 59) hx hb dX1_reopenVows_49 (by decide) (fun c_49 => ?_) (fun c_49 => ?_)
              · replace hd := ob_f c_49 hd
                obtain ⟨x_5, ex_5⟩ : ∃ z : Int32, z = z1 + 1 := ⟨_, rfl⟩
                replace hd := ob_lx ex_5 hd
                refine lv_iinc (v := x_5) (lv' := [(1, .int x_5), (2, .int x_1), (0, .ref o_b)]) hx hb dX1_reopenVows_59 hl (k := 2) rfl (by rw [ex_5]; rfl) (by decide) rfl (fun ls hl => ?_)
                clear ex_5
                refine lv_goto (tgt := 2) hx hb dX1_reopenVows_62 (by decide) ?_
                exact ih _ _ b x_5 _ hP hD hS (lv_sub hl [2, 0] rfl) hd
              · replace hd := ob_t c_49 hd
                refine lv_aload_n hx hb dX1_reopenVows_52 rfl (lv_at hl 1 rfl) ?_
                refine va_get (D := (dC, dI)) (ci := 1) (v := .ref (a_b 11)) (C := RX1) (T := TX1) (N := 12) hx hb hts hi_X1 hown hK hP 0 rfl rfl 11 (by decide) kw3 (fun _ h9 => h9) rfl dX1_reopenVows_53 ?_
                refine lv_iload_n hx hb dX1_reopenVows_56 rfl (lv_at hl 2 rfl) ?_
                refine lv_iconst (v := 0) hx hb dX1_reopenVows_57 (by decide) ?_
                obtain ⟨h1_58, hd⟩ := ob_nn hd
                refine va_iast hx hb hK hP hD hS 5 0 rfl rfl h1_58 dX1_reopenVows_58 (fun H locs hP hD hS => ?_)
                obtain ⟨b_6, eb_6⟩ : ∃ z : ob_B, z = ob_A b 11 (upd (b.2 11) (Int32.toNatClampNeg z1) 0) := ⟨_, rfl⟩
                replace hd := ob_lx eb_6 hd
                replace hP : va_P (dC, dI) vwCl (ob_w1 o_b a_b cI b_6) H := by rw [eb_6]; exact hP
                replace hD : va_D A (ob_w1 o_b a_b cI b_6) := by rw [eb_6]; exact hD
                clear eb_6
                obtain ⟨x_7, ex_7⟩ : ∃ z : Int32, z = z1 + 1 := ⟨_, rfl⟩
                replace hd := ob_lx ex_7 hd
                refine lv_iinc (v := x_7) (lv' := [(1, .int x_7), (2, .int x_1), (0, .ref o_b)]) hx hb dX1_reopenVows_59 hl (k := 2) rfl (by rw [ex_7]; rfl) (by decide) rfl (fun ls hl => ?_)
                clear ex_7
                refine lv_goto (tgt := 2) hx hb dX1_reopenVows_62 (by decide) ?_
                exact ih _ _ b_6 x_7 _ hP hD hS (lv_sub hl [2, 0] rfl) hd
  refine lv_iconst (v := 0) hx hb dX1_reopenVows_0 (by decide) ?_
  refine lv_istore_n (lv' := [(1, .int 0), (0, .ref o_b)]) hx hb dX1_reopenVows_1 rfl hl (by decide) rfl (fun ls hl => ?_)
  exact L2  2000 _ _ b 0 _ hP hD hS (lv_sub hl [1, 0] rfl) hd

def fd_X1_passHour  (b : ob_B)  : Option (Int32 × ob_B) := ob_b1 (fd_X1_placeNext b 0) (fun r_1 => ob_lt (ob_I b 0 r_1 : ob_B) (fun b_2 => ob_b2 (fd_X1_meet b_2) (fun r_3 b_4 => ob_lt ((b_4.1 2) + 1 : Int32) (fun x_5 => ob_lt (ob_I b_4 2 x_5 : ob_B) (fun b_6 => ob_b1 (fd_X1_reopenVows b_6) (fun b_7 => some (r_3, b_7)))))))
set_option maxHeartbeats 4000000 in
set_option maxRecDepth 100000 in
theorem mt_X1_passHour (l : Launch) (dC : Nat → ClassId) (dI : Nat → Nat → Nat) (cI cZ cR cW : ClassId) (xs : Nat → Nat) (sz : Nat) (o_b : Nat) (a_b : Nat → Nat) (b : ob_B)   (rr : Int32) (b' : ob_B) (hd : fd_X1_passHour b = some (rr, b')) : ob_M l yX1_passHour wsX1_passHour ({ frames := 3, cells := 0, slots := 0, locals := 69 } : Room) (dC, dI) (ob_ty cI cZ cR cW) xs [.ref o_b] (ob_w1 o_b a_b cI b) sz (ob_Qi (dC, dI) rr (ob_w1 o_b a_b cI b')) := by
  rw [fd_X1_passHour] at hd
  refine ob_in (cc := cX1_passHour) (maxL := 2) (ret := (some .int)) (own := RX1) (by decide) rfl rfl [(0, .ref o_b)] rfl (Nat.le_of_ble_eq_true rfl) ?_
  intro p e s m below meth c hx hb hr hml hown hts hlocks hnm hK A hA hE hP hD hS ls hl
  have kw0 := hts (.fieldLink RX1 9 "OathCoach$Route" "at" "I") (by decide +kernel)
  have kw1 := hts (.fieldLink RX1 18 "OathCoach$Route" "hour" "I") (by decide +kernel)
  have hi_X1 : ∀ w ∈ u_ws RX1 TX1 12, w ∈ wsX1_passHour := by decide +kernel
  refine lv_aload_n hx hb dX1_passHour_0 rfl (lv_at hl 0 rfl) ?_
  refine lv_aload_n hx hb dX1_passHour_1 rfl (lv_at hl 0 rfl) ?_
  refine lv_iconst (v := 0) hx hb dX1_passHour_2 (by decide) ?_
  obtain ⟨r_1, hc_3, hd⟩ := ob_s1 hd
  refine ob_Vi (isC := [0, 1, 2, 3, 4, 5]) (isR := []) (is2 := [0, 1, 2, 3, 4, 5]) (wc := (ob_w1 o_b a_b cI b)) (wr := ([] : va_W)) (w1 := (ob_w1 o_b a_b cI b)) (w2 := (ob_w1 o_b a_b cI b)) (b := o_b) (As := [.int 0]) (rest := [.ref o_b]) ⟨hx, hb, hml, hown, hts⟩ (mt_X1_placeNext l dC dI cI cZ cR cW xs _ o_b a_b b 0 r_1 hc_3) (cwV 1 hts gX1_passHour_X1_placeNext rfl rfl rfl (by decide +kernel) ⟨Nat.le_of_ble_eq_true rfl, Nat.le_of_ble_eq_true rfl⟩) hK hE hP hD hS hA ⟨rfl, rfl, rfl, rfl, rfl, rfl, rfl⟩ 1 0 rfl rfl rfl hl rfl rfl (Nat.le_of_ble_eq_true rfl) ⟨Nat.le_of_ble_eq_true rfl, Nat.le_of_ble_eq_true rfl⟩ dX1_passHour_3 (fun H locs hP hD hS => ?_)
  refine W.widen (k := 0) (n := 0) (Nat.le_refl _) (Nat.le_refl _) ?_
  refine va_put (D := (dC, dI)) (ci := 1) (v := .int r_1) (ty := .int) (C := RX1) (T := TX1) (N := 12) hx hb hts hi_X1 tyX1 tyX1_ok nmX1 hown hK hP hD hS 0 rfl rfl 0 (by decide) kw0 (fun _ h9 => h9) rfl (by decide +kernel) rfl rfl (Nat.le_of_ble_eq_true rfl) dX1_passHour_6 (fun H locs hP hD hS => ?_)
  obtain ⟨b_2, eb_2⟩ : ∃ z : ob_B, z = ob_I b 0 r_1 := ⟨_, rfl⟩
  replace hd := ob_lx eb_2 hd
  replace hP : va_P (dC, dI) vwCl (ob_w1 o_b a_b cI b_2) H := by rw [eb_2]; exact hP
  replace hD : va_D A (ob_w1 o_b a_b cI b_2) := by rw [eb_2]; exact hD
  clear eb_2
  refine lv_aload_n hx hb dX1_passHour_9 rfl (lv_at hl 0 rfl) ?_
  obtain ⟨r_3, b_4, hc_10, hd⟩ := ob_s2 hd
  refine ob_Vi (isC := [0, 1, 2, 3, 4, 5]) (isR := []) (is2 := [0, 1, 2, 3, 4, 5]) (wc := (ob_w1 o_b a_b cI b_2)) (wr := ([] : va_W)) (w1 := (ob_w1 o_b a_b cI b_4)) (w2 := (ob_w1 o_b a_b cI b_4)) (b := o_b) (As := []) (rest := []) ⟨hx, hb, hml, hown, hts⟩ (mt_X1_meet l dC dI cI cZ cR cW xs _ o_b a_b b_2 r_3 b_4 hc_10) (cwV 0 hts gX1_passHour_X1_meet rfl rfl rfl (by decide +kernel) ⟨Nat.le_of_ble_eq_true rfl, Nat.le_of_ble_eq_true rfl⟩) hK hE hP hD hS hA ⟨rfl, rfl, rfl, rfl, rfl, rfl, rfl⟩ 1 0 rfl rfl rfl hl rfl rfl (Nat.le_of_ble_eq_true rfl) ⟨Nat.le_of_ble_eq_true rfl, Nat.le_of_ble_eq_true rfl⟩ dX1_passHour_10 (fun H locs hP hD hS => ?_)
  refine W.widen (k := 0) (n := 0) (Nat.le_refl _) (Nat.le_refl _) ?_
  refine lv_istore_n (lv' := [(1, .int r_3), (0, .ref o_b)]) hx hb dX1_passHour_13 rfl hl (by decide) rfl (fun ls hl => ?_)
  refine lv_aload_n hx hb dX1_passHour_14 rfl (lv_at hl 1 rfl) ?_
  refine lv_dup hx hb dX1_passHour_15 rfl ?_
  refine va_get (D := (dC, dI)) (ci := 1) (v := .int (b_4.1 2)) (C := RX1) (T := TX1) (N := 12) hx hb hts hi_X1 hown hK hP 0 rfl rfl 2 (by decide) kw1 (fun _ h9 => h9) rfl dX1_passHour_16 ?_
  refine lv_iconst (v := 1) hx hb dX1_passHour_19 (by decide) ?_
  refine lv_iadd hx hb dX1_passHour_20 ?_
  refine lv_topi (fun x_5 ex_5 => ?_)
  replace hd := ob_lx ex_5 hd
  clear ex_5
  refine va_put (D := (dC, dI)) (ci := 1) (v := .int x_5) (ty := .int) (C := RX1) (T := TX1) (N := 12) hx hb hts hi_X1 tyX1 tyX1_ok nmX1 hown hK hP hD hS 0 rfl rfl 2 (by decide) kw1 (fun _ h9 => h9) rfl (by decide +kernel) rfl rfl (Nat.le_of_ble_eq_true rfl) dX1_passHour_21 (fun H locs hP hD hS => ?_)
  obtain ⟨b_6, eb_6⟩ : ∃ z : ob_B, z = ob_I b_4 2 x_5 := ⟨_, rfl⟩
  replace hd := ob_lx eb_6 hd
  replace hP : va_P (dC, dI) vwCl (ob_w1 o_b a_b cI b_6) H := by rw [eb_6]; exact hP
  replace hD : va_D A (ob_w1 o_b a_b cI b_6) := by rw [eb_6]; exact hD
  clear eb_6
  refine lv_aload_n hx hb dX1_passHour_24 rfl (lv_at hl 1 rfl) ?_
  obtain ⟨b_7, hc_25, hd⟩ := ob_s1 hd
  refine ob_Vv (isC := [0, 1, 2, 3, 4, 5]) (isR := []) (is2 := [0, 1, 2, 3, 4, 5]) (wc := (ob_w1 o_b a_b cI b_6)) (wr := ([] : va_W)) (w1 := (ob_w1 o_b a_b cI b_7)) (w2 := (ob_w1 o_b a_b cI b_7)) (b := o_b) (As := []) (rest := []) ⟨hx, hb, hml, hown, hts⟩ (mt_X1_reopenVows l dC dI cI cZ cR cW xs _ o_b a_b b_6 b_7 hc_25) (cwV 0 hts gX1_passHour_X1_reopenVows rfl rfl rfl (by decide +kernel) ⟨Nat.le_of_ble_eq_true rfl, Nat.le_of_ble_eq_true rfl⟩) hK hE hP hD hS hA ⟨rfl, rfl, rfl, rfl, rfl, rfl, rfl⟩ 1 0 rfl rfl rfl hl rfl rfl (Nat.le_of_ble_eq_true rfl) ⟨Nat.le_of_ble_eq_true rfl, Nat.le_of_ble_eq_true rfl⟩ dX1_passHour_25 (fun H locs hP hD hS => ?_)
  refine W.widen (k := 0) (n := 0) (Nat.le_refl _) (Nat.le_refl _) ?_
  refine lv_iload_n hx hb dX1_passHour_28 rfl (lv_at hl 0 rfl) ?_
  obtain ⟨e1, e2⟩ := ob_pp hd
  subst e1
  subst e2
  exact ob_iret hx hb hr hlocks hP hD hS dX1_passHour_29

def fd_X1_passHours_L2  : Nat → ob_B → Int32 → Int32 → Option (ob_B)
  | 0, _, _, _ => none
  | fu + 1, b, x1, z2 => if x1 ≤ z2 then (some (b)) else (ob_b2 (fd_X1_passHour b) (fun r_1 b_2 => ob_lt (z2 + 1 : Int32) (fun x_3 => fd_X1_passHours_L2 fu b_2 x1 x_3)))
def fd_X1_passHours  (b : ob_B) (x1 : Int32) : Option (ob_B) := fd_X1_passHours_L2 2000 b x1 0
set_option maxHeartbeats 4000000 in
set_option maxRecDepth 100000 in
theorem mt_X1_passHours (l : Launch) (dC : Nat → ClassId) (dI : Nat → Nat → Nat) (cI cZ cR cW : ClassId) (xs : Nat → Nat) (sz : Nat) (o_b : Nat) (a_b : Nat → Nat) (b : ob_B) (x1 : Int32)  (b' : ob_B) (hd : fd_X1_passHours b x1 = some (b')) : ob_M l yX1_passHours wsX1_passHours ({ frames := 4, cells := 0, slots := 0, locals := 90 } : Room) (dC, dI) (ob_ty cI cZ cR cW) xs [.ref o_b, .int x1] (ob_w1 o_b a_b cI b) sz (ob_Qv (dC, dI) (ob_w1 o_b a_b cI b')) := by
  rw [fd_X1_passHours] at hd
  refine ob_in (cc := cX1_passHours) (maxL := 3) (ret := none) (own := RX1) (by decide) rfl rfl [(0, .ref o_b), (1, .int x1)] rfl (Nat.le_of_ble_eq_true rfl) ?_
  intro p e s m below meth c hx hb hr hml hown hts hlocks hnm hK A hA hE hP hD hS ls hl
  have L2 : ∀  (fu : Nat), ∀ (H : Heap) (locs : List Loc) (b : ob_B) (z2 : Int32) (ls : Array Slot), va_P (dC, dI) vwCl (ob_w1 o_b a_b cI b) H → va_D A (ob_w1 o_b a_b cI b) → va_S A s.heap H locs → lv_has ls 3 [(0, .ref o_b), (1, .int x1), (2, .int z2)] → fd_X1_passHours_L2 fu b x1 z2 = some (b') → W p l e ({ frames := 4, cells := 0, slots := 0, locals := 90 } : Room) s m (List.toArray [.ref o_b, .int x1]) below meth c H locs 0 0 (MQ below ((ob_Qv (dC, dI) (ob_w1 o_b a_b cI b')) A) (List.toArray [.ref o_b, .int x1]) s 0 0 A) (F0 m 2 ls []) := by
    intro  fu
    induction fu with
    | zero =>
      intro H locs b z2 ls hP hD hS hl hd
      rw [fd_X1_passHours_L2] at hd
      cases hd
    | succ fu ih =>
      intro H locs b z2 ls hP hD hS hl hd
      rw [fd_X1_passHours_L2] at hd
      refine lv_iload_n hx hb dX1_passHours_2 rfl (lv_at hl 2 rfl) ?_
      refine lv_iload_n hx hb dX1_passHours_3 rfl (lv_at hl 1 rfl) ?_
      refine lv_icmp_ge (tgt := 18) hx hb dX1_passHours_4 (by decide) (fun c_4 => ?_) (fun c_4 => ?_)
      · replace hd := ob_t c_4 hd
        have e1 := Option.some.inj hd
        subst e1
        exact ob_vret hx hb hr hlocks hP hD hS dX1_passHours_18
      · replace hd := ob_f c_4 hd
        refine lv_aload_n hx hb dX1_passHours_7 rfl (lv_at hl 0 rfl) ?_
        obtain ⟨r_1, b_2, hc_8, hd⟩ := ob_s2 hd
        refine ob_Vi (isC := [0, 1, 2, 3, 4, 5]) (isR := []) (is2 := [0, 1, 2, 3, 4, 5]) (wc := (ob_w1 o_b a_b cI b)) (wr := ([] : va_W)) (w1 := (ob_w1 o_b a_b cI b_2)) (w2 := (ob_w1 o_b a_b cI b_2)) (b := o_b) (As := []) (rest := []) ⟨hx, hb, hml, hown, hts⟩ (mt_X1_passHour l dC dI cI cZ cR cW xs _ o_b a_b b r_1 b_2 hc_8) (cwV 0 hts gX1_passHours_X1_passHour rfl rfl rfl (by decide +kernel) ⟨Nat.le_of_ble_eq_true rfl, Nat.le_of_ble_eq_true rfl⟩) hK hE hP hD hS hA ⟨rfl, rfl, rfl, rfl, rfl, rfl, rfl⟩ 1 0 rfl rfl rfl hl rfl rfl (Nat.le_of_ble_eq_true rfl) ⟨Nat.le_of_ble_eq_true rfl, Nat.le_of_ble_eq_true rfl⟩ dX1_passHours_8 (fun H locs hP hD hS => ?_)
        refine W.widen (k := 0) (n := 0) (Nat.le_refl _) (Nat.le_refl _) ?_
        refine lv_pop hx hb dX1_passHours_11 rfl ?_
        obtain ⟨x_3, ex_3⟩ : ∃ z : Int32, z = z2 + 1 := ⟨_, rfl⟩
        replace hd := ob_lx ex_3 hd
        refine lv_iinc (v := x_3) (lv' := [(2, .int x_3), (0, .ref o_b), (1, .int x1)]) hx hb dX1_passHours_12 hl (k := 2) rfl (by rw [ex_3]; rfl) (by decide) rfl (fun ls hl => ?_)
        clear ex_3
        refine lv_goto (tgt := 2) hx hb dX1_passHours_15 (by decide) ?_
        exact ih _ _ b_2 x_3 _ hP hD hS (lv_sub hl [1, 2, 0] rfl) hd
  refine lv_iconst (v := 0) hx hb dX1_passHours_0 (by decide) ?_
  refine lv_istore_n (lv' := [(2, .int 0), (0, .ref o_b), (1, .int x1)]) hx hb dX1_passHours_1 rfl hl (by decide) rfl (fun ls hl => ?_)
  exact L2  2000 _ _ b 0 _ hP hD hS (lv_sub hl [1, 2, 0] rfl) hd

def fd_X1_addOath  (b : ob_B) (x1 : Int32) (x2 : Int32) (x3 : Int32) (x4 : Int32) : Option (ob_B) := if (b.1 4) < 7 then (if (b.1 4) < 0 ∨ 7 ≤ Int32.toNatClampNeg (b.1 4) then none else (ob_lt (ob_A b 7 (upd (b.2 7) (Int32.toNatClampNeg (b.1 4)) x1) : ob_B) (fun b_1 => if (b_1.1 4) < 0 ∨ 7 ≤ Int32.toNatClampNeg (b_1.1 4) then none else (ob_lt (ob_A b_1 10 (upd (b_1.2 10) (Int32.toNatClampNeg (b_1.1 4)) x4) : ob_B) (fun b_2 => ob_b1 (fd_X1_openTo b_2 (b_2.1 4) x2 x3) (fun b_3 => ob_lt ((b_3.1 4) + 1 : Int32) (fun x_4 => ob_lt (ob_I b_3 4 x_4 : ob_B) (fun b_5 => some (b_5))))))))) else (some (b))
set_option maxHeartbeats 4000000 in
set_option maxRecDepth 100000 in
theorem mt_X1_addOath (l : Launch) (dC : Nat → ClassId) (dI : Nat → Nat → Nat) (cI cZ cR cW : ClassId) (xs : Nat → Nat) (sz : Nat) (o_b : Nat) (a_b : Nat → Nat) (b : ob_B) (x1 : Int32) (x2 : Int32) (x3 : Int32) (x4 : Int32)  (b' : ob_B) (hd : fd_X1_addOath b x1 x2 x3 x4 = some (b')) : ob_M l yX1_addOath wsX1_addOath ({ frames := 1, cells := 0, slots := 0, locals := 23 } : Room) (dC, dI) (ob_ty cI cZ cR cW) xs [.ref o_b, .int x1, .int x2, .int x3, .int x4] (ob_w1 o_b a_b cI b) sz (ob_Qv (dC, dI) (ob_w1 o_b a_b cI b')) := by
  rw [fd_X1_addOath] at hd
  refine ob_in (cc := cX1_addOath) (maxL := 5) (ret := none) (own := RX1) (by decide) rfl rfl [(0, .ref o_b), (1, .int x1), (2, .int x2), (3, .int x3), (4, .int x4)] rfl (Nat.le_of_ble_eq_true rfl) ?_
  intro p e s m below meth c hx hb hr hml hown hts hlocks hnm hK A hA hE hP hD hS ls hl
  have kw0 := hts (.fieldLink RX1 24 "OathCoach$Route" "oaths" "I") (by decide +kernel)
  have kw1 := hts (.fieldLink RX1 33 "OathCoach$Route" "kind" "[I") (by decide +kernel)
  have kw2 := hts (.fieldLink RX1 43 "OathCoach$Route" "due" "[I") (by decide +kernel)
  have hi_X1 : ∀ w ∈ u_ws RX1 TX1 12, w ∈ wsX1_addOath := by decide +kernel
  refine lv_aload_n hx hb dX1_addOath_0 rfl (lv_at hl 0 rfl) ?_
  refine va_get (D := (dC, dI)) (ci := 1) (v := .int (b.1 4)) (C := RX1) (T := TX1) (N := 12) hx hb hts hi_X1 hown hK hP 0 rfl rfl 4 (by decide) kw0 (fun _ h9 => h9) rfl dX1_addOath_1 ?_
  refine lv_bipush (v := 7) hx hb dX1_addOath_4 (by decide) ?_
  refine lv_icmp_lt (tgt := 10) hx hb dX1_addOath_6 (by decide) (fun c_6 => ?_) (fun c_6 => ?_)
  · replace hd := ob_t c_6 hd
    refine lv_aload_n hx hb dX1_addOath_10 rfl (lv_at hl 0 rfl) ?_
    refine va_get (D := (dC, dI)) (ci := 1) (v := .ref (a_b 7)) (C := RX1) (T := TX1) (N := 12) hx hb hts hi_X1 hown hK hP 0 rfl rfl 7 (by decide) kw1 (fun _ h9 => h9) rfl dX1_addOath_11 ?_
    refine lv_aload_n hx hb dX1_addOath_14 rfl (lv_at hl 0 rfl) ?_
    refine va_get (D := (dC, dI)) (ci := 1) (v := .int (b.1 4)) (C := RX1) (T := TX1) (N := 12) hx hb hts hi_X1 hown hK hP 0 rfl rfl 4 (by decide) kw0 (fun _ h9 => h9) rfl dX1_addOath_15 ?_
    refine lv_iload_n hx hb dX1_addOath_18 rfl (lv_at hl 1 rfl) ?_
    obtain ⟨h1_19, hd⟩ := ob_nn hd
    refine va_iast hx hb hK hP hD hS 1 0 rfl rfl h1_19 dX1_addOath_19 (fun H locs hP hD hS => ?_)
    obtain ⟨b_1, eb_1⟩ : ∃ z : ob_B, z = ob_A b 7 (upd (b.2 7) (Int32.toNatClampNeg (b.1 4)) x1) := ⟨_, rfl⟩
    replace hd := ob_lx eb_1 hd
    replace hP : va_P (dC, dI) vwCl (ob_w1 o_b a_b cI b_1) H := by rw [eb_1]; exact hP
    replace hD : va_D A (ob_w1 o_b a_b cI b_1) := by rw [eb_1]; exact hD
    clear eb_1
    refine lv_aload_n hx hb dX1_addOath_20 rfl (lv_at hl 0 rfl) ?_
    refine va_get (D := (dC, dI)) (ci := 1) (v := .ref (a_b 10)) (C := RX1) (T := TX1) (N := 12) hx hb hts hi_X1 hown hK hP 0 rfl rfl 10 (by decide) kw2 (fun _ h9 => h9) rfl dX1_addOath_21 ?_
    refine lv_aload_n hx hb dX1_addOath_24 rfl (lv_at hl 0 rfl) ?_
    refine va_get (D := (dC, dI)) (ci := 1) (v := .int (b_1.1 4)) (C := RX1) (T := TX1) (N := 12) hx hb hts hi_X1 hown hK hP 0 rfl rfl 4 (by decide) kw0 (fun _ h9 => h9) rfl dX1_addOath_25 ?_
    refine lv_iload hx hb dX1_addOath_28 (lv_at hl 4 rfl) ?_
    obtain ⟨h1_30, hd⟩ := ob_nn hd
    refine va_iast hx hb hK hP hD hS 4 0 rfl rfl h1_30 dX1_addOath_30 (fun H locs hP hD hS => ?_)
    obtain ⟨b_2, eb_2⟩ : ∃ z : ob_B, z = ob_A b_1 10 (upd (b_1.2 10) (Int32.toNatClampNeg (b_1.1 4)) x4) := ⟨_, rfl⟩
    replace hd := ob_lx eb_2 hd
    replace hP : va_P (dC, dI) vwCl (ob_w1 o_b a_b cI b_2) H := by rw [eb_2]; exact hP
    replace hD : va_D A (ob_w1 o_b a_b cI b_2) := by rw [eb_2]; exact hD
    clear eb_2
    refine lv_aload_n hx hb dX1_addOath_31 rfl (lv_at hl 0 rfl) ?_
    refine lv_aload_n hx hb dX1_addOath_32 rfl (lv_at hl 0 rfl) ?_
    refine va_get (D := (dC, dI)) (ci := 1) (v := .int (b_2.1 4)) (C := RX1) (T := TX1) (N := 12) hx hb hts hi_X1 hown hK hP 0 rfl rfl 4 (by decide) kw0 (fun _ h9 => h9) rfl dX1_addOath_33 ?_
    refine lv_iload_n hx hb dX1_addOath_36 rfl (lv_at hl 2 rfl) ?_
    refine lv_iload_n hx hb dX1_addOath_37 rfl (lv_at hl 3 rfl) ?_
    obtain ⟨b_3, hc_38, hd⟩ := ob_s1 hd
    refine ob_Vv (isC := [0, 1, 2, 3, 4, 5]) (isR := []) (is2 := [0, 1, 2, 3, 4, 5]) (wc := (ob_w1 o_b a_b cI b_2)) (wr := ([] : va_W)) (w1 := (ob_w1 o_b a_b cI b_3)) (w2 := (ob_w1 o_b a_b cI b_3)) (b := o_b) (As := [.int (b_2.1 4), .int x2, .int x3]) (rest := []) ⟨hx, hb, hml, hown, hts⟩ (mt_X1_openTo l dC dI cI cZ cR cW xs _ o_b a_b b_2 (b_2.1 4) x2 x3 b_3 hc_38) (cwV 3 hts gX1_addOath_X1_openTo rfl rfl rfl (by decide +kernel) ⟨Nat.le_of_ble_eq_true rfl, Nat.le_of_ble_eq_true rfl⟩) hK hE hP hD hS hA ⟨rfl, rfl, rfl, rfl, rfl, rfl, rfl⟩ 1 0 rfl rfl rfl hl rfl rfl (Nat.le_of_ble_eq_true rfl) ⟨Nat.le_of_ble_eq_true rfl, Nat.le_of_ble_eq_true rfl⟩ dX1_addOath_38 (fun H locs hP hD hS => ?_)
    refine W.widen (k := 0) (n := 0) (Nat.le_refl _) (Nat.le_refl _) ?_
    refine lv_aload_n hx hb dX1_addOath_41 rfl (lv_at hl 0 rfl) ?_
    refine lv_dup hx hb dX1_addOath_42 rfl ?_
    refine va_get (D := (dC, dI)) (ci := 1) (v := .int (b_3.1 4)) (C := RX1) (T := TX1) (N := 12) hx hb hts hi_X1 hown hK hP 0 rfl rfl 4 (by decide) kw0 (fun _ h9 => h9) rfl dX1_addOath_43 ?_
    refine lv_iconst (v := 1) hx hb dX1_addOath_46 (by decide) ?_
    refine lv_iadd hx hb dX1_addOath_47 ?_
    refine lv_topi (fun x_4 ex_4 => ?_)
    replace hd := ob_lx ex_4 hd
    clear ex_4
    refine va_put (D := (dC, dI)) (ci := 1) (v := .int x_4) (ty := .int) (C := RX1) (T := TX1) (N := 12) hx hb hts hi_X1 tyX1 tyX1_ok nmX1 hown hK hP hD hS 0 rfl rfl 4 (by decide) kw0 (fun _ h9 => h9) rfl (by decide +kernel) rfl rfl (Nat.le_of_ble_eq_true rfl) dX1_addOath_48 (fun H locs hP hD hS => ?_)
    obtain ⟨b_5, eb_5⟩ : ∃ z : ob_B, z = ob_I b_3 4 x_4 := ⟨_, rfl⟩
    replace hd := ob_lx eb_5 hd
    replace hP : va_P (dC, dI) vwCl (ob_w1 o_b a_b cI b_5) H := by rw [eb_5]; exact hP
    replace hD : va_D A (ob_w1 o_b a_b cI b_5) := by rw [eb_5]; exact hD
    clear eb_5
    have e1 := Option.some.inj hd
    subst e1
    exact ob_vret hx hb hr hlocks hP hD hS dX1_addOath_51
  · replace hd := ob_f c_6 hd
    have e1 := Option.some.inj hd
    subst e1
    exact ob_vret hx hb hr hlocks hP hD hS dX1_addOath_9

def fd_X1_become  (b : ob_B) (d : ob_B)  : Option (ob_B) := ob_lt (d.1 0 : Int32) (fun x_1 => ob_lt (ob_I b 0 x_1 : ob_B) (fun b_2 => ob_lt (d.1 1 : Int32) (fun x_3 => ob_lt (ob_I b_2 1 x_3 : ob_B) (fun b_4 => ob_lt (d.1 2 : Int32) (fun x_5 => ob_lt (ob_I b_4 2 x_5 : ob_B) (fun b_6 => ob_lt (d.1 3 : Int32) (fun x_7 => ob_lt (ob_I b_6 3 x_7 : ob_B) (fun b_8 => ob_lt (d.1 4 : Int32) (fun x_9 => ob_lt (ob_I b_8 4 x_9 : ob_B) (fun b_10 => ob_lt (d.1 5 : Int32) (fun x_11 => ob_lt (ob_I b_10 5 x_11 : ob_B) (fun b_12 => ob_lt (d.1 6 : Int32) (fun x_13 => ob_lt (ob_I b_12 6 x_13 : ob_B) (fun b_14 => ob_lt (ob_A b_14 7 (va_cpy (d.2 7) (b_14.2 7) (Int32.toNatClampNeg 0) (Int32.toNatClampNeg 0) (Int32.toNatClampNeg 7)) : ob_B) (fun b_15 => ob_lt (ob_A b_15 8 (va_cpy (d.2 8) (b_15.2 8) (Int32.toNatClampNeg 0) (Int32.toNatClampNeg 0) (Int32.toNatClampNeg 7)) : ob_B) (fun b_16 => ob_lt (ob_A b_16 9 (va_cpy (d.2 9) (b_16.2 9) (Int32.toNatClampNeg 0) (Int32.toNatClampNeg 0) (Int32.toNatClampNeg 7)) : ob_B) (fun b_17 => ob_lt (ob_A b_17 10 (va_cpy (d.2 10) (b_17.2 10) (Int32.toNatClampNeg 0) (Int32.toNatClampNeg 0) (Int32.toNatClampNeg 7)) : ob_B) (fun b_18 => ob_lt (ob_A b_18 11 (va_cpy (d.2 11) (b_18.2 11) (Int32.toNatClampNeg 0) (Int32.toNatClampNeg 0) (Int32.toNatClampNeg 7)) : ob_B) (fun b_19 => some (b_19))))))))))))))))))))
set_option maxHeartbeats 4000000 in
set_option maxRecDepth 100000 in
theorem mt_X1_become (l : Launch) (dC : Nat → ClassId) (dI : Nat → Nat → Nat) (cI cZ cR cW : ClassId) (xs : Nat → Nat) (sz : Nat) (o_b : Nat) (a_b : Nat → Nat) (o_d : Nat) (a_d : Nat → Nat) (b : ob_B) (d : ob_B)   (b' : ob_B) (hd : fd_X1_become b d = some (b')) : ob_M l yX1_become wsX1_become ({ frames := 1, cells := 0, slots := 0, locals := 60 } : Room) (dC, dI) (ob_ty cI cZ cR cW) xs [.ref o_b, .ref o_d] (ob_w1 o_b a_b cI b ++ ob_w1 o_d a_d cI d) sz (ob_Qv (dC, dI) (ob_w1 o_b a_b cI b' ++ ob_w1 o_d a_d cI d)) := by
  rw [fd_X1_become] at hd
  refine ob_in (cc := cX1_become) (maxL := 2) (ret := none) (own := RX1) (by decide) rfl rfl [(0, .ref o_b), (1, .ref o_d)] rfl (Nat.le_of_ble_eq_true rfl) ?_
  intro p e s m below meth c hx hb hr hml hown hts hlocks hnm hK A hA hE hP hD hS ls hl
  have kw0 := hts (.fieldLink RX1 9 "OathCoach$Route" "at" "I") (by decide +kernel)
  have kw1 := hts (.fieldLink RX1 15 "OathCoach$Route" "home" "I") (by decide +kernel)
  have kw2 := hts (.fieldLink RX1 18 "OathCoach$Route" "hour" "I") (by decide +kernel)
  have kw3 := hts (.fieldLink RX1 21 "OathCoach$Route" "snow" "I") (by decide +kernel)
  have kw4 := hts (.fieldLink RX1 24 "OathCoach$Route" "oaths" "I") (by decide +kernel)
  have kw5 := hts (.fieldLink RX1 27 "OathCoach$Route" "timesKept" "I") (by decide +kernel)
  have kw6 := hts (.fieldLink RX1 30 "OathCoach$Route" "timesBroken" "I") (by decide +kernel)
  have kw7 := hts (.fieldLink RX1 33 "OathCoach$Route" "kind" "[I") (by decide +kernel)
  have kw8 := hts (.methodLink RX1 49 arraycopyName) (by decide +kernel)
  have kw9 := hts (.native arraycopyName) (by decide +kernel)
  have kw10 := hts (.static arraycopyName) (by decide +kernel)
  have kw11 := hts (.initialized "java/lang/System") (by decide +kernel)
  have kw12 := hts (.fieldLink RX1 37 "OathCoach$Route" "place" "[I") (by decide +kernel)
  have kw13 := hts (.fieldLink RX1 40 "OathCoach$Route" "weight" "[I") (by decide +kernel)
  have kw14 := hts (.fieldLink RX1 43 "OathCoach$Route" "due" "[I") (by decide +kernel)
  have kw15 := hts (.fieldLink RX1 46 "OathCoach$Route" "came" "[I") (by decide +kernel)
  have hi_X1 : ∀ w ∈ u_ws RX1 TX1 12, w ∈ wsX1_become := by decide +kernel
  refine lv_aload_n hx hb dX1_become_0 rfl (lv_at hl 0 rfl) ?_
  refine lv_aload_n hx hb dX1_become_1 rfl (lv_at hl 1 rfl) ?_
  refine va_get (D := (dC, dI)) (ci := 1) (v := .int (d.1 0)) (C := RX1) (T := TX1) (N := 12) hx hb hts hi_X1 hown hK hP 6 rfl rfl 0 (by decide) kw0 (fun _ h9 => h9) rfl dX1_become_2 ?_
  refine lv_topi (fun x_1 ex_1 => ?_)
  replace hd := ob_lx ex_1 hd
  clear ex_1
  refine va_put (D := (dC, dI)) (ci := 1) (v := .int x_1) (ty := .int) (C := RX1) (T := TX1) (N := 12) hx hb hts hi_X1 tyX1 tyX1_ok nmX1 hown hK hP hD hS 0 rfl rfl 0 (by decide) kw0 (fun _ h9 => h9) rfl (by decide +kernel) rfl rfl (Nat.le_of_ble_eq_true rfl) dX1_become_5 (fun H locs hP hD hS => ?_)
  obtain ⟨b_2, eb_2⟩ : ∃ z : ob_B, z = ob_I b 0 x_1 := ⟨_, rfl⟩
  replace hd := ob_lx eb_2 hd
  replace hP : va_P (dC, dI) vwCl (ob_w1 o_b a_b cI b_2 ++ ob_w1 o_d a_d cI d) H := by rw [eb_2]; exact hP
  replace hD : va_D A (ob_w1 o_b a_b cI b_2 ++ ob_w1 o_d a_d cI d) := by rw [eb_2]; exact hD
  clear eb_2
  refine lv_aload_n hx hb dX1_become_8 rfl (lv_at hl 0 rfl) ?_
  refine lv_aload_n hx hb dX1_become_9 rfl (lv_at hl 1 rfl) ?_
  refine va_get (D := (dC, dI)) (ci := 1) (v := .int (d.1 1)) (C := RX1) (T := TX1) (N := 12) hx hb hts hi_X1 hown hK hP 6 rfl rfl 1 (by decide) kw1 (fun _ h9 => h9) rfl dX1_become_10 ?_
  refine lv_topi (fun x_3 ex_3 => ?_)
  replace hd := ob_lx ex_3 hd
  clear ex_3
  refine va_put (D := (dC, dI)) (ci := 1) (v := .int x_3) (ty := .int) (C := RX1) (T := TX1) (N := 12) hx hb hts hi_X1 tyX1 tyX1_ok nmX1 hown hK hP hD hS 0 rfl rfl 1 (by decide) kw1 (fun _ h9 => h9) rfl (by decide +kernel) rfl rfl (Nat.le_of_ble_eq_true rfl) dX1_become_13 (fun H locs hP hD hS => ?_)
  obtain ⟨b_4, eb_4⟩ : ∃ z : ob_B, z = ob_I b_2 1 x_3 := ⟨_, rfl⟩
  replace hd := ob_lx eb_4 hd
  replace hP : va_P (dC, dI) vwCl (ob_w1 o_b a_b cI b_4 ++ ob_w1 o_d a_d cI d) H := by rw [eb_4]; exact hP
  replace hD : va_D A (ob_w1 o_b a_b cI b_4 ++ ob_w1 o_d a_d cI d) := by rw [eb_4]; exact hD
  clear eb_4
  refine lv_aload_n hx hb dX1_become_16 rfl (lv_at hl 0 rfl) ?_
  refine lv_aload_n hx hb dX1_become_17 rfl (lv_at hl 1 rfl) ?_
  refine va_get (D := (dC, dI)) (ci := 1) (v := .int (d.1 2)) (C := RX1) (T := TX1) (N := 12) hx hb hts hi_X1 hown hK hP 6 rfl rfl 2 (by decide) kw2 (fun _ h9 => h9) rfl dX1_become_18 ?_
  refine lv_topi (fun x_5 ex_5 => ?_)
  replace hd := ob_lx ex_5 hd
  clear ex_5
  refine va_put (D := (dC, dI)) (ci := 1) (v := .int x_5) (ty := .int) (C := RX1) (T := TX1) (N := 12) hx hb hts hi_X1 tyX1 tyX1_ok nmX1 hown hK hP hD hS 0 rfl rfl 2 (by decide) kw2 (fun _ h9 => h9) rfl (by decide +kernel) rfl rfl (Nat.le_of_ble_eq_true rfl) dX1_become_21 (fun H locs hP hD hS => ?_)
  obtain ⟨b_6, eb_6⟩ : ∃ z : ob_B, z = ob_I b_4 2 x_5 := ⟨_, rfl⟩
  replace hd := ob_lx eb_6 hd
  replace hP : va_P (dC, dI) vwCl (ob_w1 o_b a_b cI b_6 ++ ob_w1 o_d a_d cI d) H := by rw [eb_6]; exact hP
  replace hD : va_D A (ob_w1 o_b a_b cI b_6 ++ ob_w1 o_d a_d cI d) := by rw [eb_6]; exact hD
  clear eb_6
  refine lv_aload_n hx hb dX1_become_24 rfl (lv_at hl 0 rfl) ?_
  refine lv_aload_n hx hb dX1_become_25 rfl (lv_at hl 1 rfl) ?_
  refine va_get (D := (dC, dI)) (ci := 1) (v := .int (d.1 3)) (C := RX1) (T := TX1) (N := 12) hx hb hts hi_X1 hown hK hP 6 rfl rfl 3 (by decide) kw3 (fun _ h9 => h9) rfl dX1_become_26 ?_
  refine lv_topi (fun x_7 ex_7 => ?_)
  replace hd := ob_lx ex_7 hd
  clear ex_7
  refine va_put (D := (dC, dI)) (ci := 1) (v := .int x_7) (ty := .int) (C := RX1) (T := TX1) (N := 12) hx hb hts hi_X1 tyX1 tyX1_ok nmX1 hown hK hP hD hS 0 rfl rfl 3 (by decide) kw3 (fun _ h9 => h9) rfl (by decide +kernel) rfl rfl (Nat.le_of_ble_eq_true rfl) dX1_become_29 (fun H locs hP hD hS => ?_)
  obtain ⟨b_8, eb_8⟩ : ∃ z : ob_B, z = ob_I b_6 3 x_7 := ⟨_, rfl⟩
  replace hd := ob_lx eb_8 hd
  replace hP : va_P (dC, dI) vwCl (ob_w1 o_b a_b cI b_8 ++ ob_w1 o_d a_d cI d) H := by rw [eb_8]; exact hP
  replace hD : va_D A (ob_w1 o_b a_b cI b_8 ++ ob_w1 o_d a_d cI d) := by rw [eb_8]; exact hD
  clear eb_8
  refine lv_aload_n hx hb dX1_become_32 rfl (lv_at hl 0 rfl) ?_
  refine lv_aload_n hx hb dX1_become_33 rfl (lv_at hl 1 rfl) ?_
  refine va_get (D := (dC, dI)) (ci := 1) (v := .int (d.1 4)) (C := RX1) (T := TX1) (N := 12) hx hb hts hi_X1 hown hK hP 6 rfl rfl 4 (by decide) kw4 (fun _ h9 => h9) rfl dX1_become_34 ?_
  refine lv_topi (fun x_9 ex_9 => ?_)
  replace hd := ob_lx ex_9 hd
  clear ex_9
  refine va_put (D := (dC, dI)) (ci := 1) (v := .int x_9) (ty := .int) (C := RX1) (T := TX1) (N := 12) hx hb hts hi_X1 tyX1 tyX1_ok nmX1 hown hK hP hD hS 0 rfl rfl 4 (by decide) kw4 (fun _ h9 => h9) rfl (by decide +kernel) rfl rfl (Nat.le_of_ble_eq_true rfl) dX1_become_37 (fun H locs hP hD hS => ?_)
  obtain ⟨b_10, eb_10⟩ : ∃ z : ob_B, z = ob_I b_8 4 x_9 := ⟨_, rfl⟩
  replace hd := ob_lx eb_10 hd
  replace hP : va_P (dC, dI) vwCl (ob_w1 o_b a_b cI b_10 ++ ob_w1 o_d a_d cI d) H := by rw [eb_10]; exact hP
  replace hD : va_D A (ob_w1 o_b a_b cI b_10 ++ ob_w1 o_d a_d cI d) := by rw [eb_10]; exact hD
  clear eb_10
  refine lv_aload_n hx hb dX1_become_40 rfl (lv_at hl 0 rfl) ?_
  refine lv_aload_n hx hb dX1_become_41 rfl (lv_at hl 1 rfl) ?_
  refine va_get (D := (dC, dI)) (ci := 1) (v := .int (d.1 5)) (C := RX1) (T := TX1) (N := 12) hx hb hts hi_X1 hown hK hP 6 rfl rfl 5 (by decide) kw5 (fun _ h9 => h9) rfl dX1_become_42 ?_
  refine lv_topi (fun x_11 ex_11 => ?_)
  replace hd := ob_lx ex_11 hd
  clear ex_11
  refine va_put (D := (dC, dI)) (ci := 1) (v := .int x_11) (ty := .int) (C := RX1) (T := TX1) (N := 12) hx hb hts hi_X1 tyX1 tyX1_ok nmX1 hown hK hP hD hS 0 rfl rfl 5 (by decide) kw5 (fun _ h9 => h9) rfl (by decide +kernel) rfl rfl (Nat.le_of_ble_eq_true rfl) dX1_become_45 (fun H locs hP hD hS => ?_)
  obtain ⟨b_12, eb_12⟩ : ∃ z : ob_B, z = ob_I b_10 5 x_11 := ⟨_, rfl⟩
  replace hd := ob_lx eb_12 hd
  replace hP : va_P (dC, dI) vwCl (ob_w1 o_b a_b cI b_12 ++ ob_w1 o_d a_d cI d) H := by rw [eb_12]; exact hP
  replace hD : va_D A (ob_w1 o_b a_b cI b_12 ++ ob_w1 o_d a_d cI d) := by rw [eb_12]; exact hD
  clear eb_12
  refine lv_aload_n hx hb dX1_become_48 rfl (lv_at hl 0 rfl) ?_
  refine lv_aload_n hx hb dX1_become_49 rfl (lv_at hl 1 rfl) ?_
  refine va_get (D := (dC, dI)) (ci := 1) (v := .int (d.1 6)) (C := RX1) (T := TX1) (N := 12) hx hb hts hi_X1 hown hK hP 6 rfl rfl 6 (by decide) kw6 (fun _ h9 => h9) rfl dX1_become_50 ?_
  refine lv_topi (fun x_13 ex_13 => ?_)
  replace hd := ob_lx ex_13 hd
  clear ex_13
  refine va_put (D := (dC, dI)) (ci := 1) (v := .int x_13) (ty := .int) (C := RX1) (T := TX1) (N := 12) hx hb hts hi_X1 tyX1 tyX1_ok nmX1 hown hK hP hD hS 0 rfl rfl 6 (by decide) kw6 (fun _ h9 => h9) rfl (by decide +kernel) rfl rfl (Nat.le_of_ble_eq_true rfl) dX1_become_53 (fun H locs hP hD hS => ?_)
  obtain ⟨b_14, eb_14⟩ : ∃ z : ob_B, z = ob_I b_12 6 x_13 := ⟨_, rfl⟩
  replace hd := ob_lx eb_14 hd
  replace hP : va_P (dC, dI) vwCl (ob_w1 o_b a_b cI b_14 ++ ob_w1 o_d a_d cI d) H := by rw [eb_14]; exact hP
  replace hD : va_D A (ob_w1 o_b a_b cI b_14 ++ ob_w1 o_d a_d cI d) := by rw [eb_14]; exact hD
  clear eb_14
  refine lv_aload_n hx hb dX1_become_56 rfl (lv_at hl 1 rfl) ?_
  refine va_get (D := (dC, dI)) (ci := 1) (v := .ref (a_d 7)) (C := RX1) (T := TX1) (N := 12) hx hb hts hi_X1 hown hK hP 6 rfl rfl 7 (by decide) kw7 (fun _ h9 => h9) rfl dX1_become_57 ?_
  refine lv_iconst (v := 0) hx hb dX1_become_60 (by decide) ?_
  refine lv_aload_n hx hb dX1_become_61 rfl (lv_at hl 0 rfl) ?_
  refine va_get (D := (dC, dI)) (ci := 1) (v := .ref (a_b 7)) (C := RX1) (T := TX1) (N := 12) hx hb hts hi_X1 hown hK hP 0 rfl rfl 7 (by decide) kw7 (fun _ h9 => h9) rfl dX1_become_62 ?_
  refine lv_iconst (v := 0) hx hb dX1_become_65 (by decide) ?_
  refine lv_bipush (v := 7) hx hb dX1_become_66 (by decide) ?_
  refine va_copyi hx hb (by rw [hml]; exact hl.1.symm) hown kw8 kw9 kw10 kw11 hK hP hD hS 7 1 0 0 rfl rfl rfl rfl rfl (by decide) (by decide) (by decide) (by decide) (by decide) (fun _ _ => rfl) (Nat.le_of_ble_eq_true rfl) (Nat.le_of_ble_eq_true rfl) dX1_become_68 (fun H locs hP hD hS => ?_)
  obtain ⟨b_15, eb_15⟩ : ∃ z : ob_B, z = ob_A b_14 7 (va_cpy (d.2 7) (b_14.2 7) (Int32.toNatClampNeg 0) (Int32.toNatClampNeg 0) (Int32.toNatClampNeg 7)) := ⟨_, rfl⟩
  replace hd := ob_lx eb_15 hd
  replace hP : va_P (dC, dI) vwCl (ob_w1 o_b a_b cI b_15 ++ ob_w1 o_d a_d cI d) H := by rw [eb_15]; exact hP
  replace hD : va_D A (ob_w1 o_b a_b cI b_15 ++ ob_w1 o_d a_d cI d) := by rw [eb_15]; exact hD
  clear eb_15
  refine lv_aload_n hx hb dX1_become_71 rfl (lv_at hl 1 rfl) ?_
  refine va_get (D := (dC, dI)) (ci := 1) (v := .ref (a_d 8)) (C := RX1) (T := TX1) (N := 12) hx hb hts hi_X1 hown hK hP 6 rfl rfl 8 (by decide) kw12 (fun _ h9 => h9) rfl dX1_become_72 ?_
  refine lv_iconst (v := 0) hx hb dX1_become_75 (by decide) ?_
  refine lv_aload_n hx hb dX1_become_76 rfl (lv_at hl 0 rfl) ?_
  refine va_get (D := (dC, dI)) (ci := 1) (v := .ref (a_b 8)) (C := RX1) (T := TX1) (N := 12) hx hb hts hi_X1 hown hK hP 0 rfl rfl 8 (by decide) kw12 (fun _ h9 => h9) rfl dX1_become_77 ?_
  refine lv_iconst (v := 0) hx hb dX1_become_80 (by decide) ?_
  refine lv_bipush (v := 7) hx hb dX1_become_81 (by decide) ?_
  refine va_copyi hx hb (by rw [hml]; exact hl.1.symm) hown kw8 kw9 kw10 kw11 hK hP hD hS 8 2 0 0 rfl rfl rfl rfl rfl (by decide) (by decide) (by decide) (by decide) (by decide) (fun _ _ => rfl) (Nat.le_of_ble_eq_true rfl) (Nat.le_of_ble_eq_true rfl) dX1_become_83 (fun H locs hP hD hS => ?_)
  obtain ⟨b_16, eb_16⟩ : ∃ z : ob_B, z = ob_A b_15 8 (va_cpy (d.2 8) (b_15.2 8) (Int32.toNatClampNeg 0) (Int32.toNatClampNeg 0) (Int32.toNatClampNeg 7)) := ⟨_, rfl⟩
  replace hd := ob_lx eb_16 hd
  replace hP : va_P (dC, dI) vwCl (ob_w1 o_b a_b cI b_16 ++ ob_w1 o_d a_d cI d) H := by rw [eb_16]; exact hP
  replace hD : va_D A (ob_w1 o_b a_b cI b_16 ++ ob_w1 o_d a_d cI d) := by rw [eb_16]; exact hD
  clear eb_16
  refine lv_aload_n hx hb dX1_become_86 rfl (lv_at hl 1 rfl) ?_
  refine va_get (D := (dC, dI)) (ci := 1) (v := .ref (a_d 9)) (C := RX1) (T := TX1) (N := 12) hx hb hts hi_X1 hown hK hP 6 rfl rfl 9 (by decide) kw13 (fun _ h9 => h9) rfl dX1_become_87 ?_
  refine lv_iconst (v := 0) hx hb dX1_become_90 (by decide) ?_
  refine lv_aload_n hx hb dX1_become_91 rfl (lv_at hl 0 rfl) ?_
  refine va_get (D := (dC, dI)) (ci := 1) (v := .ref (a_b 9)) (C := RX1) (T := TX1) (N := 12) hx hb hts hi_X1 hown hK hP 0 rfl rfl 9 (by decide) kw13 (fun _ h9 => h9) rfl dX1_become_92 ?_
  refine lv_iconst (v := 0) hx hb dX1_become_95 (by decide) ?_
  refine lv_bipush (v := 7) hx hb dX1_become_96 (by decide) ?_
  refine va_copyi hx hb (by rw [hml]; exact hl.1.symm) hown kw8 kw9 kw10 kw11 hK hP hD hS 9 3 0 0 rfl rfl rfl rfl rfl (by decide) (by decide) (by decide) (by decide) (by decide) (fun _ _ => rfl) (Nat.le_of_ble_eq_true rfl) (Nat.le_of_ble_eq_true rfl) dX1_become_98 (fun H locs hP hD hS => ?_)
  obtain ⟨b_17, eb_17⟩ : ∃ z : ob_B, z = ob_A b_16 9 (va_cpy (d.2 9) (b_16.2 9) (Int32.toNatClampNeg 0) (Int32.toNatClampNeg 0) (Int32.toNatClampNeg 7)) := ⟨_, rfl⟩
  replace hd := ob_lx eb_17 hd
  replace hP : va_P (dC, dI) vwCl (ob_w1 o_b a_b cI b_17 ++ ob_w1 o_d a_d cI d) H := by rw [eb_17]; exact hP
  replace hD : va_D A (ob_w1 o_b a_b cI b_17 ++ ob_w1 o_d a_d cI d) := by rw [eb_17]; exact hD
  clear eb_17
  refine lv_aload_n hx hb dX1_become_101 rfl (lv_at hl 1 rfl) ?_
  refine va_get (D := (dC, dI)) (ci := 1) (v := .ref (a_d 10)) (C := RX1) (T := TX1) (N := 12) hx hb hts hi_X1 hown hK hP 6 rfl rfl 10 (by decide) kw14 (fun _ h9 => h9) rfl dX1_become_102 ?_
  refine lv_iconst (v := 0) hx hb dX1_become_105 (by decide) ?_
  refine lv_aload_n hx hb dX1_become_106 rfl (lv_at hl 0 rfl) ?_
  refine va_get (D := (dC, dI)) (ci := 1) (v := .ref (a_b 10)) (C := RX1) (T := TX1) (N := 12) hx hb hts hi_X1 hown hK hP 0 rfl rfl 10 (by decide) kw14 (fun _ h9 => h9) rfl dX1_become_107 ?_
  refine lv_iconst (v := 0) hx hb dX1_become_110 (by decide) ?_
  refine lv_bipush (v := 7) hx hb dX1_become_111 (by decide) ?_
  refine va_copyi hx hb (by rw [hml]; exact hl.1.symm) hown kw8 kw9 kw10 kw11 hK hP hD hS 10 4 0 0 rfl rfl rfl rfl rfl (by decide) (by decide) (by decide) (by decide) (by decide) (fun _ _ => rfl) (Nat.le_of_ble_eq_true rfl) (Nat.le_of_ble_eq_true rfl) dX1_become_113 (fun H locs hP hD hS => ?_)
  obtain ⟨b_18, eb_18⟩ : ∃ z : ob_B, z = ob_A b_17 10 (va_cpy (d.2 10) (b_17.2 10) (Int32.toNatClampNeg 0) (Int32.toNatClampNeg 0) (Int32.toNatClampNeg 7)) := ⟨_, rfl⟩
  replace hd := ob_lx eb_18 hd
  replace hP : va_P (dC, dI) vwCl (ob_w1 o_b a_b cI b_18 ++ ob_w1 o_d a_d cI d) H := by rw [eb_18]; exact hP
  replace hD : va_D A (ob_w1 o_b a_b cI b_18 ++ ob_w1 o_d a_d cI d) := by rw [eb_18]; exact hD
  clear eb_18
  refine lv_aload_n hx hb dX1_become_116 rfl (lv_at hl 1 rfl) ?_
  refine va_get (D := (dC, dI)) (ci := 1) (v := .ref (a_d 11)) (C := RX1) (T := TX1) (N := 12) hx hb hts hi_X1 hown hK hP 6 rfl rfl 11 (by decide) kw15 (fun _ h9 => h9) rfl dX1_become_117 ?_
  refine lv_iconst (v := 0) hx hb dX1_become_120 (by decide) ?_
  refine lv_aload_n hx hb dX1_become_121 rfl (lv_at hl 0 rfl) ?_
  refine va_get (D := (dC, dI)) (ci := 1) (v := .ref (a_b 11)) (C := RX1) (T := TX1) (N := 12) hx hb hts hi_X1 hown hK hP 0 rfl rfl 11 (by decide) kw15 (fun _ h9 => h9) rfl dX1_become_122 ?_
  refine lv_iconst (v := 0) hx hb dX1_become_125 (by decide) ?_
  refine lv_bipush (v := 7) hx hb dX1_become_126 (by decide) ?_
  refine va_copyi hx hb (by rw [hml]; exact hl.1.symm) hown kw8 kw9 kw10 kw11 hK hP hD hS 11 5 0 0 rfl rfl rfl rfl rfl (by decide) (by decide) (by decide) (by decide) (by decide) (fun _ _ => rfl) (Nat.le_of_ble_eq_true rfl) (Nat.le_of_ble_eq_true rfl) dX1_become_128 (fun H locs hP hD hS => ?_)
  obtain ⟨b_19, eb_19⟩ : ∃ z : ob_B, z = ob_A b_18 11 (va_cpy (d.2 11) (b_18.2 11) (Int32.toNatClampNeg 0) (Int32.toNatClampNeg 0) (Int32.toNatClampNeg 7)) := ⟨_, rfl⟩
  replace hd := ob_lx eb_19 hd
  replace hP : va_P (dC, dI) vwCl (ob_w1 o_b a_b cI b_19 ++ ob_w1 o_d a_d cI d) H := by rw [eb_19]; exact hP
  replace hD : va_D A (ob_w1 o_b a_b cI b_19 ++ ob_w1 o_d a_d cI d) := by rw [eb_19]; exact hD
  clear eb_19
  have e1 := Option.some.inj hd
  subst e1
  exact ob_vret hx hb hr hlocks hP hD hS dX1_become_131

def fd_X1_goesAlong_L3  : Nat → ob_B → ob_B → Int32 → Int32 → Int32 → Option (Int32 × ob_B)
  | 0, _, _, _, _, _ => none
  | fu + 1, b, w, x2, x3, z4 => if x3 ≤ z4 then (some (1, b)) else (ob_b2 (fd_X1_passHour b) (fun r_1 b_2 => if (x2 + z4) < 0 ∨ 40 ≤ Int32.toNatClampNeg (x2 + z4) then none else (if (b_2.1 0) = ((w.2 3) (Int32.toNatClampNeg (x2 + z4))) then (ob_lt (z4 + 1 : Int32) (fun x_3 => fd_X1_goesAlong_L3 fu b_2 w x2 x3 x_3)) else (some (0, b_2)))))
def fd_X1_goesAlong  (b : ob_B) (w : ob_B) (x2 : Int32) (x3 : Int32) : Option (Int32 × ob_B) := fd_X1_goesAlong_L3 2000 b w x2 x3 0
set_option maxHeartbeats 4000000 in
set_option maxRecDepth 100000 in
theorem mt_X1_goesAlong (l : Launch) (dC : Nat → ClassId) (dI : Nat → Nat → Nat) (cI cZ cR cW : ClassId) (xs : Nat → Nat) (sz : Nat) (o_b : Nat) (a_b : Nat → Nat) (o_w : Nat) (a_w : Nat → Nat) (b : ob_B) (w : ob_B) (x2 : Int32) (x3 : Int32)  (rr : Int32) (b' : ob_B) (hd : fd_X1_goesAlong b w x2 x3 = some (rr, b')) : ob_M l yX1_goesAlong wsX1_goesAlong ({ frames := 4, cells := 0, slots := 0, locals := 90 } : Room) (dC, dI) (ob_ty cI cZ cR cW) xs [.ref o_b, .ref o_w, .int x2, .int x3] (ob_w1 o_b a_b cI b ++ ob_w2 o_w a_w cI w) sz (ob_Qi (dC, dI) rr (ob_w1 o_b a_b cI b' ++ ob_w2 o_w a_w cI w)) := by
  rw [fd_X1_goesAlong] at hd
  refine ob_in (cc := cX1_goesAlong) (maxL := 5) (ret := (some .boolean)) (own := RX1) (by decide) rfl rfl [(0, .ref o_b), (1, .ref o_w), (2, .int x2), (3, .int x3)] rfl (Nat.le_of_ble_eq_true rfl) ?_
  intro p e s m below meth c hx hb hr hml hown hts hlocks hnm hK A hA hE hP hD hS ls hl
  have kw0 := hts (.fieldLink RX1 9 "OathCoach$Route" "at" "I") (by decide +kernel)
  have kw1 := hts (.fieldLink RX1 87 "OathCoach$Row" "items" "[I") (by decide +kernel)
  have hi_X1 : ∀ w ∈ u_ws RX1 TX1 12, w ∈ wsX1_goesAlong := by decide +kernel
  have hi_X2 : ∀ w ∈ u_ws RX2 TX2 4, w ∈ wsX1_goesAlong := by decide +kernel
  have L3 : ∀  (fu : Nat), ∀ (H : Heap) (locs : List Loc) (b : ob_B) (z4 : Int32) (ls : Array Slot), va_P (dC, dI) vwCl (ob_w1 o_b a_b cI b ++ ob_w2 o_w a_w cI w) H → va_D A (ob_w1 o_b a_b cI b ++ ob_w2 o_w a_w cI w) → va_S A s.heap H locs → lv_has ls 5 [(0, .ref o_b), (1, .ref o_w), (2, .int x2), (3, .int x3), (4, .int z4)] → fd_X1_goesAlong_L3 fu b w x2 x3 z4 = some (rr, b') → W p l e ({ frames := 4, cells := 0, slots := 0, locals := 90 } : Room) s m (List.toArray [.ref o_b, .ref o_w, .int x2, .int x3]) below meth c H locs 0 0 (MQ below ((ob_Qi (dC, dI) rr (ob_w1 o_b a_b cI b' ++ ob_w2 o_w a_w cI w)) A) (List.toArray [.ref o_b, .ref o_w, .int x2, .int x3]) s 0 0 A) (F0 m 3 ls []) := by
    intro  fu
    induction fu with
    | zero =>
      intro H locs b z4 ls hP hD hS hl hd
      rw [fd_X1_goesAlong_L3] at hd
      cases hd
    | succ fu ih =>
      intro H locs b z4 ls hP hD hS hl hd
      rw [fd_X1_goesAlong_L3] at hd
      refine lv_iload hx hb dX1_goesAlong_3 (lv_at hl 4 rfl) ?_
      refine lv_iload_n hx hb dX1_goesAlong_5 rfl (lv_at hl 3 rfl) ?_
      refine lv_icmp_ge (tgt := 38) hx hb dX1_goesAlong_6 (by decide) (fun c_6 => ?_) (fun c_6 => ?_)
      · replace hd := ob_t c_6 hd
        refine lv_iconst (v := 1) hx hb dX1_goesAlong_38 (by decide) ?_
        obtain ⟨e1, e2⟩ := ob_pp hd
        subst e1
        subst e2
        exact ob_zret hx hb hr hlocks (by decide) hP hD hS dX1_goesAlong_39
      · replace hd := ob_f c_6 hd
        refine lv_aload_n hx hb dX1_goesAlong_9 rfl (lv_at hl 0 rfl) ?_
        obtain ⟨r_1, b_2, hc_10, hd⟩ := ob_s2 hd
        refine ob_Vi (isC := [0, 1, 2, 3, 4, 5]) (isR := [6, 7]) (is2 := [2, 3, 4, 5, 6, 7, 0, 1]) (wc := (ob_w1 o_b a_b cI b)) (wr := (List.filterMap (fun i => (ob_w1 o_b a_b cI b ++ ob_w2 o_w a_w cI w)[i]?) [6, 7])) (w1 := (ob_w1 o_b a_b cI b_2)) (w2 := (ob_w1 o_b a_b cI b_2 ++ ob_w2 o_w a_w cI w)) (b := o_b) (As := []) (rest := []) ⟨hx, hb, hml, hown, hts⟩ (mt_X1_passHour l dC dI cI cZ cR cW xs _ o_b a_b b r_1 b_2 hc_10) (cwV 0 hts gX1_goesAlong_X1_passHour rfl rfl rfl (by decide +kernel) ⟨Nat.le_of_ble_eq_true rfl, Nat.le_of_ble_eq_true rfl⟩) hK hE hP hD hS hA ⟨rfl, rfl, rfl, rfl, rfl, rfl, rfl⟩ 1 0 rfl rfl rfl hl rfl rfl (Nat.le_of_ble_eq_true rfl) ⟨Nat.le_of_ble_eq_true rfl, Nat.le_of_ble_eq_true rfl⟩ dX1_goesAlong_10 (fun H locs hP hD hS => ?_)
        refine W.widen (k := 0) (n := 0) (Nat.le_refl _) (Nat.le_refl _) ?_
        refine lv_pop hx hb dX1_goesAlong_13 rfl ?_
        refine lv_aload_n hx hb dX1_goesAlong_14 rfl (lv_at hl 0 rfl) ?_
        refine va_get (D := (dC, dI)) (ci := 1) (v := .int (b_2.1 0)) (C := RX1) (T := TX1) (N := 12) hx hb hts hi_X1 hown hK hP 0 rfl rfl 0 (by decide) kw0 (fun _ h9 => h9) rfl dX1_goesAlong_15 ?_
        refine lv_aload_n hx hb dX1_goesAlong_18 rfl (lv_at hl 1 rfl) ?_
        refine va_get (D := (dC, dI)) (ci := 2) (v := .ref (a_w 3)) (C := RX2) (T := TX2) (N := 4) hx hb hts hi_X2 hown hK hP 6 rfl rfl 3 (by decide) kw1 (fun _ h9 => h9) rfl dX1_goesAlong_19 ?_
        refine lv_iload_n hx hb dX1_goesAlong_22 rfl (lv_at hl 2 rfl) ?_
        refine lv_iload hx hb dX1_goesAlong_23 (lv_at hl 4 rfl) ?_
        refine lv_iadd hx hb dX1_goesAlong_25 ?_
        obtain ⟨h1_26, hd⟩ := ob_nn hd
        refine va_iald hx hb hK hP 7 0 rfl rfl h1_26 dX1_goesAlong_26 ?_
        refine lv_icmp_eq (tgt := 32) hx hb dX1_goesAlong_27 (by decide) (fun c_27 => ?_) (fun c_27 => ?_)
        · replace hd := ob_t c_27 hd
          obtain ⟨x_3, ex_3⟩ : ∃ z : Int32, z = z4 + 1 := ⟨_, rfl⟩
          replace hd := ob_lx ex_3 hd
          refine lv_iinc (v := x_3) (lv' := [(4, .int x_3), (0, .ref o_b), (1, .ref o_w), (2, .int x2), (3, .int x3)]) hx hb dX1_goesAlong_32 hl (k := 4) rfl (by rw [ex_3]; rfl) (by decide) rfl (fun ls hl => ?_)
          clear ex_3
          refine lv_goto (tgt := 3) hx hb dX1_goesAlong_35 (by decide) ?_
          exact ih _ _ b_2 x_3 _ hP hD hS (lv_sub hl [1, 2, 3, 4, 0] rfl) hd
        · replace hd := ob_f c_27 hd
          refine lv_iconst (v := 0) hx hb dX1_goesAlong_30 (by decide) ?_
          obtain ⟨e1, e2⟩ := ob_pp hd
          subst e1
          subst e2
          exact ob_zret hx hb hr hlocks (by decide) hP hD hS dX1_goesAlong_31
  refine lv_iconst (v := 0) hx hb dX1_goesAlong_0 (by decide) ?_
  refine lv_istore (lv' := [(4, .int 0), (0, .ref o_b), (1, .ref o_w), (2, .int x2), (3, .int x3)]) hx hb dX1_goesAlong_1 hl (by decide) rfl (fun ls hl => ?_)
  exact L3  2000 _ _ b 0 _ hP hD hS (lv_sub hl [1, 2, 3, 4, 0] rfl) hd
