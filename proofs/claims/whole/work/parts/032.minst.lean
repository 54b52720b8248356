def fd_X5_isSign  (b : ob_B) (x1 : Int32) : Option (Int32 × ob_B) := ob_b1 (fd_X5_nextToken b) (fun b_1 => if (b_1.1 8) = x1 then (some (1, b_1)) else (ob_b2 (fd_X5_fails b_1 1) (fun r_2 b_3 => if r_2 = 0 then (some (0, b_3)) else (some (1, b_3)))))
set_option maxHeartbeats 4000000 in
set_option maxRecDepth 100000 in
theorem mt_X5_isSign (l : Launch) (dC : Nat → ClassId) (dI : Nat → Nat → Nat) (cI cZ cR cW : ClassId) (xs : Nat → Nat) (sz : Nat) (o_b : Nat) (a_b : Nat → Nat) (b : ob_B) (x1 : Int32)  (rr : Int32) (b' : ob_B) (hd : fd_X5_isSign b x1 = some (rr, b')) : ob_M l yX5_isSign wsX5_isSign ({ frames := 2, cells := 0, slots := 0, locals := 43 } : Room) (dC, dI) (ob_ty cI cZ cR cW) xs [.ref o_b, .int x1] (ob_w5 o_b a_b cI cZ b) sz (ob_Qi (dC, dI) rr (ob_w5 o_b a_b cI cZ b')) := by
  rw [fd_X5_isSign] at hd
  refine ob_in (cc := cX5_isSign) (maxL := 2) (ret := (some .boolean)) (own := RX5) (by decide) rfl rfl [(0, .ref o_b), (1, .int x1)] rfl (Nat.le_of_ble_eq_true rfl) ?_
  intro p e s m below meth c hx hb hr hml hown hts hlocks hnm hK A hA hE hP hD hS ls hl
  have kw0 := hts (.fieldLink RX5 87 "OathCoachModel" "token" "I") (by decide +kernel)
  have hi_X5 : ∀ w ∈ u_ws RX5 TX5 23, w ∈ wsX5_isSign := by decide +kernel
  refine lv_aload_n hx hb dX5_isSign_0 rfl (lv_at hl 0 rfl) ?_
  obtain ⟨b_1, hc_1, hd⟩ := ob_s1 hd
  refine ob_Vv (isC := [0, 1, 2, 3, 4, 5, 6, 7, 8, 9, 10, 11, 12, 13]) (isR := []) (is2 := [0, 1, 2, 3, 4, 5, 6, 7, 8, 9, 10, 11, 12, 13]) (wc := (ob_w5 o_b a_b cI cZ b)) (wr := ([] : va_W)) (w1 := (ob_w5 o_b a_b cI cZ b_1)) (w2 := (ob_w5 o_b a_b cI cZ b_1)) (b := o_b) (As := []) (rest := []) ⟨hx, hb, hml, hown, hts⟩ (mt_X5_nextToken l dC dI cI cZ cR cW xs _ o_b a_b b b_1 hc_1) (cwV 0 hts gX5_isSign_X5_nextToken rfl rfl rfl (by decide +kernel) ⟨Nat.le_of_ble_eq_true rfl, Nat.le_of_ble_eq_true rfl⟩) hK hE hP hD hS hA ⟨rfl, rfl, rfl, rfl, rfl, rfl, rfl⟩ 5 0 rfl rfl rfl hl rfl rfl (Nat.le_of_ble_eq_true rfl) ⟨Nat.le_of_ble_eq_true rfl, Nat.le_of_ble_eq_true rfl⟩ dX5_isSign_1 (fun H locs hP hD hS => ?_)
  refine W.widen (k := 0) (n := 0) (Nat.le_refl _) (Nat.le_refl _) ?_
  refine lv_aload_n hx hb dX5_isSign_4 rfl (lv_at hl 0 rfl) ?_
  refine va_get (D := (dC, dI)) (ci := 5) (v := .int (b_1.1 8)) (C := RX5) (T := TX5) (N := 23) hx hb hts hi_X5 hown hK hP 0 rfl rfl 8 (by decide) kw0 (fun _ h9 => h9) rfl dX5_isSign_5 ?_
  refine lv_iload_n hx hb dX5_isSign_8 rfl (lv_at hl 1 rfl) ?_
  refine lv_icmp_eq (tgt := 20) hx hb dX5_isSign_9 (by decide) (fun c_9 => ?_) (fun c_9 => ?_)
  · replace hd := ob_t c_9 hd
    refine lv_iconst (v := 1) hx hb dX5_isSign_20 (by decide) ?_
    refine lv_goto (tgt := 25) hx hb dX5_isSign_21 (by decide) ?_
    obtain ⟨e1, e2⟩ := ob_pp hd
    subst e1
    subst e2
    exact ob_zret hx hb hr hlocks (by decide) hP hD hS dX5_isSign_25
  · replace hd := ob_f c_9 hd
    refine lv_aload_n hx hb dX5_isSign_12 rfl (lv_at hl 0 rfl) ?_
    refine lv_iconst (v := 1) hx hb dX5_isSign_13 (by decide) ?_
    obtain ⟨r_2, b_3, hc_14, hd⟩ := ob_s2 hd
    refine ob_Vi (isC := [0, 1, 2, 3, 4, 5, 6, 7, 8, 9, 10, 11, 12, 13]) (isR := []) (is2 := [0, 1, 2, 3, 4, 5, 6, 7, 8, 9, 10, 11, 12, 13]) (wc := (ob_w5 o_b a_b cI cZ b_1)) (wr := ([] : va_W)) (w1 := (ob_w5 o_b a_b cI cZ b_3)) (w2 := (ob_w5 o_b a_b cI cZ b_3)) (b := o_b) (As := [.int 1]) (rest := []) ⟨hx, hb, hml, hown, hts⟩ (mt_X5_fails l dC dI cI cZ cR cW xs _ o_b a_b b_1 1 r_2 b_3 hc_14) (cwV 1 hts gX5_isSign_X5_fails rfl rfl rfl (by decide +kernel) ⟨Nat.le_of_ble_eq_true rfl, Nat.le_of_ble_eq_true rfl⟩) hK hE hP hD hS hA ⟨rfl, rfl, rfl, rfl, rfl, rfl, rfl⟩ 5 0 rfl rfl rfl hl rfl rfl (Nat.le_of_ble_eq_true rfl) ⟨Nat.le_of_ble_eq_true rfl, Nat.le_of_ble_eq_true rfl⟩ dX5_isSign_14 (fun H locs hP hD hS => ?_)
    refine W.widen (k := 0) (n := 0) (Nat.le_refl _) (Nat.le_refl _) ?_
    refine lv_if_eq (tgt := 24) hx hb dX5_isSign_17 (by decide) (fun c_17 => ?_) (fun c_17 => ?_)
    · replace hd := ob_t c_17 hd
      refine lv_iconst (v := 0) hx hb dX5_isSign_24 (by decide) ?_
      obtain ⟨e1, e2⟩ := ob_pp hd
      subst e1
      subst e2
      exact ob_zret hx hb hr hlocks (by decide) hP hD hS dX5_isSign_25
    · replace hd := ob_f c_17 hd
      refine lv_iconst (v := 1) hx hb dX5_isSign_20 (by decide) ?_
      refine lv_goto (tgt := 25) hx hb dX5_isSign_21 (by decide) ?_
      obtain ⟨e1, e2⟩ := ob_pp hd
      subst e1
      subst e2
      exact ob_zret hx hb hr hlocks (by decide) hP hD hS dX5_isSign_25

def fd_X5_isNumber  (b : ob_B) (x1 : Int32) (x2 : Int32) : Option (Int32 × ob_B) := ob_b1 (fd_X5_nextToken b) (fun b_1 => if (b_1.1 8) = (-1) then (ob_b1 (fd_X5_in (b_1.1 9) x1 x2) (fun r_2 => if r_2 = 0 then (ob_b2 (fd_X5_fails b_1 2) (fun r_3 b_4 => if r_3 = 0 then (some (0, b_4)) else (some (1, b_4)))) else (some (1, b_1)))) else (ob_b2 (fd_X5_fails b_1 1) (fun r_5 b_6 => if ¬ (r_5 &&& 1 = r_5) then none else (some (r_5, b_6)))))
set_option maxHeartbeats 4000000 in
set_option maxRecDepth 100000 in
theorem mt_X5_isNumber (l : Launch) (dC : Nat → ClassId) (dI : Nat → Nat → Nat) (cI cZ cR cW : ClassId) (xs : Nat → Nat) (sz : Nat) (o_b : Nat) (a_b : Nat → Nat) (b : ob_B) (x1 : Int32) (x2 : Int32)  (rr : Int32) (b' : ob_B) (hd : fd_X5_isNumber b x1 x2 = some (rr, b')) : ob_M l yX5_isNumber wsX5_isNumber ({ frames := 2, cells := 0, slots := 0, locals := 43 } : Room) (dC, dI) (ob_ty cI cZ cR cW) xs [.ref o_b, .int x1, .int x2] (ob_w5 o_b a_b cI cZ b) sz (ob_Qi (dC, dI) rr (ob_w5 o_b a_b cI cZ b')) := by
  rw [fd_X5_isNumber] at hd
  refine ob_in (cc := cX5_isNumber) (maxL := 3) (ret := (some .boolean)) (own := RX5) (by decide) rfl rfl [(0, .ref o_b), (1, .int x1), (2, .int x2)] rfl (Nat.le_of_ble_eq_true rfl) ?_
  intro p e s m below meth c hx hb hr hml hown hts hlocks hnm hK A hA hE hP hD hS ls hl
  have kw0 := hts (.fieldLink RX5 87 "OathCoachModel" "token" "I") (by decide +kernel)
  have kw1 := hts (.fieldLink RX5 84 "OathCoachModel" "number" "I") (by decide +kernel)
  have hi_X5 : ∀ w ∈ u_ws RX5 TX5 23, w ∈ wsX5_isNumber := by decide +kernel
  refine lv_aload_n hx hb dX5_isNumber_0 rfl (lv_at hl 0 rfl) ?_
  obtain ⟨b_1, hc_1, hd⟩ := ob_s1 hd
  refine ob_Vv (isC := [0, 1, 2, 3, 4, 5, 6, 7, 8, 9, 10, 11, 12, 13]) (isR := []) (is2 := [0, 1, 2, 3, 4, 5, 6, 7, 8, 9, 10, 11, 12, 13]) (wc := (ob_w5 o_b a_b cI cZ b)) (wr := ([] : va_W)) (w1 := (ob_w5 o_b a_b cI cZ b_1)) (w2 := (ob_w5 o_b a_b cI cZ b_1)) (b := o_b) (As := []) (rest := []) ⟨hx, hb, hml, hown, hts⟩ (mt_X5_nextToken l dC dI cI cZ cR cW xs _ o_b a_b b b_1 hc_1) (cwV 0 hts gX5_isNumber_X5_nextToken rfl rfl rfl (by decide +kernel) ⟨Nat.le_of_ble_eq_true rfl, Nat.le_of_ble_eq_true rfl⟩) hK hE hP hD hS hA ⟨rfl, rfl, rfl, rfl, rfl, rfl, rfl⟩ 5 0 rfl rfl rfl hl rfl rfl (Nat.le_of_ble_eq_true rfl) ⟨Nat.le_of_ble_eq_true rfl, Nat.le_of_ble_eq_true rfl⟩ dX5_isNumber_1 (fun H locs hP hD hS => ?_)
  refine W.widen (k := 0) (n := 0) (Nat.le_refl _) (Nat.le_refl _) ?_
  refine lv_aload_n hx hb dX5_isNumber_4 rfl (lv_at hl 0 rfl) ?_
  refine va_get (D := (dC, dI)) (ci := 5) (v := .int (b_1.1 8)) (C := RX5) (T := TX5) (N := 23) hx hb hts hi_X5 hown hK hP 0 rfl rfl 8 (by decide) kw0 (fun _ h9 => h9) rfl dX5_isNumber_5 ?_
  refine lv_iconst (v := (-1)) hx hb dX5_isNumber_8 (by decide) ?_
  refine lv_icmp_eq (tgt := 18) hx hb dX5_isNumber_9 (by decide) (fun c_9 => ?_) (fun c_9 => ?_)
  · replace hd := ob_t c_9 hd
    refine lv_aload_n hx hb dX5_isNumber_18 rfl (lv_at hl 0 rfl) ?_
    refine va_get (D := (dC, dI)) (ci := 5) (v := .int (b_1.1 9)) (C := RX5) (T := TX5) (N := 23) hx hb hts hi_X5 hown hK hP 0 rfl rfl 9 (by decide) kw1 (fun _ h9 => h9) rfl dX5_isNumber_19 ?_
    refine lv_iload_n hx hb dX5_isNumber_22 rfl (lv_at hl 1 rfl) ?_
    refine lv_iload_n hx hb dX5_isNumber_23 rfl (lv_at hl 2 rfl) ?_
    obtain ⟨r_2, hc_24, hd⟩ := ob_s1 hd
    refine ob_Si (isC := []) (isR := [0, 1, 2, 3, 4, 5, 6, 7, 8, 9, 10, 11, 12, 13]) (is2 := [0, 1, 2, 3, 4, 5, 6, 7, 8, 9, 10, 11, 12, 13]) (wc := ([] : va_W)) (wr := (List.filterMap (fun i => (ob_w5 o_b a_b cI cZ b_1)[i]?) [0, 1, 2, 3, 4, 5, 6, 7, 8, 9, 10, 11, 12, 13])) (w1 := ([] : va_W)) (w2 := (ob_w5 o_b a_b cI cZ b_1)) (As := [.int (b_1.1 9), .int x1, .int x2]) (rest := []) ⟨hx, hb, hml, hown, hts⟩ (mt_X5_in l dC dI cI cZ cR cW xs _ (b_1.1 9) x1 x2 r_2 hc_24) (va_cwS 3 hts gX5_isNumber_X5_in rfl rfl rfl (by decide +kernel) ⟨Nat.le_of_ble_eq_true rfl, Nat.le_of_ble_eq_true rfl⟩) hK hE hP hD hS hA ⟨rfl, rfl, rfl, rfl, rfl, rfl, rfl⟩ hl rfl rfl (Nat.le_of_ble_eq_true rfl) ⟨Nat.le_of_ble_eq_true rfl, Nat.le_of_ble_eq_true rfl⟩ dX5_isNumber_24 (fun H locs hP hD hS => ?_)
    refine W.widen (k := 0) (n := 0) (Nat.le_refl _) (Nat.le_refl _) ?_
    refine lv_if_ne (tgt := 38) hx hb dX5_isNumber_27 (by decide) (fun c_27 => ?_) (fun c_27 => ?_)
    · replace hd := ob_f c_27 hd
      refine lv_iconst (v := 1) hx hb dX5_isNumber_38 (by decide) ?_
      refine lv_goto (tgt := 43) hx hb dX5_isNumber_39 (by decide) ?_
      obtain ⟨e1, e2⟩ := ob_pp hd
      subst e1
      subst e2
      exact ob_zret hx hb hr hlocks (by decide) hP hD hS dX5_isNumber_43
    · replace hd := ob_t c_27 hd
      refine lv_aload_n hx hb dX5_isNumber_30 rfl (lv_at hl 0 rfl) ?_
      refine lv_iconst (v := 2) hx hb dX5_isNumber_31 (by decide) ?_
      obtain ⟨r_3, b_4, hc_32, hd⟩ := ob_s2 hd
      refine ob_Vi (isC := [0, 1, 2, 3, 4, 5, 6, 7, 8, 9, 10, 11, 12, 13]) (isR := []) (is2 := [0, 1, 2, 3, 4, 5, 6, 7, 8, 9, 10, 11, 12, 13]) (wc := (ob_w5 o_b a_b cI cZ b_1)) (wr := ([] : va_W)) (w1 := (ob_w5 o_b a_b cI cZ b_4)) (w2 := (ob_w5 o_b a_b cI cZ b_4)) (b := o_b) (As := [.int 2]) (rest := []) ⟨hx, hb, hml, hown, hts⟩ (mt_X5_fails l dC dI cI cZ cR cW xs _ o_b a_b b_1 2 r_3 b_4 hc_32) (cwV 1 hts gX5_isNumber_X5_fails rfl rfl rfl (by decide +kernel) ⟨Nat.le_of_ble_eq_true rfl, Nat.le_of_ble_eq_true rfl⟩) hK hE hP hD hS hA ⟨rfl, rfl, rfl, rfl, rfl, rfl, rfl⟩ 5 0 rfl rfl rfl hl rfl rfl (Nat.le_of_ble_eq_true rfl) ⟨Nat.le_of_ble_eq_true rfl, Nat.le_of_ble_eq_true rfl⟩ dX5_isNumber_32 (fun H locs hP hD hS => ?_)
      refine W.widen (k := 0) (n := 0) (Nat.le_refl _) (Nat.le_refl _) ?_
      refine lv_if_eq (tgt := 42) hx hb dX5_isNumber_35 (by decide) (fun c_35 => ?_) (fun c_35 => ?_)
      · replace hd := ob_t c_35 hd
        refine lv_iconst (v := 0) hx hb dX5_isNumber_42 (by decide) ?_
        obtain ⟨e1, e2⟩ := ob_pp hd
        subst e1
        subst e2
        exact ob_zret hx hb hr hlocks (by decide) hP hD hS dX5_isNumber_43
      · replace hd := ob_f c_35 hd
        refine lv_iconst (v := 1) hx hb dX5_isNumber_38 (by decide) ?_
        refine lv_goto (tgt := 43) hx hb dX5_isNumber_39 (by decide) ?_
        obtain ⟨e1, e2⟩ := ob_pp hd
        subst e1
        subst e2
        exact ob_zret hx hb hr hlocks (by decide) hP hD hS dX5_isNumber_43
  · replace hd := ob_f c_9 hd
    refine lv_aload_n hx hb dX5_isNumber_12 rfl (lv_at hl 0 rfl) ?_
    refine lv_iconst (v := 1) hx hb dX5_isNumber_13 (by decide) ?_
    obtain ⟨r_5, b_6, hc_14, hd⟩ := ob_s2 hd
    refine ob_Vi (isC := [0, 1, 2, 3, 4, 5, 6, 7, 8, 9, 10, 11, 12, 13]) (isR := []) (is2 := [0, 1, 2, 3, 4, 5, 6, 7, 8, 9, 10, 11, 12, 13]) (wc := (ob_w5 o_b a_b cI cZ b_1)) (wr := ([] : va_W)) (w1 := (ob_w5 o_b a_b cI cZ b_6)) (w2 := (ob_w5 o_b a_b cI cZ b_6)) (b := o_b) (As := [.int 1]) (rest := []) ⟨hx, hb, hml, hown, hts⟩ (mt_X5_fails l dC dI cI cZ cR cW xs _ o_b a_b b_1 1 r_5 b_6 hc_14) (cwV 1 hts gX5_isNumber_X5_fails rfl rfl rfl (by decide +kernel) ⟨Nat.le_of_ble_eq_true rfl, Nat.le_of_ble_eq_true rfl⟩) hK hE hP hD hS hA ⟨rfl, rfl, rfl, rfl, rfl, rfl, rfl⟩ 5 0 rfl rfl rfl hl rfl rfl (Nat.le_of_ble_eq_true rfl) ⟨Nat.le_of_ble_eq_true rfl, Nat.le_of_ble_eq_true rfl⟩ dX5_isNumber_14 (fun H locs hP hD hS => ?_)
    refine W.widen (k := 0) (n := 0) (Nat.le_refl _) (Nat.le_refl _) ?_
    obtain ⟨hn, hd⟩ := ob_nn hd
    obtain ⟨e1, e2⟩ := ob_pp hd
    subst e1
    subst e2
    exact ob_zret hx hb hr hlocks (ob_nb hn) hP hD hS dX5_isNumber_17

def fd_X5_isLaw  (b : ob_B)  : Option (Int32 × ob_B) := ob_b2 (fd_X5_isSign b 99) (fun r_1 b_2 => if r_1 = 0 then (some (0, b_2)) else (ob_b2 (fd_X5_isNumber b_2 0 9) (fun r_3 b_4 => if r_3 = 0 then (some (0, b_4)) else (ob_lt (b_4.1 9 : Int32) (fun x_5 => ob_lt (ob_A b_4 13 (upd (b_4.2 13) (Int32.toNatClampNeg 0) x_5) : ob_B) (fun b_6 => ob_b2 (fd_X5_isSign b_6 44) (fun r_7 b_8 => if r_7 = 0 then (some (0, b_8)) else (ob_b2 (fd_X5_isNumber b_8 0 9) (fun r_9 b_10 => if r_9 = 0 then (some (0, b_10)) else (ob_lt (b_10.1 9 : Int32) (fun x_11 => ob_lt (ob_A b_10 13 (upd (b_10.2 13) (Int32.toNatClampNeg 1) x_11) : ob_B) (fun b_12 => ob_b2 (fd_X5_isSign b_12 59) (fun r_13 b_14 => if ¬ (r_13 &&& 1 = r_13) then none else (some (r_13, b_14)))))))))))))))
set_option maxHeartbeats 4000000 in
set_option maxRecDepth 100000 in
theorem mt_X5_isLaw (l : Launch) (dC : Nat → ClassId) (dI : Nat → Nat → Nat) (cI cZ cR cW : ClassId) (xs : Nat → Nat) (sz : Nat) (o_b : Nat) (a_b : Nat → Nat) (b : ob_B)   (rr : Int32) (b' : ob_B) (hd : fd_X5_isLaw b = some (rr, b')) : ob_M l yX5_isLaw wsX5_isLaw ({ frames := 3, cells := 0, slots := 0, locals := 65 } : Room) (dC, dI) (ob_ty cI cZ cR cW) xs [.ref o_b] (ob_w5 o_b a_b cI cZ b) sz (ob_Qi (dC, dI) rr (ob_w5 o_b a_b cI cZ b')) := by
  rw [fd_X5_isLaw] at hd
  refine ob_in (cc := cX5_isLaw) (maxL := 1) (ret := (some .boolean)) (own := RX5) (by decide) rfl rfl [(0, .ref o_b)] rfl (Nat.le_of_ble_eq_true rfl) ?_
  intro p e s m below meth c hx hb hr hml hown hts hlocks hnm hK A hA hE hP hD hS ls hl
  have kw0 := hts (.fieldLink RX5 25 "OathCoachModel" "read" "[I") (by decide +kernel)
  have kw1 := hts (.fieldLink RX5 84 "OathCoachModel" "number" "I") (by decide +kernel)
  have hi_X5 : ∀ w ∈ u_ws RX5 TX5 23, w ∈ wsX5_isLaw := by decide +kernel
  refine lv_aload_n hx hb dX5_isLaw_0 rfl (lv_at hl 0 rfl) ?_
  refine lv_bipush (v := 99) hx hb dX5_isLaw_1 (by decide) ?_
  obtain ⟨r_1, b_2, hc_3, hd⟩ := ob_s2 hd
  refine ob_Vi (isC := [0, 1, 2, 3, 4, 5, 6, 7, 8, 9, 10, 11, 12, 13]) (isR := []) (is2 := [0, 1, 2, 3, 4, 5, 6, 7, 8, 9, 10, 11, 12, 13]) (wc := (ob_w5 o_b a_b cI cZ b)) (wr := ([] : va_W)) (w1 := (ob_w5 o_b a_b cI cZ b_2)) (w2 := (ob_w5 o_b a_b cI cZ b_2)) (b := o_b) (As := [.int 99]) (rest := []) ⟨hx, hb, hml, hown, hts⟩ (mt_X5_isSign l dC dI cI cZ cR cW xs _ o_b a_b b 99 r_1 b_2 hc_3) (cwV 1 hts gX5_isLaw_X5_isSign rfl rfl rfl (by decide +kernel) ⟨Nat.le_of_ble_eq_true rfl, Nat.le_of_ble_eq_true rfl⟩) hK hE hP hD hS hA ⟨rfl, rfl, rfl, rfl, rfl, rfl, rfl⟩ 5 0 rfl rfl rfl hl rfl rfl (Nat.le_of_ble_eq_true rfl) ⟨Nat.le_of_ble_eq_true rfl, Nat.le_of_ble_eq_true rfl⟩ dX5_isLaw_3 (fun H locs hP hD hS => ?_)
  refine W.widen (k := 0) (n := 0) (Nat.le_refl _) (Nat.le_refl _) ?_
  refine lv_if_eq (tgt := 19) hx hb dX5_isLaw_6 (by decide) (fun c_6 => ?_) (fun c_6 => ?_)
  · replace hd := ob_t c_6 hd
    refine lv_iconst (v := 0) hx hb dX5_isLaw_19 (by decide) ?_
    obtain ⟨e1, e2⟩ := ob_pp hd
    subst e1
    subst e2
    exact ob_zret hx hb hr hlocks (by decide) hP hD hS dX5_isLaw_20
  · replace hd := ob_f c_6 hd
    refine lv_aload_n hx hb dX5_isLaw_9 rfl (lv_at hl 0 rfl) ?_
    refine lv_iconst (v := 0) hx hb dX5_isLaw_10 (by decide) ?_
    refine lv_bipush (v := 9) hx hb dX5_isLaw_11 (by decide) ?_
    obtain ⟨r_3, b_4, hc_13, hd⟩ := ob_s2 hd
    refine ob_Vi (isC := [0, 1, 2, 3, 4, 5, 6, 7, 8, 9, 10, 11, 12, 13]) (isR := []) (is2 := [0, 1, 2, 3, 4, 5, 6, 7, 8, 9, 10, 11, 12, 13]) (wc := (ob_w5 o_b a_b cI cZ b_2)) (wr := ([] : va_W)) (w1 := (ob_w5 o_b a_b cI cZ b_4)) (w2 := (ob_w5 o_b a_b cI cZ b_4)) (b := o_b) (As := [.int 0, .int 9]) (rest := []) ⟨hx, hb, hml, hown, hts⟩ (mt_X5_isNumber l dC dI cI cZ cR cW xs _ o_b a_b b_2 0 9 r_3 b_4 hc_13) (cwV 2 hts gX5_isLaw_X5_isNumber rfl rfl rfl (by decide +kernel) ⟨Nat.le_of_ble_eq_true rfl, Nat.le_of_ble_eq_true rfl⟩) hK hE hP hD hS hA ⟨rfl, rfl, rfl, rfl, rfl, rfl, rfl⟩ 5 0 rfl rfl rfl hl rfl rfl (Nat.le_of_ble_eq_true rfl) ⟨Nat.le_of_ble_eq_true rfl, Nat.le_of_ble_eq_true rfl⟩ dX5_isLaw_13 (fun H locs hP hD hS => ?_)
    refine W.widen (k := 0) (n := 0) (Nat.le_refl _) (Nat.le_refl _) ?_
    refine lv_if_ne (tgt := 21) hx hb dX5_isLaw_16 (by decide) (fun c_16 => ?_) (fun c_16 => ?_)
    · replace hd := ob_f c_16 hd
      refine lv_aload_n hx hb dX5_isLaw_21 rfl (lv_at hl 0 rfl) ?_
      refine va_get (D := (dC, dI)) (ci := 5) (v := .ref (a_b 13)) (C := RX5) (T := TX5) (N := 23) hx hb hts hi_X5 hown hK hP 0 rfl rfl 13 (by decide) kw0 (fun _ h9 => h9) rfl dX5_isLaw_22 ?_
      refine lv_iconst (v := 0) hx hb dX5_isLaw_25 (by decide) ?_
      refine lv_aload_n hx hb dX5_isLaw_26 rfl (lv_at hl 0 rfl) ?_
      refine va_get (D := (dC, dI)) (ci := 5) (v := .int (b_4.1 9)) (C := RX5) (T := TX5) (N := 23) hx hb hts hi_X5 hown hK hP 0 rfl rfl 9 (by decide) kw1 (fun _ h9 => h9) rfl dX5_isLaw_27 ?_
      refine lv_topi (fun x_5 ex_5 => ?_)
      replace hd := ob_lx ex_5 hd
      clear ex_5
      refine va_iast hx hb hK hP hD hS 6 0 rfl rfl (by unfold vp_in; decide) dX5_isLaw_30 (fun H locs hP hD hS => ?_)
      obtain ⟨b_6, eb_6⟩ : ∃ z : ob_B, z = ob_A b_4 13 (upd (b_4.2 13) (Int32.toNatClampNeg 0) x_5) := ⟨_, rfl⟩
      replace hd := ob_lx eb_6 hd
      replace hP : va_P (dC, dI) vwCl (ob_w5 o_b a_b cI cZ b_6) H := by rw [eb_6]; exact hP
      replace hD : va_D A (ob_w5 o_b a_b cI cZ b_6) := by rw [eb_6]; exact hD
      clear eb_6
      refine lv_aload_n hx hb dX5_isLaw_31 rfl (lv_at hl 0 rfl) ?_
      refine lv_bipush (v := 44) hx hb dX5_isLaw_32 (by decide) ?_
      obtain ⟨r_7, b_8, hc_34, hd⟩ := ob_s2 hd
      refine ob_Vi (isC := [0, 1, 2, 3, 4, 5, 6, 7, 8, 9, 10, 11, 12, 13]) (isR := []) (is2 := [0, 1, 2, 3, 4, 5, 6, 7, 8, 9, 10, 11, 12, 13]) (wc := (ob_w5 o_b a_b cI cZ b_6)) (wr := ([] : va_W)) (w1 := (ob_w5 o_b a_b cI cZ b_8)) (w2 := (ob_w5 o_b a_b cI cZ b_8)) (b := o_b) (As := [.int 44]) (rest := []) ⟨hx, hb, hml, hown, hts⟩ (mt_X5_isSign l dC dI cI cZ cR cW xs _ o_b a_b b_6 44 r_7 b_8 hc_34) (cwV 1 hts gX5_isLaw_X5_isSign rfl rfl rfl (by decide +kernel) ⟨Nat.le_of_ble_eq_true rfl, Nat.le_of_ble_eq_true rfl⟩) hK hE hP hD hS hA ⟨rfl, rfl, rfl, rfl, rfl, rfl, rfl⟩ 5 0 rfl rfl rfl hl rfl rfl (Nat.le_of_ble_eq_true rfl) ⟨Nat.le_of_ble_eq_true rfl, Nat.le_of_ble_eq_true rfl⟩ dX5_isLaw_34 (fun H locs hP hD hS => ?_)
      refine W.widen (k := 0) (n := 0) (Nat.le_refl _) (Nat.le_refl _) ?_
      refine lv_if_eq (tgt := 50) hx hb dX5_isLaw_37 (by decide) (fun c_37 => ?_) (fun c_37 => ?_)
      · replace hd := ob_t c_37 hd
        refine lv_iconst (v := 0) hx hb dX5_isLaw_50 (by decide) ?_
        obtain ⟨e1, e2⟩ := ob_pp hd
        subst e1
        subst e2
        exact ob_zret hx hb hr hlocks (by decide) hP hD hS dX5_isLaw_51
      · replace hd := ob_f c_37 hd
        refine lv_aload_n hx hb dX5_isLaw_40 rfl (lv_at hl 0 rfl) ?_
        refine lv_iconst (v := 0) hx hb dX5_isLaw_41 (by decide) ?_
        refine lv_bipush (v := 9) hx hb dX5_isLaw_42 (by decide) ?_
        obtain ⟨r_9, b_10, hc_44, hd⟩ := ob_s2 hd
        refine ob_Vi (isC := [0, 1, 2, 3, 4, 5, 6, 7, 8, 9, 10, 11, 12, 13]) (isR := []) (is2 := [0, 1, 2, 3, 4, 5, 6, 7, 8, 9, 10, 11, 12, 13]) (wc := (ob_w5 o_b a_b cI cZ b_8)) (wr := ([] : va_W)) (w1 := (ob_w5 o_b a_b cI cZ b_10)) (w2 := (ob_w5 o_b a_b cI cZ b_10)) (b := o_b) (As := [.int 0, .int 9]) (rest := []) ⟨hx, hb, hml, hown, hts⟩ (mt_X5_isNumber l dC dI cI cZ cR cW xs _ o_b a_b b_8 0 9 r_9 b_10 hc_44) (cwV 2 hts gX5_isLaw_X5_isNumber rfl rfl rfl (by decide +kernel) ⟨Nat.le_of_ble_eq_true rfl, Nat.le_of_ble_eq_true rfl⟩) hK hE hP hD hS hA ⟨rfl, rfl, rfl, rfl, rfl, rfl, rfl⟩ 5 0 rfl rfl rfl hl rfl rfl (Nat.le_of_ble_eq_true rfl) ⟨Nat.le_of_ble_eq_true rfl, Nat.le_of_ble_eq_true rfl⟩ dX5_isLaw_44 (fun H locs hP hD hS => ?_)
        refine W.widen (k := 0) (n := 0) (Nat.le_refl _) (Nat.le_refl _) ?_
        refine lv_if_ne (tgt := 52) hx hb dX5_isLaw_47 (by decide) (fun c_47 => ?_) (fun c_47 => ?_)
        · replace hd := ob_f c_47 hd
          refine lv_aload_n hx hb dX5_isLaw_52 rfl (lv_at hl 0 rfl) ?_
          refine va_get (D := (dC, dI)) (ci := 5) (v := .ref (a_b 13)) (C := RX5) (T := TX5) (N := 23) hx hb hts hi_X5 hown hK hP 0 rfl rfl 13 (by decide) kw0 (fun _ h9 => h9) rfl dX5_isLaw_53 ?_
          refine lv_iconst (v := 1) hx hb dX5_isLaw_56 (by decide) ?_
          refine lv_aload_n hx hb dX5_isLaw_57 rfl (lv_at hl 0 rfl) ?_
          refine va_get (D := (dC, dI)) (ci := 5) (v := .int (b_10.1 9)) (C := RX5) (T := TX5) (N := 23) hx hb hts hi_X5 hown hK hP 0 rfl rfl 9 (by decide) kw1 (fun _ h9 => h9) rfl dX5_isLaw_58 ?_
          refine lv_topi (fun x_11 ex_11 => ?_)
          replace hd := ob_lx ex_11 hd
          clear ex_11
          refine va_iast hx hb hK hP hD hS 6 0 rfl rfl (by unfold vp_in; decide) dX5_isLaw_61 (fun H locs hP hD hS => ?_)
          obtain ⟨b_12, eb_12⟩ : ∃ z : ob_B, z = ob_A b_10 13 (upd (b_10.2 13) (Int32.toNatClampNeg 1) x_11) := ⟨_, rfl⟩
          replace hd := ob_lx eb_12 hd
          replace hP : va_P (dC, dI) vwCl (ob_w5 o_b a_b cI cZ b_12) H := by rw [eb_12]; exact hP
          replace hD : va_D A (ob_w5 o_b a_b cI cZ b_12) := by rw [eb_12]; exact hD
          clear eb_12
          refine lv_aload_n hx hb dX5_isLaw_62 rfl (lv_at hl 0 rfl) ?_
          refine lv_bipush (v := 59) hx hb dX5_isLaw_63 (by decide) ?_
          obtain ⟨r_13, b_14, hc_65, hd⟩ := ob_s2 hd
          refine ob_Vi (isC := [0, 1, 2, 3, 4, 5, 6, 7, 8, 9, 10, 11, 12, 13]) (isR := []) (is2 := [0, 1, 2, 3, 4, 5, 6, 7, 8, 9, 10, 11, 12, 13]) (wc := (ob_w5 o_b a_b cI cZ b_12)) (wr := ([] : va_W)) (w1 := (ob_w5 o_b a_b cI cZ b_14)) (w2 := (ob_w5 o_b a_b cI cZ b_14)) (b := o_b) (As := [.int 59]) (rest := []) ⟨hx, hb, hml, hown, hts⟩ (mt_X5_isSign l dC dI cI cZ cR cW xs _ o_b a_b b_12 59 r_13 b_14 hc_65) (cwV 1 hts gX5_isLaw_X5_isSign rfl rfl rfl (by decide +kernel) ⟨Nat.le_of_ble_eq_true rfl, Nat.le_of_ble_eq_true rfl⟩) hK hE hP hD hS hA ⟨rfl, rfl, rfl, rfl, rfl, rfl, rfl⟩ 5 0 rfl rfl rfl hl rfl rfl (Nat.le_of_ble_eq_true rfl) ⟨Nat.le_of_ble_eq_true rfl, Nat.le_of_ble_eq_true rfl⟩ dX5_isLaw_65 (fun H locs hP hD hS => ?_)
          refine W.widen (k := 0) (n := 0) (Nat.le_refl _) (Nat.le_refl _) ?_
          obtain ⟨hn, hd⟩ := ob_nn hd
          obtain ⟨e1, e2⟩ := ob_pp hd
          subst e1
          subst e2
          exact ob_zret hx hb hr hlocks (ob_nb hn) hP hD hS dX5_isLaw_68
        · replace hd := ob_t c_47 hd
          refine lv_iconst (v := 0) hx hb dX5_isLaw_50 (by decide) ?_
          obtain ⟨e1, e2⟩ := ob_pp hd
          subst e1
          subst e2
          exact ob_zret hx hb hr hlocks (by decide) hP hD hS dX5_isLaw_51
    · replace hd := ob_t c_16 hd
      refine lv_iconst (v := 0) hx hb dX5_isLaw_19 (by decide) ?_
      obtain ⟨e1, e2⟩ := ob_pp hd
      subst e1
      subst e2
      exact ob_zret hx hb hr hlocks (by decide) hP hD hS dX5_isLaw_20

def fd_X5_isOath_L135 (k_60 : ob_B → Int32 → Int32 → Option (Int32 × ob_B)) (b : ob_B) (z2 : Int32) (z3 : Int32) (v0 : Int32) : Option (Int32 × ob_B) := ob_b2 (fd_X5_isSign b v0) (fun r_14 b_15 => if r_14 = 0 then (some (0, b_15)) else (ob_lt (z3 + 1 : Int32) (fun x_16 => k_60 b_15 z2 x_16)))
def fd_X5_isOath_L96 (k_60 : ob_B → Int32 → Int32 → Option (Int32 × ob_B)) (b : ob_B) (z2 : Int32) (z3 : Int32) (v0 : Int32) (v1 : Int32) : Option (Int32 × ob_B) := ob_b2 (fd_X5_isNumber b v1 v0) (fun r_10 b_11 => if r_10 = 0 then (some (0, b_11)) else (ob_lt (b_11.1 9 : Int32) (fun x_12 => if ((14 + (7 * z3)) + z2) < 0 ∨ 42 ≤ Int32.toNatClampNeg ((14 + (7 * z3)) + z2) then none else (ob_lt (ob_A b_11 13 (upd (b_11.2 13) (Int32.toNatClampNeg ((14 + (7 * z3)) + z2)) x_12) : ob_B) (fun b_13 => if z3 = 2 then (fd_X5_isOath_L135 k_60 b_13 z2 z3 59) else (fd_X5_isOath_L135 k_60 b_13 z2 z3 44))))))
def fd_X5_isOath_L75 (k_60 : ob_B → Int32 → Int32 → Option (Int32 × ob_B)) (b : ob_B) (z2 : Int32) (z3 : Int32) (v0 : Int32) : Option (Int32 × ob_B) := if z3 = 0 then (fd_X5_isOath_L96 k_60 b z2 z3 9 v0) else (if z3 = 1 then (fd_X5_isOath_L96 k_60 b z2 z3 20 v0) else (fd_X5_isOath_L96 k_60 b z2 z3 60 v0))
def fd_X5_isOath_L149  (b : ob_B)  : Option (Int32 × ob_B) := ob_lt (((b.2 13) (Int32.toNatClampNeg 2)) + 1 : Int32) (fun x_8 => ob_lt (ob_A b 13 (upd (b.2 13) (Int32.toNatClampNeg 2) x_8) : ob_B) (fun b_9 => some (1, b_9)))
def fd_X5_isOath_L60  : Nat → ob_B → Int32 → Int32 → Option (Int32 × ob_B)
  | 0, _, _, _ => none
  | fu + 1, b, z2, z3 => if 3 ≤ z3 then (fd_X5_isOath_L149 b) else (if z3 = 0 then (fd_X5_isOath_L75 (fd_X5_isOath_L60 fu) b z2 z3 0) else (fd_X5_isOath_L75 (fd_X5_isOath_L60 fu) b z2 z3 1))
def fd_X5_isOath_L18  (b : ob_B) (v0 : Int32) : Option (Int32 × ob_B) := if v0 = 0 then (ob_b2 (fd_X5_fails b 1) (fun r_6 b_7 => if ¬ (r_6 &&& 1 = r_6) then none else (some (r_6, b_7)))) else (ob_lt ((b.2 13) (Int32.toNatClampNeg 2) : Int32) (fun x_2 => if x_2 = 7 then (ob_b2 (fd_X5_fails b 3) (fun r_4 b_5 => if ¬ (r_4 &&& 1 = r_4) then none else (some (r_4, b_5)))) else (if (7 + x_2) < 0 ∨ 42 ≤ Int32.toNatClampNeg (7 + x_2) then none else (ob_lt (ob_A b 13 (upd (b.2 13) (Int32.toNatClampNeg (7 + x_2)) v0) : ob_B) (fun b_3 => fd_X5_isOath_L60 2000 b_3 x_2 0)))))
def fd_X5_isOath  (b : ob_B)  : Option (Int32 × ob_B) := if (b.1 8) ≤ 0 then (fd_X5_isOath_L18 b 0) else (ob_b1 (fd_X5_sortBy (b.1 8)) (fun r_1 => fd_X5_isOath_L18 b r_1))
set_option maxHeartbeats 4000000 in
set_option maxRecDepth 100000 in
theorem mt_X5_isOath (l : Launch) (dC : Nat → ClassId) (dI : Nat → Nat → Nat) (cI cZ cR cW : ClassId) (xs : Nat → Nat) (sz : Nat) (o_b : Nat) (a_b : Nat → Nat) (b : ob_B)   (rr : Int32) (b' : ob_B) (hd : fd_X5_isOath b = some (rr, b')) : ob_M l yX5_isOath wsX5_isOath ({ frames := 3, cells := 0, slots := 0, locals := 65 } : Room) (dC, dI) (ob_ty cI cZ cR cW) xs [.ref o_b] (ob_w5 o_b a_b cI cZ b) sz (ob_Qi (dC, dI) rr (ob_w5 o_b a_b cI cZ b')) := by
  rw [fd_X5_isOath] at hd
  refine ob_in (cc := cX5_isOath) (maxL := 4) (ret := (some .boolean)) (own := RX5) (by decide) rfl rfl [(0, .ref o_b)] rfl (Nat.le_of_ble_eq_true rfl) ?_
  intro p e s m below meth c hx hb hr hml hown hts hlocks hnm hK A hA hE hP hD hS ls hl
  have kw0 := hts (.fieldLink RX5 87 "OathCoachModel" "token" "I") (by decide +kernel)
  have kw1 := hts (.fieldLink RX5 25 "OathCoachModel" "read" "[I") (by decide +kernel)
  have kw2 := hts (.fieldLink RX5 84 "OathCoachModel" "number" "I") (by decide +kernel)
  have hi_X5 : ∀ w ∈ u_ws RX5 TX5 23, w ∈ wsX5_isOath := by decide +kernel
  have L135 : ∀ (k_60 : ob_B → Int32 → Int32 → Option (Int32 × ob_B)) (hk_60 : ∀ (H : Heap) (locs : List Loc) (b : ob_B) (z2 : Int32) (z3 : Int32) (ls : Array Slot), va_P (dC, dI) vwCl (ob_w5 o_b a_b cI cZ b) H → va_D A (ob_w5 o_b a_b cI cZ b) → va_S A s.heap H locs → lv_has ls 4 [(0, .ref o_b), (2, .int z2), (3, .int z3)] → k_60 b z2 z3 = some (rr, b') → W p l e ({ frames := 3, cells := 0, slots := 0, locals := 65 } : Room) s m (List.toArray [.ref o_b]) below meth c H locs 0 0 (MQ below ((ob_Qi (dC, dI) rr (ob_w5 o_b a_b cI cZ b')) A) (List.toArray [.ref o_b]) s 0 0 A) (F0 m 60 ls [])), ∀ (H : Heap) (locs : List Loc) (b : ob_B) (z2 : Int32) (z3 : Int32) (v0 : Int32) (ls : Array Slot), va_P (dC, dI) vwCl (ob_w5 o_b a_b cI cZ b) H → va_D A (ob_w5 o_b a_b cI cZ b) → va_S A s.heap H locs → lv_has ls 4 [(0, .ref o_b), (2, .int z2), (3, .int z3)] → fd_X5_isOath_L135 k_60 b z2 z3 v0 = some (rr, b') → W p l e ({ frames := 3, cells := 0, slots := 0, locals := 65 } : Room) s m (List.toArray [.ref o_b]) below meth c H locs 0 0 (MQ below ((ob_Qi (dC, dI) rr (ob_w5 o_b a_b cI cZ b')) A) (List.toArray [.ref o_b]) s 0 0 A) (F0 m 135 ls [.int v0, .ref o_b]) := by
    intro k_60 hk_60 H locs b z2 z3 v0 ls hP hD hS hl hd
    rw [fd_X5_isOath_L135] at hd
    obtain ⟨r_14, b_15, hc_135, hd⟩ := ob_s2 hd
    refine ob_Vi (isC := [0, 1, 2, 3, 4, 5, 6, 7, 8, 9, 10, 11, 12, 13]) (isR := []) (is2 := [0, 1, 2, 3, 4, 5, 6, 7, 8, 9, 10, 11, 12, 13]) (wc := (ob_w5 o_b a_b cI cZ b)) (wr := ([] : va_W)) (w1 := (ob_w5 o_b a_b cI cZ b_15)) (w2 := (ob_w5 o_b a_b cI cZ b_15)) (b := o_b) (As := [.int v0]) (rest := []) ⟨hx, hb, hml, hown, hts⟩ (mt_X5_isSign l dC dI cI cZ cR cW xs _ o_b a_b b v0 r_14 b_15 hc_135) (cwV 1 hts gX5_isOath_X5_isSign rfl rfl rfl (by decide +kernel) ⟨Nat.le_of_ble_eq_true rfl, Nat.le_of_ble_eq_true rfl⟩) hK hE hP hD hS hA ⟨rfl, rfl, rfl, rfl, rfl, rfl, rfl⟩ 5 0 rfl rfl rfl hl rfl rfl (Nat.le_of_ble_eq_true rfl) ⟨Nat.le_of_ble_eq_true rfl, Nat.le_of_ble_eq_true rfl⟩ dX5_isOath_135 (fun H locs hP hD hS => ?_)
    refine W.widen (k := 0) (n := 0) (Nat.le_refl _) (Nat.le_refl _) ?_
    refine lv_if_ne (tgt := 143) hx hb dX5_isOath_138 (by decide) (fun c_138 => ?_) (fun c_138 => ?_)
    · replace hd := ob_f c_138 hd
      obtain ⟨x_16, ex_16⟩ : ∃ z : Int32, z = z3 + 1 := ⟨_, rfl⟩
      replace hd := ob_lx ex_16 hd
      refine lv_iinc (v := x_16) (lv' := [(3, .int x_16), (0, .ref o_b), (2, .int z2)]) hx hb dX5_isOath_143 hl (k := 2) rfl (by rw [ex_16]; rfl) (by decide) rfl (fun ls hl => ?_)
      clear ex_16
      refine lv_goto (tgt := 60) hx hb dX5_isOath_146 (by decide) ?_
      exact hk_60 _ _ b_15 z2 x_16 _ hP hD hS (lv_sub hl [1, 2, 0] rfl) hd
    · replace hd := ob_t c_138 hd
      refine lv_iconst (v := 0) hx hb dX5_isOath_141 (by decide) ?_
      obtain ⟨e1, e2⟩ := ob_pp hd
      subst e1
      subst e2
      exact ob_zret hx hb hr hlocks (by decide) hP hD hS dX5_isOath_142
  have L96 : ∀ (k_60 : ob_B → Int32 → Int32 → Option (Int32 × ob_B)) (hk_60 : ∀ (H : Heap) (locs : List Loc) (b : ob_B) (z2 : Int32) (z3 : Int32) (ls : Array Slot), va_P (dC, dI) vwCl (ob_w5 o_b a_b cI cZ b) H → va_D A (ob_w5 o_b a_b cI cZ b) → va_S A s.heap H locs → lv_has ls 4 [(0, .ref o_b), (2, .int z2), (3, .int z3)] → k_60 b z2 z3 = some (rr, b') → W p l e ({ frames := 3, cells := 0, slots := 0, locals := 65 } : Room) s m (List.toArray [.ref o_b]) below meth c H locs 0 0 (MQ below ((ob_Qi (dC, dI) rr (ob_w5 o_b a_b cI cZ b')) A) (List.toArray [.ref o_b]) s 0 0 A) (F0 m 60 ls [])), ∀ (H : Heap) (locs : List Loc) (b : ob_B) (z2 : Int32) (z3 : Int32) (v0 : Int32) (v1 : Int32) (ls : Array Slot), va_P (dC, dI) vwCl (ob_w5 o_b a_b cI cZ b) H → va_D A (ob_w5 o_b a_b cI cZ b) → va_S A s.heap H locs → lv_has ls 4 [(0, .ref o_b), (2, .int z2), (3, .int z3)] → fd_X5_isOath_L96 k_60 b z2 z3 v0 v1 = some (rr, b') → W p l e ({ frames := 3, cells := 0, slots := 0, locals := 65 } : Room) s m (List.toArray [.ref o_b]) below meth c H locs 0 0 (MQ below ((ob_Qi (dC, dI) rr (ob_w5 o_b a_b cI cZ b')) A) (List.toArray [.ref o_b]) s 0 0 A) (F0 m 96 ls [.int v0, .int v1, .ref o_b]) := by
    intro k_60 hk_60 H locs b z2 z3 v0 v1 ls hP hD hS hl hd
    rw [fd_X5_isOath_L96] at hd
    obtain ⟨r_10, b_11, hc_96, hd⟩ := ob_s2 hd
    refine ob_Vi (isC := [0, 1, 2, 3, 4, 5, 6, 7, 8, 9, 10, 11, 12, 13]) (isR := []) (is2 := [0, 1, 2, 3, 4, 5, 6, 7, 8, 9, 10, 11, 12, 13]) (wc := (ob_w5 o_b a_b cI cZ b)) (wr := ([] : va_W)) (w1 := (ob_w5 o_b a_b cI cZ b_11)) (w2 := (ob_w5 o_b a_b cI cZ b_11)) (b := o_b) (As := [.int v1, .int v0]) (rest := []) ⟨hx, hb, hml, hown, hts⟩ (mt_X5_isNumber l dC dI cI cZ cR cW xs _ o_b a_b b v1 v0 r_10 b_11 hc_96) (cwV 2 hts gX5_isOath_X5_isNumber rfl rfl rfl (by decide +kernel) ⟨Nat.le_of_ble_eq_true rfl, Nat.le_of_ble_eq_true rfl⟩) hK hE hP hD hS hA ⟨rfl, rfl, rfl, rfl, rfl, rfl, rfl⟩ 5 0 rfl rfl rfl hl rfl rfl (Nat.le_of_ble_eq_true rfl) ⟨Nat.le_of_ble_eq_true rfl, Nat.le_of_ble_eq_true rfl⟩ dX5_isOath_96 (fun H locs hP hD hS => ?_)
    refine W.widen (k := 0) (n := 0) (Nat.le_refl _) (Nat.le_refl _) ?_
    refine lv_if_ne (tgt := 104) hx hb dX5_isOath_99 (by decide) (fun c_99 => ?_) (fun c_99 => ?_)
    · replace hd := ob_f c_99 hd
      refine lv_aload_n hx hb dX5_isOath_104 rfl (lv_at hl 0 rfl) ?_
      refine va_get (D := (dC, dI)) (ci := 5) (v := .ref (a_b 13)) (C := RX5) (T := TX5) (N := 23) hx hb hts hi_X5 hown hK hP 0 rfl rfl 13 (by decide) kw1 (fun _ h9 => h9) rfl dX5_isOath_105 ?_
      refine lv_bipush (v := 14) hx hb dX5_isOath_108 (by decide) ?_
      refine lv_bipush (v := 7) hx hb dX5_isOath_110 (by decide) ?_
      refine lv_iload_n hx hb dX5_isOath_112 rfl (lv_at hl 2 rfl) ?_
      refine lv_imul hx hb dX5_isOath_113 ?_
      refine lv_iadd hx hb dX5_isOath_114 ?_
      refine lv_iload_n hx hb dX5_isOath_115 rfl (lv_at hl 1 rfl) ?_
      refine lv_iadd hx hb dX5_isOath_116 ?_
      refine lv_aload_n hx hb dX5_isOath_117 rfl (lv_at hl 0 rfl) ?_
      refine va_get (D := (dC, dI)) (ci := 5) (v := .int (b_11.1 9)) (C := RX5) (T := TX5) (N := 23) hx hb hts hi_X5 hown hK hP 0 rfl rfl 9 (by decide) kw2 (fun _ h9 => h9) rfl dX5_isOath_118 ?_
      refine lv_topi (fun x_12 ex_12 => ?_)
      replace hd := ob_lx ex_12 hd
      clear ex_12
      obtain ⟨h1_121, hd⟩ := ob_nn hd
      refine va_iast hx hb hK hP hD hS 6 0 rfl rfl h1_121 dX5_isOath_121 (fun H locs hP hD hS => ?_)
      obtain ⟨b_13, eb_13⟩ : ∃ z : ob_B, z = ob_A b_11 13 (upd (b_11.2 13) (Int32.toNatClampNeg ((14 + (7 * z3)) + z2)) x_12) := ⟨_, rfl⟩
      replace hd := ob_lx eb_13 hd
      replace hP : va_P (dC, dI) vwCl (ob_w5 o_b a_b cI cZ b_13) H := by rw [eb_13]; exact hP
      replace hD : va_D A (ob_w5 o_b a_b cI cZ b_13) := by rw [eb_13]; exact hD
      clear eb_13
      refine lv_aload_n hx hb dX5_isOath_122 rfl (lv_at hl 0 rfl) ?_
      refine lv_iload_n hx hb dX5_isOath_123 rfl (lv_at hl 2 rfl) ?_
      refine lv_iconst (v := 2) hx hb dX5_isOath_124 (by decide) ?_
      refine lv_icmp_ne (tgt := 133) hx hb dX5_isOath_125 (by decide) (fun c_125 => ?_) (fun c_125 => ?_)
      · replace hd := ob_f c_125 hd
        refine lv_bipush (v := 44) hx hb dX5_isOath_133 (by decide) ?_
        exact L135 k_60 hk_60  _ _ b_13 z2 z3 44 _ hP hD hS (lv_sub hl [0, 1, 2] rfl) hd
      · replace hd := ob_t c_125 hd
        refine lv_bipush (v := 59) hx hb dX5_isOath_128 (by decide) ?_
        refine lv_goto (tgt := 135) hx hb dX5_isOath_130 (by decide) ?_
        exact L135 k_60 hk_60  _ _ b_13 z2 z3 59 _ hP hD hS (lv_sub hl [0, 1, 2] rfl) hd
    · replace hd := ob_t c_99 hd
      refine lv_iconst (v := 0) hx hb dX5_isOath_102 (by decide) ?_
      obtain ⟨e1, e2⟩ := ob_pp hd
      subst e1
      subst e2
      exact ob_zret hx hb hr hlocks (by decide) hP hD hS dX5_isOath_103
  have L75 : ∀ (k_60 : ob_B → Int32 → Int32 → Option (Int32 × ob_B)) (hk_60 : ∀ (H : Heap) (locs : List Loc) (b : ob_B) (z2 : Int32) (z3 : Int32) (ls : Array Slot), va_P (dC, dI) vwCl (ob_w5 o_b a_b cI cZ b) H → va_D A (ob_w5 o_b a_b cI cZ b) → va_S A s.heap H locs → lv_has ls 4 [(0, .ref o_b), (2, .int z2), (3, .int z3)] → k_60 b z2 z3 = some (rr, b') → W p l e ({ frames := 3, cells := 0, slots := 0, locals := 65 } : Room) s m (List.toArray [.ref o_b]) below meth c H locs 0 0 (MQ below ((ob_Qi (dC, dI) rr (ob_w5 o_b a_b cI cZ b')) A) (List.toArray [.ref o_b]) s 0 0 A) (F0 m 60 ls [])), ∀ (H : Heap) (locs : List Loc) (b : ob_B) (z2 : Int32) (z3 : Int32) (v0 : Int32) (ls : Array Slot), va_P (dC, dI) vwCl (ob_w5 o_b a_b cI cZ b) H → va_D A (ob_w5 o_b a_b cI cZ b) → va_S A s.heap H locs → lv_has ls 4 [(0, .ref o_b), (2, .int z2), (3, .int z3)] → fd_X5_isOath_L75 k_60 b z2 z3 v0 = some (rr, b') → W p l e ({ frames := 3, cells := 0, slots := 0, locals := 65 } : Room) s m (List.toArray [.ref o_b]) below meth c H locs 0 0 (MQ below ((ob_Qi (dC, dI) rr (ob_w5 o_b a_b cI cZ b')) A) (List.toArray [.ref o_b]) s 0 0 A) (F0 m 75 ls [.int v0, .ref o_b]) := by
    intro k_60 hk_60 H locs b z2 z3 v0 ls hP hD hS hl hd
    rw [fd_X5_isOath_L75] at hd
    refine lv_iload_n hx hb dX5_isOath_75 rfl (lv_at hl 2 rfl) ?_
    refine lv_if_ne (tgt := 84) hx hb dX5_isOath_76 (by decide) (fun c_76 => ?_) (fun c_76 => ?_)
    · replace hd := ob_f c_76 hd
      refine lv_iload_n hx hb dX5_isOath_84 rfl (lv_at hl 2 rfl) ?_
      refine lv_iconst (v := 1) hx hb dX5_isOath_85 (by decide) ?_
      refine lv_icmp_ne (tgt := 94) hx hb dX5_isOath_86 (by decide) (fun c_86 => ?_) (fun c_86 => ?_)
      · replace hd := ob_f c_86 hd
        refine lv_bipush (v := 60) hx hb dX5_isOath_94 (by decide) ?_
        exact L96 k_60 hk_60  _ _ b z2 z3 60 v0 _ hP hD hS (lv_sub hl [0, 1, 2] rfl) hd
      · replace hd := ob_t c_86 hd
        refine lv_bipush (v := 20) hx hb dX5_isOath_89 (by decide) ?_
        refine lv_goto (tgt := 96) hx hb dX5_isOath_91 (by decide) ?_
        exact L96 k_60 hk_60  _ _ b z2 z3 20 v0 _ hP hD hS (lv_sub hl [0, 1, 2] rfl) hd
    · replace hd := ob_t c_76 hd
      refine lv_bipush (v := 9) hx hb dX5_isOath_79 (by decide) ?_
      refine lv_goto (tgt := 96) hx hb dX5_isOath_81 (by decide) ?_
      exact L96 k_60 hk_60  _ _ b z2 z3 9 v0 _ hP hD hS (lv_sub hl [0, 1, 2] rfl) hd
  have L149 : ∀ (H : Heap) (locs : List Loc) (b : ob_B)  (ls : Array Slot), va_P (dC, dI) vwCl (ob_w5 o_b a_b cI cZ b) H → va_D A (ob_w5 o_b a_b cI cZ b) → va_S A s.heap H locs → lv_has ls 4 [(0, .ref o_b)] → fd_X5_isOath_L149 b = some (rr, b') → W p l e ({ frames := 3, cells := 0, slots := 0, locals := 65 } : Room) s m (List.toArray [.ref o_b]) below meth c H locs 0 0 (MQ below ((ob_Qi (dC, dI) rr (ob_w5 o_b a_b cI cZ b')) A) (List.toArray [.ref o_b]) s 0 0 A) (F0 m 149 ls []) := by
    intro  H locs b ls hP hD hS hl hd
    rw [fd_X5_isOath_L149] at hd
    refine lv_aload_n hx hb dX5_isOath_149 rfl (lv_at hl 0 rfl) ?_
    refine va_get (D := (dC, dI)) (ci := 5) (v := .ref (a_b 13)) (C := RX5) (T := TX5) (N := 23) hx hb hts hi_X5 hown hK hP 0 rfl rfl 13 (by decide) kw1 (fun _ h9 => h9) rfl dX5_isOath_150 ?_
    refine lv_iconst (v := 2) hx hb dX5_isOath_153 (by decide) ?_
    refine lv_dup2_11 hx hb dX5_isOath_154 rfl rfl ?_
    refine va_iald hx hb hK hP 6 0 rfl rfl (by unfold vp_in; decide) dX5_isOath_155 ?_
    refine lv_iconst (v := 1) hx hb dX5_isOath_156 (by decide) ?_
    refine lv_iadd hx hb dX5_isOath_157 ?_
    refine lv_topi (fun x_8 ex_8 => ?_)
    replace hd := ob_lx ex_8 hd
    clear ex_8
    refine va_iast hx hb hK hP hD hS 6 0 rfl rfl (by unfold vp_in; decide) dX5_isOath_158 (fun H locs hP hD hS => ?_)
    obtain ⟨b_9, eb_9⟩ : ∃ z : ob_B, z = ob_A b 13 (upd (b.2 13) (Int32.toNatClampNeg 2) x_8) := ⟨_, rfl⟩
    replace hd := ob_lx eb_9 hd
    replace hP : va_P (dC, dI) vwCl (ob_w5 o_b a_b cI cZ b_9) H := by rw [eb_9]; exact hP
    replace hD : va_D A (ob_w5 o_b a_b cI cZ b_9) := by rw [eb_9]; exact hD
    clear eb_9
    refine lv_iconst (v := 1) hx hb dX5_isOath_159 (by decide) ?_
    obtain ⟨e1, e2⟩ := ob_pp hd
    subst e1
    subst e2
    exact ob_zret hx hb hr hlocks (by decide) hP hD hS dX5_isOath_160
  have L60 : ∀  (fu : Nat), ∀ (H : Heap) (locs : List Loc) (b : ob_B) (z2 : Int32) (z3 : Int32) (ls : Array Slot), va_P (dC, dI) vwCl (ob_w5 o_b a_b cI cZ b) H → va_D A (ob_w5 o_b a_b cI cZ b) → va_S A s.heap H locs → lv_has ls 4 [(0, .ref o_b), (2, .int z2), (3, .int z3)] → fd_X5_isOath_L60 fu b z2 z3 = some (rr, b') → W p l e ({ frames := 3, cells := 0, slots := 0, locals := 65 } : Room) s m (List.toArray [.ref o_b]) below meth c H locs 0 0 (MQ below ((ob_Qi (dC, dI) rr (ob_w5 o_b a_b cI cZ b')) A) (List.toArray [.ref o_b]) s 0 0 A) (F0 m 60 ls []) := by
    intro  fu
    induction fu with
    | zero =>
      intro H locs b z2 z3 ls hP hD hS hl hd
      rw [fd_X5_isOath_L60] at hd
      cases hd
    | succ fu ih =>
      intro H locs b z2 z3 ls hP hD hS hl hd
      rw [fd_X5_isOath_L60] at hd
      refine lv_iload_n hx hb dX5_isOath_60 rfl (lv_at hl 2 rfl) ?_
      refine lv_iconst (v := 3) hx hb dX5_isOath_61 (by decide) ?_
      refine lv_icmp_ge (tgt := 149) hx hb dX5_isOath_62 (by decide) (fun c_62 => ?_) (fun c_62 => ?_)
      · replace hd := ob_t c_62 hd
        exact L149   _ _ b _ hP hD hS (lv_sub hl [0] rfl) hd
      · replace hd := ob_f c_62 hd
        refine lv_aload_n hx hb dX5_isOath_65 rfl (lv_at hl 0 rfl) ?_
        refine lv_iload_n hx hb dX5_isOath_66 rfl (lv_at hl 2 rfl) ?_
        refine lv_if_ne (tgt := 74) hx hb dX5_isOath_67 (by decide) (fun c_67 => ?_) (fun c_67 => ?_)
        · replace hd := ob_f c_67 hd
          refine lv_iconst (v := 1) hx hb dX5_isOath_74 (by decide) ?_
          exact L75 (fd_X5_isOath_L60 fu) ih  _ _ b z2 z3 1 _ hP hD hS (lv_sub hl [0, 1, 2] rfl) hd
        · replace hd := ob_t c_67 hd
          refine lv_iconst (v := 0) hx hb dX5_isOath_70 (by decide) ?_
          refine lv_goto (tgt := 75) hx hb dX5_isOath_71 (by decide) ?_
          exact L75 (fd_X5_isOath_L60 fu) ih  _ _ b z2 z3 0 _ hP hD hS (lv_sub hl [0, 1, 2] rfl) hd
  have L18 : ∀ (H : Heap) (locs : List Loc) (b : ob_B) (v0 : Int32) (ls : Array Slot), va_P (dC, dI) vwCl (ob_w5 o_b a_b cI cZ b) H → va_D A (ob_w5 o_b a_b cI cZ b) → va_S A s.heap H locs → lv_has ls 4 [(0, .ref o_b)] → fd_X5_isOath_L18 b v0 = some (rr, b') → W p l e ({ frames := 3, cells := 0, slots := 0, locals := 65 } : Room) s m (List.toArray [.ref o_b]) below meth c H locs 0 0 (MQ below ((ob_Qi (dC, dI) rr (ob_w5 o_b a_b cI cZ b')) A) (List.toArray [.ref o_b]) s 0 0 A) (F0 m 18 ls [.int v0]) := by
    intro  H locs b v0 ls hP hD hS hl hd
    rw [fd_X5_isOath_L18] at hd
    refine lv_istore_n (lv' := [(1, .int v0), (0, .ref o_b)]) hx hb dX5_isOath_18 rfl hl (by decide) rfl (fun ls hl => ?_)
    refine lv_iload_n hx hb dX5_isOath_19 rfl (lv_at hl 0 rfl) ?_
    refine lv_if_ne (tgt := 29) hx hb dX5_isOath_20 (by decide) (fun c_20 => ?_) (fun c_20 => ?_)
    · replace hd := ob_f c_20 hd
      refine lv_aload_n hx hb dX5_isOath_29 rfl (lv_at hl 1 rfl) ?_
      refine va_get (D := (dC, dI)) (ci := 5) (v := .ref (a_b 13)) (C := RX5) (T := TX5) (N := 23) hx hb hts hi_X5 hown hK hP 0 rfl rfl 13 (by decide) kw1 (fun _ h9 => h9) rfl dX5_isOath_30 ?_
      refine lv_iconst (v := 2) hx hb dX5_isOath_33 (by decide) ?_
      refine va_iald hx hb hK hP 6 0 rfl rfl (by unfold vp_in; decide) dX5_isOath_34 ?_
      refine lv_topi (fun x_2 ex_2 => ?_)
      replace hd := ob_lx ex_2 hd
      clear ex_2
      refine lv_istore_n (lv' := [(2, .int x_2), (1, .int v0), (0, .ref o_b)]) hx hb dX5_isOath_35 rfl hl (by decide) rfl (fun ls hl => ?_)
      refine lv_iload_n hx hb dX5_isOath_36 rfl (lv_at hl 0 rfl) ?_
      refine lv_bipush (v := 7) hx hb dX5_isOath_37 (by decide) ?_
      refine lv_icmp_ne (tgt := 48) hx hb dX5_isOath_39 (by decide) (fun c_39 => ?_) (fun c_39 => ?_)
      · replace hd := ob_f c_39 hd
        refine lv_aload_n hx hb dX5_isOath_48 rfl (lv_at hl 2 rfl) ?_
        refine va_get (D := (dC, dI)) (ci := 5) (v := .ref (a_b 13)) (C := RX5) (T := TX5) (N := 23) hx hb hts hi_X5 hown hK hP 0 rfl rfl 13 (by decide) kw1 (fun _ h9 => h9) rfl dX5_isOath_49 ?_
        refine lv_bipush (v := 7) hx hb dX5_isOath_52 (by decide) ?_
        refine lv_iload_n hx hb dX5_isOath_54 rfl (lv_at hl 0 rfl) ?_
        refine lv_iadd hx hb dX5_isOath_55 ?_
        refine lv_iload_n hx hb dX5_isOath_56 rfl (lv_at hl 1 rfl) ?_
        obtain ⟨h1_57, hd⟩ := ob_nn hd
        refine va_iast hx hb hK hP hD hS 6 0 rfl rfl h1_57 dX5_isOath_57 (fun H locs hP hD hS => ?_)
        obtain ⟨b_3, eb_3⟩ : ∃ z : ob_B, z = ob_A b 13 (upd (b.2 13) (Int32.toNatClampNeg (7 + x_2)) v0) := ⟨_, rfl⟩
        replace hd := ob_lx eb_3 hd
        replace hP : va_P (dC, dI) vwCl (ob_w5 o_b a_b cI cZ b_3) H := by rw [eb_3]; exact hP
        replace hD : va_D A (ob_w5 o_b a_b cI cZ b_3) := by rw [eb_3]; exact hD
        clear eb_3
        refine lv_iconst (v := 0) hx hb dX5_isOath_58 (by decide) ?_
        refine lv_istore_n (lv' := [(3, .int 0), (2, .int x_2), (1, .int v0), (0, .ref o_b)]) hx hb dX5_isOath_59 rfl hl (by decide) rfl (fun ls hl => ?_)
        exact L60  2000 _ _ b_3 x_2 0 _ hP hD hS (lv_sub hl [3, 1, 0] rfl) hd
      · replace hd := ob_t c_39 hd
        refine lv_aload_n hx hb dX5_isOath_42 rfl (lv_at hl 2 rfl) ?_
        refine lv_iconst (v := 3) hx hb dX5_isOath_43 (by decide) ?_
        obtain ⟨r_4, b_5, hc_44, hd⟩ := ob_s2 hd
        refine ob_Vi (isC := [0, 1, 2, 3, 4, 5, 6, 7, 8, 9, 10, 11, 12, 13]) (isR := []) (is2 := [0, 1, 2, 3, 4, 5, 6, 7, 8, 9, 10, 11, 12, 13]) (wc := (ob_w5 o_b a_b cI cZ b)) (wr := ([] : va_W)) (w1 := (ob_w5 o_b a_b cI cZ b_5)) (w2 := (ob_w5 o_b a_b cI cZ b_5)) (b := o_b) (As := [.int 3]) (rest := []) ⟨hx, hb, hml, hown, hts⟩ (mt_X5_fails l dC dI cI cZ cR cW xs _ o_b a_b b 3 r_4 b_5 hc_44) (cwV 1 hts gX5_isOath_X5_fails rfl rfl rfl (by decide +kernel) ⟨Nat.le_of_ble_eq_true rfl, Nat.le_of_ble_eq_true rfl⟩) hK hE hP hD hS hA ⟨rfl, rfl, rfl, rfl, rfl, rfl, rfl⟩ 5 0 rfl rfl rfl hl rfl rfl (Nat.le_of_ble_eq_true rfl) ⟨Nat.le_of_ble_eq_true rfl, Nat.le_of_ble_eq_true rfl⟩ dX5_isOath_44 (fun H locs hP hD hS => ?_)
        refine W.widen (k := 0) (n := 0) (Nat.le_refl _) (Nat.le_refl _) ?_
        obtain ⟨hn, hd⟩ := ob_nn hd
        obtain ⟨e1, e2⟩ := ob_pp hd
        subst e1
        subst e2
        exact ob_zret hx hb hr hlocks (ob_nb hn) hP hD hS dX5_isOath_47
    · replace hd := ob_t c_20 hd
      refine lv_aload_n hx hb dX5_isOath_23 rfl (lv_at hl 1 rfl) ?_
      refine lv_iconst (v := 1) hx hb dX5_isOath_24 (by decide) ?_
      obtain ⟨r_6, b_7, hc_25, hd⟩ := ob_s2 hd
      refine ob_Vi (isC := [0, 1, 2, 3, 4, 5, 6, 7, 8, 9, 10, 11, 12, 13]) (isR := []) (is2 := [0, 1, 2, 3, 4, 5, 6, 7, 8, 9, 10, 11, 12, 13]) (wc := (ob_w5 o_b a_b cI cZ b)) (wr := ([] : va_W)) (w1 := (ob_w5 o_b a_b cI cZ b_7)) (w2 := (ob_w5 o_b a_b cI cZ b_7)) (b := o_b) (As := [.int 1]) (rest := []) ⟨hx, hb, hml, hown, hts⟩ (mt_X5_fails l dC dI cI cZ cR cW xs _ o_b a_b b 1 r_6 b_7 hc_25) (cwV 1 hts gX5_isOath_X5_fails rfl rfl rfl (by decide +kernel) ⟨Nat.le_of_ble_eq_true rfl, Nat.le_of_ble_eq_true rfl⟩) hK hE hP hD hS hA ⟨rfl, rfl, rfl, rfl, rfl, rfl, rfl⟩ 5 0 rfl rfl rfl hl rfl rfl (Nat.le_of_ble_eq_true rfl) ⟨Nat.le_of_ble_eq_true rfl, Nat.le_of_ble_eq_true rfl⟩ dX5_isOath_25 (fun H locs hP hD hS => ?_)
      refine W.widen (k := 0) (n := 0) (Nat.le_refl _) (Nat.le_refl _) ?_
      obtain ⟨hn, hd⟩ := ob_nn hd
      obtain ⟨e1, e2⟩ := ob_pp hd
      subst e1
      subst e2
      exact ob_zret hx hb hr hlocks (ob_nb hn) hP hD hS dX5_isOath_28
  refine lv_aload_n hx hb dX5_isOath_0 rfl (lv_at hl 0 rfl) ?_
  refine va_get (D := (dC, dI)) (ci := 5) (v := .int (b.1 8)) (C := RX5) (T := TX5) (N := 23) hx hb hts hi_X5 hown hK hP 0 rfl rfl 8 (by decide) kw0 (fun _ h9 => h9) rfl dX5_isOath_1 ?_
  refine lv_if_le (tgt := 17) hx hb dX5_isOath_4 (by decide) (fun c_4 => ?_) (fun c_4 => ?_)
  · replace hd := ob_t c_4 hd
    refine lv_iconst (v := 0) hx hb dX5_isOath_17 (by decide) ?_
    exact L18   _ _ b 0 _ hP hD hS (lv_sub hl [0] rfl) hd
  · replace hd := ob_f c_4 hd
    refine lv_aload_n hx hb dX5_isOath_7 rfl (lv_at hl 0 rfl) ?_
    refine va_get (D := (dC, dI)) (ci := 5) (v := .int (b.1 8)) (C := RX5) (T := TX5) (N := 23) hx hb hts hi_X5 hown hK hP 0 rfl rfl 8 (by decide) kw0 (fun _ h9 => h9) rfl dX5_isOath_8 ?_
    obtain ⟨r_1, hc_11, hd⟩ := ob_s1 hd
    refine ob_Si (isC := []) (isR := [0, 1, 2, 3, 4, 5, 6, 7, 8, 9, 10, 11, 12, 13]) (is2 := [0, 1, 2, 3, 4, 5, 6, 7, 8, 9, 10, 11, 12, 13]) (wc := ([] : va_W)) (wr := (List.filterMap (fun i => (ob_w5 o_b a_b cI cZ b)[i]?) [0, 1, 2, 3, 4, 5, 6, 7, 8, 9, 10, 11, 12, 13])) (w1 := ([] : va_W)) (w2 := (ob_w5 o_b a_b cI cZ b)) (As := [.int (b.1 8)]) (rest := []) ⟨hx, hb, hml, hown, hts⟩ (mt_X5_sortBy l dC dI cI cZ cR cW xs _ (b.1 8) r_1 hc_11) (va_cwS 1 hts gX5_isOath_X5_sortBy rfl rfl rfl (by decide +kernel) ⟨Nat.le_of_ble_eq_true rfl, Nat.le_of_ble_eq_true rfl⟩) hK hE hP hD hS hA ⟨rfl, rfl, rfl, rfl, rfl, rfl, rfl⟩ hl rfl rfl (Nat.le_of_ble_eq_true rfl) ⟨Nat.le_of_ble_eq_true rfl, Nat.le_of_ble_eq_true rfl⟩ dX5_isOath_11 (fun H locs hP hD hS => ?_)
    refine W.widen (k := 0) (n := 0) (Nat.le_refl _) (Nat.le_refl _) ?_
    refine lv_goto (tgt := 18) hx hb dX5_isOath_14 (by decide) ?_
    exact L18   _ _ b r_1 _ hP hD hS (lv_sub hl [0] rfl) hd

def fd_X5_isRead_L57 (k_39 : ob_B → Option (Int32 × ob_B)) (b : ob_B)  : Option (Int32 × ob_B) := ob_b2 (fd_X5_isOath b) (fun r_7 b_8 => if r_7 = 0 then (some (0, b_8)) else (ob_b1 (fd_X5_nextToken b_8) (fun b_9 => k_39 b_9)))
def fd_X5_isRead_L39  : Nat → ob_B → Option (Int32 × ob_B)
  | 0, _ => none
  | fu + 1, b => if (b.1 8) = (-2) then (if ((b.2 13) (Int32.toNatClampNeg 2)) = 0 then (fd_X5_isRead_L57 (fd_X5_isRead_L39 fu) b) else (some (1, b))) else (fd_X5_isRead_L57 (fd_X5_isRead_L39 fu) b)
def fd_X5_isRead_L21  (b : ob_B)  : Option (Int32 × ob_B) := ob_lt (ob_I b 6 0 : ob_B) (fun b_3 => ob_b2 (fd_X5_isLaw b_3) (fun r_4 b_5 => if r_4 = 0 then (some (0, b_5)) else (ob_b1 (fd_X5_nextToken b_5) (fun b_6 => fd_X5_isRead_L39 2000 b_6))))
def fd_X5_isRead_L2  : Nat → ob_B → Int32 → Option (Int32 × ob_B)
  | 0, _, _ => none
  | fu + 1, b, z1 => if 42 ≤ z1 then (fd_X5_isRead_L21 b) else (if z1 < 0 ∨ 42 ≤ Int32.toNatClampNeg z1 then none else (ob_lt (ob_A b 13 (upd (b.2 13) (Int32.toNatClampNeg z1) 0) : ob_B) (fun b_1 => ob_lt (z1 + 1 : Int32) (fun x_2 => fd_X5_isRead_L2 fu b_1 x_2))))
def fd_X5_isRead  (b : ob_B)  : Option (Int32 × ob_B) := fd_X5_isRead_L2 2000 b 0
set_option maxHeartbeats 4000000 in
set_option maxRecDepth 100000 in
theorem mt_X5_isRead (l : Launch) (dC : Nat → ClassId) (dI : Nat → Nat → Nat) (cI cZ cR cW : ClassId) (xs : Nat → Nat) (sz : Nat) (o_b : Nat) (a_b : Nat → Nat) (b : ob_B)   (rr : Int32) (b' : ob_B) (hd : fd_X5_isRead b = some (rr, b')) : ob_M l yX5_isRead wsX5_isRead ({ frames := 4, cells := 0, slots := 0, locals := 88 } : Room) (dC, dI) (ob_ty cI cZ cR cW) xs [.ref o_b] (ob_w5 o_b a_b cI cZ b) sz (ob_Qi (dC, dI) rr (ob_w5 o_b a_b cI cZ b')) := by
  rw [fd_X5_isRead] at hd
  refine ob_in (cc := cX5_isRead) (maxL := 2) (ret := (some .boolean)) (own := RX5) (by decide) rfl rfl [(0, .ref o_b)] rfl (Nat.le_of_ble_eq_true rfl) ?_
  intro p e s m below meth c hx hb hr hml hown hts hlocks hnm hK A hA hE hP hD hS ls hl
  have kw0 := hts (.fieldLink RX5 25 "OathCoachModel" "read" "[I") (by decide +kernel)
  have kw1 := hts (.fieldLink RX5 78 "OathCoachModel" "position" "I") (by decide +kernel)
  have kw2 := hts (.fieldLink RX5 87 "OathCoachModel" "token" "I") (by decide +kernel)
  have hi_X5 : ∀ w ∈ u_ws RX5 TX5 23, w ∈ wsX5_isRead := by decide +kernel
  have L57 : ∀ (k_39 : ob_B → Option (Int32 × ob_B)) (hk_39 : ∀ (H : Heap) (locs : List Loc) (b : ob_B)  (ls : Array Slot), va_P (dC, dI) vwCl (ob_w5 o_b a_b cI cZ b) H → va_D A (ob_w5 o_b a_b cI cZ b) → va_S A s.heap H locs → lv_has ls 2 [(0, .ref o_b)] → k_39 b = some (rr, b') → W p l e ({ frames := 4, cells := 0, slots := 0, locals := 88 } : Room) s m (List.toArray [.ref o_b]) below meth c H locs 0 0 (MQ below ((ob_Qi (dC, dI) rr (ob_w5 o_b a_b cI cZ b')) A) (List.toArray [.ref o_b]) s 0 0 A) (F0 m 39 ls [])), ∀ (H : Heap) (locs : List Loc) (b : ob_B)  (ls : Array Slot), va_P (dC, dI) vwCl (ob_w5 o_b a_b cI cZ b) H → va_D A (ob_w5 o_b a_b cI cZ b) → va_S A s.heap H locs → lv_has ls 2 [(0, .ref o_b)] → fd_X5_isRead_L57 k_39 b = some (rr, b') → W p l e ({ frames := 4, cells := 0, slots := 0, locals := 88 } : Room) s m (List.toArray [.ref o_b]) below meth c H locs 0 0 (MQ below ((ob_Qi (dC, dI) rr (ob_w5 o_b a_b cI cZ b')) A) (List.toArray [.ref o_b]) s 0 0 A) (F0 m 57 ls []) := by
    intro k_39 hk_39 H locs b ls hP hD hS hl hd
    rw [fd_X5_isRead_L57] at hd
    refine lv_aload_n hx hb dX5_isRead_57 rfl (lv_at hl 0 rfl) ?_
    obtain ⟨r_7, b_8, hc_58, hd⟩ := ob_s2 hd
    refine ob_Vi (isC := [0, 1, 2, 3, 4, 5, 6, 7, 8, 9, 10, 11, 12, 13]) (isR := []) (is2 := [0, 1, 2, 3, 4, 5, 6, 7, 8, 9, 10, 11, 12, 13]) (wc := (ob_w5 o_b a_b cI cZ b)) (wr := ([] : va_W)) (w1 := (ob_w5 o_b a_b cI cZ b_8)) (w2 := (ob_w5 o_b a_b cI cZ b_8)) (b := o_b) (As := []) (rest := []) ⟨hx, hb, hml, hown, hts⟩ (mt_X5_isOath l dC dI cI cZ cR cW xs _ o_b a_b b r_7 b_8 hc_58) (cwV 0 hts gX5_isRead_X5_isOath rfl rfl rfl (by decide +kernel) ⟨Nat.le_of_ble_eq_true rfl, Nat.le_of_ble_eq_true rfl⟩) hK hE hP hD hS hA ⟨rfl, rfl, rfl, rfl, rfl, rfl, rfl⟩ 5 0 rfl rfl rfl hl rfl rfl (Nat.le_of_ble_eq_true rfl) ⟨Nat.le_of_ble_eq_true rfl, Nat.le_of_ble_eq_true rfl⟩ dX5_isRead_58 (fun H locs hP hD hS => ?_)
    refine W.widen (k := 0) (n := 0) (Nat.le_refl _) (Nat.le_refl _) ?_
    refine lv_if_ne (tgt := 66) hx hb dX5_isRead_61 (by decide) (fun c_61 => ?_) (fun c_61 => ?_)
    · replace hd := ob_f c_61 hd
      refine lv_aload_n hx hb dX5_isRead_66 rfl (lv_at hl 0 rfl) ?_
      obtain ⟨b_9, hc_67, hd⟩ := ob_s1 hd
      refine ob_Vv (isC := [0, 1, 2, 3, 4, 5, 6, 7, 8, 9, 10, 11, 12, 13]) (isR := []) (is2 := [0, 1, 2, 3, 4, 5, 6, 7, 8, 9, 10, 11, 12, 13]) (wc := (ob_w5 o_b a_b cI cZ b_8)) (wr := ([] : va_W)) (w1 := (ob_w5 o_b a_b cI cZ b_9)) (w2 := (ob_w5 o_b a_b cI cZ b_9)) (b := o_b) (As := []) (rest := []) ⟨hx, hb, hml, hown, hts⟩ (mt_X5_nextToken l dC dI cI cZ cR cW xs _ o_b a_b b_8 b_9 hc_67) (cwV 0 hts gX5_isRead_X5_nextToken rfl rfl rfl (by decide +kernel) ⟨Nat.le_of_ble_eq_true rfl, Nat.le_of_ble_eq_true rfl⟩) hK hE hP hD hS hA ⟨rfl, rfl, rfl, rfl, rfl, rfl, rfl⟩ 5 0 rfl rfl rfl hl rfl rfl (Nat.le_of_ble_eq_true rfl) ⟨Nat.le_of_ble_eq_true rfl, Nat.le_of_ble_eq_true rfl⟩ dX5_isRead_67 (fun H locs hP hD hS => ?_)
      refine W.widen (k := 0) (n := 0) (Nat.le_refl _) (Nat.le_refl _) ?_
      refine lv_goto (tgt := 39) hx hb dX5_isRead_70 (by decide) ?_
      exact hk_39 _ _ b_9 _ hP hD hS (lv_sub hl [0] rfl) hd
    · replace hd := ob_t c_61 hd
      refine lv_iconst (v := 0) hx hb dX5_isRead_64 (by decide) ?_
      obtain ⟨e1, e2⟩ := ob_pp hd
      subst e1
      subst e2
      exact ob_zret hx hb hr hlocks (by decide) hP hD hS dX5_isRead_65
  have L39 : ∀  (fu : Nat), ∀ (H : Heap) (locs : List Loc) (b : ob_B)  (ls : Array Slot), va_P (dC, dI) vwCl (ob_w5 o_b a_b cI cZ b) H → va_D A (ob_w5 o_b a_b cI cZ b) → va_S A s.heap H locs → lv_has ls 2 [(0, .ref o_b)] → fd_X5_isRead_L39 fu b = some (rr, b') → W p l e ({ frames := 4, cells := 0, slots := 0, locals := 88 } : Room) s m (List.toArray [.ref o_b]) below meth c H locs 0 0 (MQ below ((ob_Qi (dC, dI) rr (ob_w5 o_b a_b cI cZ b')) A) (List.toArray [.ref o_b]) s 0 0 A) (F0 m 39 ls []) := by
    intro  fu
    induction fu with
    | zero =>
      intro H locs b ls hP hD hS hl hd
      rw [fd_X5_isRead_L39] at hd
      cases hd
    | succ fu ih =>
      intro H locs b ls hP hD hS hl hd
      rw [fd_X5_isRead_L39] at hd
      refine lv_aload_n hx hb dX5_isRead_39 rfl (lv_at hl 0 rfl) ?_
      refine va_get (D := (dC, dI)) (ci := 5) (v := .int (b.1 8)) (C := RX5) (T := TX5) (N := 23) hx hb hts hi_X5 hown hK hP 0 rfl rfl 8 (by decide) kw2 (fun _ h9 => h9) rfl dX5_isRead_40 ?_
      refine lv_bipush (v := (-2)) hx hb dX5_isRead_43 (by decide) ?_
      refine lv_icmp_ne (tgt := 57) hx hb dX5_isRead_45 (by decide) (fun c_45 => ?_) (fun c_45 => ?_)
      · replace hd := ob_f c_45 hd
        exact L57 (fd_X5_isRead_L39 fu) ih  _ _ b _ hP hD hS (lv_sub hl [0] rfl) hd
      · replace hd := ob_t c_45 hd
        refine lv_aload_n hx hb dX5_isRead_48 rfl (lv_at hl 0 rfl) ?_
        refine va_get (D := (dC, dI)) (ci := 5) (v := .ref (a_b 13)) (C := RX5) (T := TX5) (N := 23) hx hb hts hi_X5 hown hK hP 0 rfl rfl 13 (by decide) kw0 (fun _ h9 => h9) rfl dX5_isRead_49 ?_
        refine lv_iconst (v := 2) hx hb dX5_isRead_52 (by decide) ?_
        refine va_iald hx hb hK hP 6 0 rfl rfl (by unfold vp_in; decide) dX5_isRead_53 ?_
        refine lv_if_ne (tgt := 73) hx hb dX5_isRead_54 (by decide) (fun c_54 => ?_) (fun c_54 => ?_)
        · replace hd := ob_f c_54 hd
          refine lv_iconst (v := 1) hx hb dX5_isRead_73 (by decide) ?_
          obtain ⟨e1, e2⟩ := ob_pp hd
          subst e1
          subst e2
          exact ob_zret hx hb hr hlocks (by decide) hP hD hS dX5_isRead_74
        · replace hd := ob_t c_54 hd
          exact L57 (fd_X5_isRead_L39 fu) ih  _ _ b _ hP hD hS (lv_sub hl [0] rfl) hd
  have L21 : ∀ (H : Heap) (locs : List Loc) (b : ob_B)  (ls : Array Slot), va_P (dC, dI) vwCl (ob_w5 o_b a_b cI cZ b) H → va_D A (ob_w5 o_b a_b cI cZ b) → va_S A s.heap H locs → lv_has ls 2 [(0, .ref o_b)] → fd_X5_isRead_L21 b = some (rr, b') → W p l e ({ frames := 4, cells := 0, slots := 0, locals := 88 } : Room) s m (List.toArray [.ref o_b]) below meth c H locs 0 0 (MQ below ((ob_Qi (dC, dI) rr (ob_w5 o_b a_b cI cZ b')) A) (List.toArray [.ref o_b]) s 0 0 A) (F0 m 21 ls []) := by
    intro  H locs b ls hP hD hS hl hd
    rw [fd_X5_isRead_L21] at hd
    refine lv_aload_n hx hb dX5_isRead_21 rfl (lv_at hl 0 rfl) ?_
    refine lv_iconst (v := 0) hx hb dX5_isRead_22 (by decide) ?_
    refine va_put (D := (dC, dI)) (ci := 5) (v := .int 0) (ty := .int) (C := RX5) (T := TX5) (N := 23) hx hb hts hi_X5 tyX5 tyX5_ok nmX5 hown hK hP hD hS 0 rfl rfl 6 (by decide) kw1 (fun _ h9 => h9) rfl (by decide +kernel) rfl rfl (Nat.le_of_ble_eq_true rfl) dX5_isRead_23 (fun H locs hP hD hS => ?_)
    obtain ⟨b_3, eb_3⟩ : ∃ z : ob_B, z = ob_I b 6 0 := ⟨_, rfl⟩
    replace hd := ob_lx eb_3 hd
    replace hP : va_P (dC, dI) vwCl (ob_w5 o_b a_b cI cZ b_3) H := by rw [eb_3]; exact hP
    replace hD : va_D A (ob_w5 o_b a_b cI cZ b_3) := by rw [eb_3]; exact hD
    clear eb_3
    refine lv_aload_n hx hb dX5_isRead_26 rfl (lv_at hl 0 rfl) ?_
    obtain ⟨r_4, b_5, hc_27, hd⟩ := ob_s2 hd
    refine ob_Vi (isC := [0, 1, 2, 3, 4, 5, 6, 7, 8, 9, 10, 11, 12, 13]) (isR := []) (is2 := [0, 1, 2, 3, 4, 5, 6, 7, 8, 9, 10, 11, 12, 13]) (wc := (ob_w5 o_b a_b cI cZ b_3)) (wr := ([] : va_W)) (w1 := (ob_w5 o_b a_b cI cZ b_5)) (w2 := (ob_w5 o_b a_b cI cZ b_5)) (b := o_b) (As := []) (rest := []) ⟨hx, hb, hml, hown, hts⟩ (mt_X5_isLaw l dC dI cI cZ cR cW xs _ o_b a_b b_3 r_4 b_5 hc_27) (cwV 0 hts gX5_isRead_X5_isLaw rfl rfl rfl (by decide +kernel) ⟨Nat.le_of_ble_eq_true rfl, Nat.le_of_ble_eq_true rfl⟩) hK hE hP hD hS hA ⟨rfl, rfl, rfl, rfl, rfl, rfl, rfl⟩ 5 0 rfl rfl rfl hl rfl rfl (Nat.le_of_ble_eq_true rfl) ⟨Nat.le_of_ble_eq_true rfl, Nat.le_of_ble_eq_true rfl⟩ dX5_isRead_27 (fun H locs hP hD hS => ?_)
    refine W.widen (k := 0) (n := 0) (Nat.le_refl _) (Nat.le_refl _) ?_
    refine lv_if_ne (tgt := 35) hx hb dX5_isRead_30 (by decide) (fun c_30 => ?_) (fun c_30 => ?_)
    · replace hd := ob_f c_30 hd
      refine lv_aload_n hx hb dX5_isRead_35 rfl (lv_at hl 0 rfl) ?_
      obtain ⟨b_6, hc_36, hd⟩ := ob_s1 hd
      refine ob_Vv (isC := [0, 1, 2, 3, 4, 5, 6, 7, 8, 9, 10, 11, 12, 13]) (isR := []) (is2 := [0, 1, 2, 3, 4, 5, 6, 7, 8, 9, 10, 11, 12, 13]) (wc := (ob_w5 o_b a_b cI cZ b_5)) (wr := ([] : va_W)) (w1 := (ob_w5 o_b a_b cI cZ b_6)) (w2 := (ob_w5 o_b a_b cI cZ b_6)) (b := o_b) (As := []) (rest := []) ⟨hx, hb, hml, hown, hts⟩ (mt_X5_nextToken l dC dI cI cZ cR cW xs _ o_b a_b b_5 b_6 hc_36) (cwV 0 hts gX5_isRead_X5_nextToken rfl rfl rfl (by decide +kernel) ⟨Nat.le_of_ble_eq_true rfl, Nat.le_of_ble_eq_true rfl⟩) hK hE hP hD hS hA ⟨rfl, rfl, rfl, rfl, rfl, rfl, rfl⟩ 5 0 rfl rfl rfl hl rfl rfl (Nat.le_of_ble_eq_true rfl) ⟨Nat.le_of_ble_eq_true rfl, Nat.le_of_ble_eq_true rfl⟩ dX5_isRead_36 (fun H locs hP hD hS => ?_)
      refine W.widen (k := 0) (n := 0) (Nat.le_refl _) (Nat.le_refl _) ?_
      exact L39  2000 _ _ b_6 _ hP hD hS (lv_sub hl [0] rfl) hd
    · replace hd := ob_t c_30 hd
      refine lv_iconst (v := 0) hx hb dX5_isRead_33 (by decide) ?_
      obtain ⟨e1, e2⟩ := ob_pp hd
      subst e1
      subst e2
      exact ob_zret hx hb hr hlocks (by decide) hP hD hS dX5_isRead_34
  have L2 : ∀  (fu : Nat), ∀ (H : Heap) (locs : List Loc) (b : ob_B) (z1 : Int32) (ls : Array Slot), va_P (dC, dI) vwCl (ob_w5 o_b a_b cI cZ b) H → va_D A (ob_w5 o_b a_b cI cZ b) → va_S A s.heap H locs → lv_has ls 2 [(0, .ref o_b), (1, .int z1)] → fd_X5_isRead_L2 fu b z1 = some (rr, b') → W p l e ({ frames := 4, cells := 0, slots := 0, locals := 88 } : Room) s m (List.toArray [.ref o_b]) below meth c H locs 0 0 (MQ below ((ob_Qi (dC, dI) rr (ob_w5 o_b a_b cI cZ b')) A) (List.toArray [.ref o_b]) s 0 0 A) (F0 m 2 ls []) := by
    intro  fu
    induction fu with
    | zero =>
      intro H locs b z1 ls hP hD hS hl hd
      rw [fd_X5_isRead_L2] at hd
      cases hd
    | succ fu ih =>
      intro H locs b z1 ls hP hD hS hl hd
      rw [fd_X5_isRead_L2] at hd
      refine lv_iload_n hx hb dX5_isRead_2 rfl (lv_at hl 1 rfl) ?_
      refine lv_bipush (v := 42) hx hb dX5_isRead_3 (by decide) ?_
      refine lv_icmp_ge (tgt := 21) hx hb dX5_isRead_5 (by decide) (fun c_5 => ?_) (fun c_5 => ?_)
      · replace hd := ob_t c_5 hd
        exact L21   _ _ b _ hP hD hS (lv_sub hl [0] rfl) hd
      · replace hd := ob_f c_5 hd
        refine lv_aload_n hx hb dX5_isRead_8 rfl (lv_at hl 0 rfl) ?_
        refine va_get (D := (dC, dI)) (ci := 5) (v := .ref (a_b 13)) (C := RX5) (T := TX5) (N := 23) hx hb hts hi_X5 hown hK hP 0 rfl rfl 13 (by decide) kw0 (fun _ h9 => h9) rfl dX5_isRead_9 ?_
        refine lv_iload_n hx hb dX5_isRead_12 rfl (lv_at hl 1 rfl) ?_
        refine lv_iconst (v := 0) hx hb dX5_isRead_13 (by decide) ?_
        obtain ⟨h1_14, hd⟩ := ob_nn hd
        refine va_iast hx hb hK hP hD hS 6 0 rfl rfl h1_14 dX5_isRead_14 (fun H locs hP hD hS => ?_)
        obtain ⟨b_1, eb_1⟩ : ∃ z : ob_B, z = ob_A b 13 (upd (b.2 13) (Int32.toNatClampNeg z1) 0) := ⟨_, rfl⟩
        replace hd := ob_lx eb_1 hd
        replace hP : va_P (dC, dI) vwCl (ob_w5 o_b a_b cI cZ b_1) H := by rw [eb_1]; exact hP
        replace hD : va_D A (ob_w5 o_b a_b cI cZ b_1) := by rw [eb_1]; exact hD
        clear eb_1
        obtain ⟨x_2, ex_2⟩ : ∃ z : Int32, z = z1 + 1 := ⟨_, rfl⟩
        replace hd := ob_lx ex_2 hd
        refine lv_iinc (v := x_2) (lv' := [(1, .int x_2), (0, .ref o_b)]) hx hb dX5_isRead_15 hl (k := 1) rfl (by rw [ex_2]; rfl) (by decide) rfl (fun ls hl => ?_)
        clear ex_2
        refine lv_goto (tgt := 2) hx hb dX5_isRead_18 (by decide) ?_
        exact ih _ _ b_1 x_2 _ hP hD hS (lv_sub hl [1, 0] rfl) hd
  refine lv_iconst (v := 0) hx hb dX5_isRead_0 (by decide) ?_
  refine lv_istore_n (lv' := [(1, .int 0), (0, .ref o_b)]) hx hb dX5_isRead_1 rfl hl (by decide) rfl (fun ls hl => ?_)
  exact L2  2000 _ _ b 0 _ hP hD hS (lv_sub hl [1, 0] rfl) hd

def fd_X5_route  (b : ob_B)  : Option (Int32 × ob_B) := ob_b2 (fd_X5_isRead b) (fun r_1 b_2 => ob_lt (ob_I b_2 4 0 : ob_B) (fun b_3 => if r_1 = 0 then (ob_lt (b_3.1 10 : Int32) (fun x_7 => ob_lt (ob_I b_3 11 x_7 : ob_B) (fun b_8 => some ((-1000100) - (b_8.1 7), b_8)))) else (ob_b1 (fd_X5_lay 42 42 ((b_3.2 13)) ((b_3.2 12)) 0 0) (fun f_4 => ob_lt (ob_A b_3 12 f_4 : ob_B) (fun b_5 => ob_lt (ob_I b_5 18 0 : ob_B) (fun b_6 => some ((b_6.2 12) (Int32.toNatClampNeg 2), b_6)))))))
set_option maxHeartbeats 4000000 in
set_option maxRecDepth 100000 in
theorem mt_X5_route (l : Launch) (dC : Nat → ClassId) (dI : Nat → Nat → Nat) (cI cZ cR cW : ClassId) (xs : Nat → Nat) (sz : Nat) (o_b : Nat) (a_b : Nat → Nat) (b : ob_B)   (rr : Int32) (b' : ob_B) (hd : fd_X5_route b = some (rr, b')) : ob_M l yX5_route wsX5_route ({ frames := 5, cells := 0, slots := 0, locals := 109 } : Room) (dC, dI) (ob_ty cI cZ cR cW) xs [.ref o_b] (ob_w5 o_b a_b cI cZ b) sz (ob_Qi (dC, dI) rr (ob_w5 o_b a_b cI cZ b')) := by
  rw [fd_X5_route] at hd
  refine ob_in (cc := cX5_route) (maxL := 2) (ret := (some .int)) (own := RX5) (by decide) rfl rfl [(0, .ref o_b)] rfl (Nat.le_of_ble_eq_true rfl) ?_
  intro p e s m below meth c hx hb hr hml hown hts hlocks hnm hK A hA hE hP hD hS ls hl
  have kw0 := hts (.fieldLink RX5 74 "OathCoachModel" "letters" "I") (by decide +kernel)
  have kw1 := hts (.fieldLink RX5 25 "OathCoachModel" "read" "[I") (by decide +kernel)
  have kw2 := hts (.fieldLink RX5 22 "OathCoachModel" "now" "[I") (by decide +kernel)
  have kw3 := hts (.fieldLink RX5 127 "OathCoachModel" "acts" "I") (by decide +kernel)
  have kw4 := hts (.fieldLink RX5 90 "OathCoachModel" "faultIs" "I") (by decide +kernel)
  have kw5 := hts (.fieldLink RX5 119 "OathCoachModel" "faultNow" "I") (by decide +kernel)
  have kw6 := hts (.constant RX5 122 (-1000100)) (by decide +kernel)
  have kw7 := hts (.fieldLink RX5 81 "OathCoachModel" "tokenAt" "I") (by decide +kernel)
  have hi_X5 : ∀ w ∈ u_ws RX5 TX5 23, w ∈ wsX5_route := by decide +kernel
  refine lv_aload_n hx hb dX5_route_0 rfl (lv_at hl 0 rfl) ?_
  obtain ⟨r_1, b_2, hc_1, hd⟩ := ob_s2 hd
  refine ob_Vi (isC := [0, 1, 2, 3, 4, 5, 6, 7, 8, 9, 10, 11, 12, 13]) (isR := []) (is2 := [0, 1, 2, 3, 4, 5, 6, 7, 8, 9, 10, 11, 12, 13]) (wc := (ob_w5 o_b a_b cI cZ b)) (wr := ([] : va_W)) (w1 := (ob_w5 o_b a_b cI cZ b_2)) (w2 := (ob_w5 o_b a_b cI cZ b_2)) (b := o_b) (As := []) (rest := []) ⟨hx, hb, hml, hown, hts⟩ (mt_X5_isRead l dC dI cI cZ cR cW xs _ o_b a_b b r_1 b_2 hc_1) (cwV 0 hts gX5_route_X5_isRead rfl rfl rfl (by decide +kernel) ⟨Nat.le_of_ble_eq_true rfl, Nat.le_of_ble_eq_true rfl⟩) hK hE hP hD hS hA ⟨rfl, rfl, rfl, rfl, rfl, rfl, rfl⟩ 5 0 rfl rfl rfl hl rfl rfl (Nat.le_of_ble_eq_true rfl) ⟨Nat.le_of_ble_eq_true rfl, Nat.le_of_ble_eq_true rfl⟩ dX5_route_1 (fun H locs hP hD hS => ?_)
  refine W.widen (k := 0) (n := 0) (Nat.le_refl _) (Nat.le_refl _) ?_
  refine lv_istore_n (lv' := [(1, .int r_1), (0, .ref o_b)]) hx hb dX5_route_4 rfl hl (by decide) rfl (fun ls hl => ?_)
  refine lv_aload_n hx hb dX5_route_5 rfl (lv_at hl 1 rfl) ?_
  refine lv_iconst (v := 0) hx hb dX5_route_6 (by decide) ?_
  refine va_put (D := (dC, dI)) (ci := 5) (v := .int 0) (ty := .int) (C := RX5) (T := TX5) (N := 23) hx hb hts hi_X5 tyX5 tyX5_ok nmX5 hown hK hP hD hS 0 rfl rfl 4 (by decide) kw0 (fun _ h9 => h9) rfl (by decide +kernel) rfl rfl (Nat.le_of_ble_eq_true rfl) dX5_route_7 (fun H locs hP hD hS => ?_)
  obtain ⟨b_3, eb_3⟩ : ∃ z : ob_B, z = ob_I b_2 4 0 := ⟨_, rfl⟩
  replace hd := ob_lx eb_3 hd
  replace hP : va_P (dC, dI) vwCl (ob_w5 o_b a_b cI cZ b_3) H := by rw [eb_3]; exact hP
  replace hD : va_D A (ob_w5 o_b a_b cI cZ b_3) := by rw [eb_3]; exact hD
  clear eb_3
  refine lv_iload_n hx hb dX5_route_10 rfl (lv_at hl 0 rfl) ?_
  refine lv_if_ne (tgt := 30) hx hb dX5_route_11 (by decide) (fun c_11 => ?_) (fun c_11 => ?_)
  · replace hd := ob_f c_11 hd
    refine lv_aload_n hx hb dX5_route_30 rfl (lv_at hl 1 rfl) ?_
    refine va_get (D := (dC, dI)) (ci := 5) (v := .ref (a_b 13)) (C := RX5) (T := TX5) (N := 23) hx hb hts hi_X5 hown hK hP 0 rfl rfl 13 (by decide) kw1 (fun _ h9 => h9) rfl dX5_route_31 ?_
    refine lv_iconst (v := 0) hx hb dX5_route_34 (by decide) ?_
    refine lv_aload_n hx hb dX5_route_35 rfl (lv_at hl 1 rfl) ?_
    refine va_get (D := (dC, dI)) (ci := 5) (v := .ref (a_b 12)) (C := RX5) (T := TX5) (N := 23) hx hb hts hi_X5 hown hK hP 0 rfl rfl 12 (by decide) kw2 (fun _ h9 => h9) rfl dX5_route_36 ?_
    refine lv_iconst (v := 0) hx hb dX5_route_39 (by decide) ?_
    obtain ⟨f_4, hc_40, hd⟩ := ob_s1 hd
    refine ob_Sv (isC := [6, 5]) (isR := [0, 1, 2, 3, 4, 7, 8, 9, 10, 11, 12, 13]) (is2 := [0, 1, 2, 3, 4, 13, 12, 5, 6, 7, 8, 9, 10, 11]) (wc := (ob_wa (a_b 13) cI 42 (b_3.2 13) ++ ob_wa (a_b 12) cI 42 (b_3.2 12))) (wr := (List.filterMap (fun i => (ob_w5 o_b a_b cI cZ b_3)[i]?) [0, 1, 2, 3, 4, 7, 8, 9, 10, 11, 12, 13])) (w1 := (ob_wa (a_b 13) cI 42 (b_3.2 13) ++ ob_wa (a_b 12) cI 42 f_4)) (w2 := (ob_w5 o_b a_b cI cZ (ob_A b_3 12 f_4))) (As := [.ref (a_b 13), .int 0, .ref (a_b 12), .int 0]) (rest := []) ⟨hx, hb, hml, hown, hts⟩ (mt_X5_lay l dC dI cI cZ cR cW xs _ ((a_b 13)) 42 ((a_b 12)) 42 ((b_3.2 13)) ((b_3.2 12)) 0 0 f_4 hc_40) (va_cwS 4 hts gX5_route_X5_lay rfl rfl rfl (by decide +kernel) ⟨Nat.le_of_ble_eq_true rfl, Nat.le_of_ble_eq_true rfl⟩) hK hE hP hD hS hA ⟨rfl, rfl, rfl, rfl, rfl, rfl, rfl⟩ hl rfl rfl (Nat.le_of_ble_eq_true rfl) ⟨Nat.le_of_ble_eq_true rfl, Nat.le_of_ble_eq_true rfl⟩ dX5_route_40 (fun H locs hP hD hS => ?_)
    refine W.widen (k := 0) (n := 0) (Nat.le_refl _) (Nat.le_refl _) ?_
    obtain ⟨b_5, eb_5⟩ : ∃ z : ob_B, z = ob_A b_3 12 f_4 := ⟨_, rfl⟩
    replace hd := ob_lx eb_5 hd
    replace hP : va_P (dC, dI) vwCl (ob_w5 o_b a_b cI cZ b_5) H := by rw [eb_5]; exact hP
    replace hD : va_D A (ob_w5 o_b a_b cI cZ b_5) := by rw [eb_5]; exact hD
    clear eb_5
    refine lv_aload_n hx hb dX5_route_43 rfl (lv_at hl 1 rfl) ?_
    refine lv_iconst (v := 0) hx hb dX5_route_44 (by decide) ?_
    refine va_put (D := (dC, dI)) (ci := 5) (v := .int 0) (ty := .int) (C := RX5) (T := TX5) (N := 23) hx hb hts hi_X5 tyX5 tyX5_ok nmX5 hown hK hP hD hS 0 rfl rfl 18 (by decide) kw3 (fun _ h9 => h9) rfl (by decide +kernel) rfl rfl (Nat.le_of_ble_eq_true rfl) dX5_route_45 (fun H locs hP hD hS => ?_)
    obtain ⟨b_6, eb_6⟩ : ∃ z : ob_B, z = ob_I b_5 18 0 := ⟨_, rfl⟩
    replace hd := ob_lx eb_6 hd
    replace hP : va_P (dC, dI) vwCl (ob_w5 o_b a_b cI cZ b_6) H := by rw [eb_6]; exact hP
    replace hD : va_D A (ob_w5 o_b a_b cI cZ b_6) := by rw [eb_6]; exact hD
    clear eb_6
    refine lv_aload_n hx hb dX5_route_48 rfl (lv_at hl 1 rfl) ?_
    refine va_get (D := (dC, dI)) (ci := 5) (v := .ref (a_b 12)) (C := RX5) (T := TX5) (N := 23) hx hb hts hi_X5 hown hK hP 0 rfl rfl 12 (by decide) kw2 (fun _ h9 => h9) rfl dX5_route_49 ?_
    refine lv_iconst (v := 2) hx hb dX5_route_52 (by decide) ?_
    refine va_iald hx hb hK hP 5 0 rfl rfl (by unfold vp_in; decide) dX5_route_53 ?_
    obtain ⟨e1, e2⟩ := ob_pp hd
    subst e1
    subst e2
    exact ob_iret hx hb hr hlocks hP hD hS dX5_route_54
  · replace hd := ob_t c_11 hd
    refine lv_aload_n hx hb dX5_route_14 rfl (lv_at hl 1 rfl) ?_
    refine lv_aload_n hx hb dX5_route_15 rfl (lv_at hl 1 rfl) ?_
    refine va_get (D := (dC, dI)) (ci := 5) (v := .int (b_3.1 10)) (C := RX5) (T := TX5) (N := 23) hx hb hts hi_X5 hown hK hP 0 rfl rfl 10 (by decide) kw4 (fun _ h9 => h9) rfl dX5_route_16 ?_
    refine lv_topi (fun x_7 ex_7 => ?_)
    replace hd := ob_lx ex_7 hd
    clear ex_7
    refine va_put (D := (dC, dI)) (ci := 5) (v := .int x_7) (ty := .int) (C := RX5) (T := TX5) (N := 23) hx hb hts hi_X5 tyX5 tyX5_ok nmX5 hown hK hP hD hS 0 rfl rfl 11 (by decide) kw5 (fun _ h9 => h9) rfl (by decide +kernel) rfl rfl (Nat.le_of_ble_eq_true rfl) dX5_route_19 (fun H locs hP hD hS => ?_)
    obtain ⟨b_8, eb_8⟩ : ∃ z : ob_B, z = ob_I b_3 11 x_7 := ⟨_, rfl⟩
    replace hd := ob_lx eb_8 hd
    replace hP : va_P (dC, dI) vwCl (ob_w5 o_b a_b cI cZ b_8) H := by rw [eb_8]; exact hP
    replace hD : va_D A (ob_w5 o_b a_b cI cZ b_8) := by rw [eb_8]; exact hD
    clear eb_8
    refine lv_ldc hx hb hown kw6 dX5_route_22 ?_
    refine lv_aload_n hx hb dX5_route_24 rfl (lv_at hl 1 rfl) ?_
    refine va_get (D := (dC, dI)) (ci := 5) (v := .int (b_8.1 7)) (C := RX5) (T := TX5) (N := 23) hx hb hts hi_X5 hown hK hP 0 rfl rfl 7 (by decide) kw7 (fun _ h9 => h9) rfl dX5_route_25 ?_
    refine lv_isub hx hb dX5_route_28 ?_
    obtain ⟨e1, e2⟩ := ob_pp hd
    subst e1
    subst e2
    exact ob_iret hx hb hr hlocks hP hD hS dX5_route_29

def fd_X5_fault  (b : ob_B)  : Option (Int32) := some (b.1 11)
set_option maxHeartbeats 4000000 in
set_option maxRecDepth 100000 in
theorem mt_X5_fault (l : Launch) (dC : Nat → ClassId) (dI : Nat → Nat → Nat) (cI cZ cR cW : ClassId) (xs : Nat → Nat) (sz : Nat) (o_b : Nat) (a_b : Nat → Nat) (b : ob_B)   (rr : Int32) (hd : fd_X5_fault b = some (rr)) : ob_M l yX5_fault wsX5_fault ({ frames := 0, cells := 0, slots := 0, locals := 0 } : Room) (dC, dI) (ob_ty cI cZ cR cW) xs [.ref o_b] (ob_w5 o_b a_b cI cZ b) sz (ob_Qi (dC, dI) rr (ob_w5 o_b a_b cI cZ b)) := by
  rw [fd_X5_fault] at hd
  refine ob_in (cc := cX5_fault) (maxL := 1) (ret := (some .int)) (own := RX5) (by decide) rfl rfl [(0, .ref o_b)] rfl (Nat.le_of_ble_eq_true rfl) ?_
  intro p e s m below meth c hx hb hr hml hown hts hlocks hnm hK A hA hE hP hD hS ls hl
  have kw0 := hts (.fieldLink RX5 119 "OathCoachModel" "faultNow" "I") (by decide +kernel)
  have hi_X5 : ∀ w ∈ u_ws RX5 TX5 23, w ∈ wsX5_fault := by decide +kernel
  refine lv_aload_n hx hb dX5_fault_0 rfl (lv_at hl 0 rfl) ?_
  refine va_get (D := (dC, dI)) (ci := 5) (v := .int (b.1 11)) (C := RX5) (T := TX5) (N := 23) hx hb hts hi_X5 hown hK hP 0 rfl rfl 11 (by decide) kw0 (fun _ h9 => h9) rfl dX5_fault_1 ?_
  have e1 := Option.some.inj hd
  subst e1
  exact ob_iret hx hb hr hlocks hP hD hS dX5_fault_4

def fd_X5_note_L49  (b : ob_B)  : Option (ob_B) := ob_b1 (fd_X5_lay 42 1008 ((b.2 12)) ((b.2 17)) 0 (42 * (b.1 18))) (fun f_1 => ob_lt (ob_A b 17 f_1 : ob_B) (fun b_2 => ob_lt ((b_2.1 18) + 1 : Int32) (fun x_3 => ob_lt (ob_I b_2 18 x_3 : ob_B) (fun b_4 => some (b_4)))))
def fd_X5_note_L39  (b : ob_B)  : Option (ob_B) := ob_lt ((b.1 18) - 1 : Int32) (fun x_8 => ob_lt (ob_I b 18 x_8 : ob_B) (fun b_9 => fd_X5_note_L49 b_9))
def fd_X5_note_L11  : Nat → ob_B → Int32 → Option (ob_B)
  | 0, _, _ => none
  | fu + 1, b, z1 => if 966 ≤ z1 then (fd_X5_note_L39 b) else (if (z1 + 42) < 0 ∨ 1008 ≤ Int32.toNatClampNeg (z1 + 42) then none else (ob_lt ((b.2 17) (Int32.toNatClampNeg (z1 + 42)) : Int32) (fun x_5 => if z1 < 0 ∨ 1008 ≤ Int32.toNatClampNeg z1 then none else (ob_lt (ob_A b 17 (upd (b.2 17) (Int32.toNatClampNeg z1) x_5) : ob_B) (fun b_6 => ob_lt (z1 + 1 : Int32) (fun x_7 => fd_X5_note_L11 fu b_6 x_7))))))
def fd_X5_note  (b : ob_B)  : Option (ob_B) := if (b.1 18) = 24 then (fd_X5_note_L11 2000 b 0) else (fd_X5_note_L49 b)
set_option maxHeartbeats 4000000 in
set_option maxRecDepth 100000 in
theorem mt_X5_note (l : Launch) (dC : Nat → ClassId) (dI : Nat → Nat → Nat) (cI cZ cR cW : ClassId) (xs : Nat → Nat) (sz : Nat) (o_b : Nat) (a_b : Nat → Nat) (b : ob_B)   (b' : ob_B) (hd : fd_X5_note b = some (b')) : ob_M l yX5_note wsX5_note ({ frames := 1, cells := 0, slots := 0, locals := 24 } : Room) (dC, dI) (ob_ty cI cZ cR cW) xs [.ref o_b] (ob_w5 o_b a_b cI cZ b) sz (ob_Qv (dC, dI) (ob_w5 o_b a_b cI cZ b')) := by
  rw [fd_X5_note] at hd
  refine ob_in (cc := cX5_note) (maxL := 2) (ret := none) (own := RX5) (by decide) rfl rfl [(0, .ref o_b)] rfl (Nat.le_of_ble_eq_true rfl) ?_
  intro p e s m below meth c hx hb hr hml hown hts hlocks hnm hK A hA hE hP hD hS ls hl
  have kw0 := hts (.fieldLink RX5 127 "OathCoachModel" "acts" "I") (by decide +kernel)
  have kw1 := hts (.fieldLink RX5 22 "OathCoachModel" "now" "[I") (by decide +kernel)
  have kw2 := hts (.fieldLink RX5 38 "OathCoachModel" "actOf" "[I") (by decide +kernel)
  have hi_X5 : ∀ w ∈ u_ws RX5 TX5 23, w ∈ wsX5_note := by decide +kernel
  have L49 : ∀ (H : Heap) (locs : List Loc) (b : ob_B)  (ls : Array Slot), va_P (dC, dI) vwCl (ob_w5 o_b a_b cI cZ b) H → va_D A (ob_w5 o_b a_b cI cZ b) → va_S A s.heap H locs → lv_has ls 2 [(0, .ref o_b)] → fd_X5_note_L49 b = some (b') → W p l e ({ frames := 1, cells := 0, slots := 0, locals := 24 } : Room) s m (List.toArray [.ref o_b]) below meth c H locs 0 0 (MQ below ((ob_Qv (dC, dI) (ob_w5 o_b a_b cI cZ b')) A) (List.toArray [.ref o_b]) s 0 0 A) (F0 m 49 ls []) := by
    intro  H locs b ls hP hD hS hl hd
    rw [fd_X5_note_L49] at hd
    refine lv_aload_n hx hb dX5_note_49 rfl (lv_at hl 0 rfl) ?_
    refine va_get (D := (dC, dI)) (ci := 5) (v := .ref (a_b 12)) (C := RX5) (T := TX5) (N := 23) hx hb hts hi_X5 hown hK hP 0 rfl rfl 12 (by decide) kw1 (fun _ h9 => h9) rfl dX5_note_50 ?_
    refine lv_iconst (v := 0) hx hb dX5_note_53 (by decide) ?_
    refine lv_aload_n hx hb dX5_note_54 rfl (lv_at hl 0 rfl) ?_
    refine va_get (D := (dC, dI)) (ci := 5) (v := .ref (a_b 17)) (C := RX5) (T := TX5) (N := 23) hx hb hts hi_X5 hown hK hP 0 rfl rfl 17 (by decide) kw2 (fun _ h9 => h9) rfl dX5_note_55 ?_
    refine lv_bipush (v := 42) hx hb dX5_note_58 (by decide) ?_
    refine lv_aload_n hx hb dX5_note_60 rfl (lv_at hl 0 rfl) ?_
    refine va_get (D := (dC, dI)) (ci := 5) (v := .int (b.1 18)) (C := RX5) (T := TX5) (N := 23) hx hb hts hi_X5 hown hK hP 0 rfl rfl 18 (by decide) kw0 (fun _ h9 => h9) rfl dX5_note_61 ?_
    refine lv_imul hx hb dX5_note_64 ?_
    obtain ⟨f_1, hc_65, hd⟩ := ob_s1 hd
    refine ob_Sv (isC := [5, 10]) (isR := [0, 1, 2, 3, 4, 6, 7, 8, 9, 11, 12, 13]) (is2 := [0, 1, 2, 3, 4, 12, 5, 6, 7, 8, 13, 9, 10, 11]) (wc := (ob_wa (a_b 12) cI 42 (b.2 12) ++ ob_wa (a_b 17) cI 1008 (b.2 17))) (wr := (List.filterMap (fun i => (ob_w5 o_b a_b cI cZ b)[i]?) [0, 1, 2, 3, 4, 6, 7, 8, 9, 11, 12, 13])) (w1 := (ob_wa (a_b 12) cI 42 (b.2 12) ++ ob_wa (a_b 17) cI 1008 f_1)) (w2 := (ob_w5 o_b a_b cI cZ (ob_A b 17 f_1))) (As := [.ref (a_b 12), .int 0, .ref (a_b 17), .int (42 * (b.1 18))]) (rest := []) ⟨hx, hb, hml, hown, hts⟩ (mt_X5_lay l dC dI cI cZ cR cW xs _ ((a_b 12)) 42 ((a_b 17)) 1008 ((b.2 12)) ((b.2 17)) 0 (42 * (b.1 18)) f_1 hc_65) (va_cwS 4 hts gX5_note_X5_lay rfl rfl rfl (by decide +kernel) ⟨Nat.le_of_ble_eq_true rfl, Nat.le_of_ble_eq_true rfl⟩) hK hE hP hD hS hA ⟨rfl, rfl, rfl, rfl, rfl, rfl, rfl⟩ hl rfl rfl (Nat.le_of_ble_eq_true rfl) ⟨Nat.le_of_ble_eq_true rfl, Nat.le_of_ble_eq_true rfl⟩ dX5_note_65 (fun H locs hP hD hS => ?_)
    refine W.widen (k := 0) (n := 0) (Nat.le_refl _) (Nat.le_refl _) ?_
    obtain ⟨b_2, eb_2⟩ : ∃ z : ob_B, z = ob_A b 17 f_1 := ⟨_, rfl⟩
    replace hd := ob_lx eb_2 hd
    replace hP : va_P (dC, dI) vwCl (ob_w5 o_b a_b cI cZ b_2) H := by rw [eb_2]; exact hP
    replace hD : va_D A (ob_w5 o_b a_b cI cZ b_2) := by rw [eb_2]; exact hD
    clear eb_2
    refine lv_aload_n hx hb dX5_note_68 rfl (lv_at hl 0 rfl) ?_
    refine lv_dup hx hb dX5_note_69 rfl ?_
    refine va_get (D := (dC, dI)) (ci := 5) (v := .int (b_2.1 18)) (C := RX5) (T := TX5) (N := 23) hx hb hts hi_X5 hown hK hP 0 rfl rfl 18 (by decide) kw0 (fun _ h9 => h9) rfl dX5_note_70 ?_
    refine lv_iconst (v := 1) hx hb dX5_note_73 (by decide) ?_
    refine lv_iadd hx hb dX5_note_74 ?_
    refine lv_topi (fun x_3 ex_3 => ?_)
    replace hd := ob_lx ex_3 hd
    clear ex_3
    refine va_put (D := (dC, dI)) (ci := 5) (v := .int x_3) (ty := .int) (C := RX5) (T := TX5) (N := 23) hx hb hts hi_X5 tyX5 tyX5_ok nmX5 hown hK hP hD hS 0 rfl rfl 18 (by decide) kw0 (fun _ h9 => h9) rfl (by decide +kernel) rfl rfl (Nat.le_of_ble_eq_true rfl) dX5_note_75 (fun H locs hP hD hS => ?_)
    obtain ⟨b_4, eb_4⟩ : ∃ z : ob_B, z = ob_I b_2 18 x_3 := ⟨_, rfl⟩
    replace hd := ob_lx eb_4 hd
    replace hP : va_P (dC, dI) vwCl (ob_w5 o_b a_b cI cZ b_4) H := by rw [eb_4]; exact hP
    replace hD : va_D A (ob_w5 o_b a_b cI cZ b_4) := by rw [eb_4]; exact hD
    clear eb_4
    have e1 := Option.some.inj hd
    subst e1
    exact ob_vret hx hb hr hlocks hP hD hS dX5_note_78
  have L39 : ∀ (H : Heap) (locs : List Loc) (b : ob_B)  (ls : Array Slot), va_P (dC, dI) vwCl (ob_w5 o_b a_b cI cZ b) H → va_D A (ob_w5 o_b a_b cI cZ b) → va_S A s.heap H locs → lv_has ls 2 [(0, .ref o_b)] → fd_X5_note_L39 b = some (b') → W p l e ({ frames := 1, cells := 0, slots := 0, locals := 24 } : Room) s m (List.toArray [.ref o_b]) below meth c H locs 0 0 (MQ below ((ob_Qv (dC, dI) (ob_w5 o_b a_b cI cZ b')) A) (List.toArray [.ref o_b]) s 0 0 A) (F0 m 39 ls []) := by
    intro  H locs b ls hP hD hS hl hd
    rw [fd_X5_note_L39] at hd
    refine lv_aload_n hx hb dX5_note_39 rfl (lv_at hl 0 rfl) ?_
    refine lv_dup hx hb dX5_note_40 rfl ?_
    refine va_get (D := (dC, dI)) (ci := 5) (v := .int (b.1 18)) (C := RX5) (T := TX5) (N := 23) hx hb hts hi_X5 hown hK hP 0 rfl rfl 18 (by decide) kw0 (fun _ h9 => h9) rfl dX5_note_41 ?_
    refine lv_iconst (v := 1) hx hb dX5_note_44 (by decide) ?_
    refine lv_isub hx hb dX5_note_45 ?_
    refine lv_topi (fun x_8 ex_8 => ?_)
    replace hd := ob_lx ex_8 hd
    clear ex_8
    refine va_put (D := (dC, dI)) (ci := 5) (v := .int x_8) (ty := .int) (C := RX5) (T := TX5) (N := 23) hx hb hts hi_X5 tyX5 tyX5_ok nmX5 hown hK hP hD hS 0 rfl rfl 18 (by decide) kw0 (fun _ h9 => h9) rfl (by decide +kernel) rfl rfl (Nat.le_of_ble_eq_true rfl) dX5_note_46 (fun H locs hP hD hS => ?_)
    obtain ⟨b_9, eb_9⟩ : ∃ z : ob_B, z = ob_I b 18 x_8 := ⟨_, rfl⟩
    replace hd := ob_lx eb_9 hd
    replace hP : va_P (dC, dI) vwCl (ob_w5 o_b a_b cI cZ b_9) H := by rw [eb_9]; exact hP
    replace hD : va_D A (ob_w5 o_b a_b cI cZ b_9) := by rw [eb_9]; exact hD
    clear eb_9
    exact L49   _ _ b_9 _ hP hD hS (lv_sub hl [0] rfl) hd
  have L11 : ∀  (fu : Nat), ∀ (H : Heap) (locs : List Loc) (b : ob_B) (z1 : Int32) (ls : Array Slot), va_P (dC, dI) vwCl (ob_w5 o_b a_b cI cZ b) H → va_D A (ob_w5 o_b a_b cI cZ b) → va_S A s.heap H locs → lv_has ls 2 [(0, .ref o_b), (1, .int z1)] → fd_X5_note_L11 fu b z1 = some (b') → W p l e ({ frames := 1, cells := 0, slots := 0, locals := 24 } : Room) s m (List.toArray [.ref o_b]) below meth c H locs 0 0 (MQ below ((ob_Qv (dC, dI) (ob_w5 o_b a_b cI cZ b')) A) (List.toArray [.ref o_b]) s 0 0 A) (F0 m 11 ls []) := by
    intro  fu
    induction fu with
    | zero =>
      intro H locs b z1 ls hP hD hS hl hd
      rw [fd_X5_note_L11] at hd
      cases hd
    | succ fu ih =>
      intro H locs b z1 ls hP hD hS hl hd
      rw [fd_X5_note_L11] at hd
      refine lv_iload_n hx hb dX5_note_11 rfl (lv_at hl 1 rfl) ?_
      refine lv_sipush (v := 966) hx hb dX5_note_12 (by decide) ?_
      refine lv_icmp_ge (tgt := 39) hx hb dX5_note_15 (by decide) (fun c_15 => ?_) (fun c_15 => ?_)
      · replace hd := ob_t c_15 hd
        exact L39   _ _ b _ hP hD hS (lv_sub hl [0] rfl) hd
      · replace hd := ob_f c_15 hd
        refine lv_aload_n hx hb dX5_note_18 rfl (lv_at hl 0 rfl) ?_
        refine va_get (D := (dC, dI)) (ci := 5) (v := .ref (a_b 17)) (C := RX5) (T := TX5) (N := 23) hx hb hts hi_X5 hown hK hP 0 rfl rfl 17 (by decide) kw2 (fun _ h9 => h9) rfl dX5_note_19 ?_
        refine lv_iload_n hx hb dX5_note_22 rfl (lv_at hl 1 rfl) ?_
        refine lv_aload_n hx hb dX5_note_23 rfl (lv_at hl 0 rfl) ?_
        refine va_get (D := (dC, dI)) (ci := 5) (v := .ref (a_b 17)) (C := RX5) (T := TX5) (N := 23) hx hb hts hi_X5 hown hK hP 0 rfl rfl 17 (by decide) kw2 (fun _ h9 => h9) rfl dX5_note_24 ?_
        refine lv_iload_n hx hb dX5_note_27 rfl (lv_at hl 1 rfl) ?_
        refine lv_bipush (v := 42) hx hb dX5_note_28 (by decide) ?_
        refine lv_iadd hx hb dX5_note_30 ?_
        obtain ⟨h1_31, hd⟩ := ob_nn hd
        refine va_iald hx hb hK hP 10 0 rfl rfl h1_31 dX5_note_31 ?_
        refine lv_topi (fun x_5 ex_5 => ?_)
        replace hd := ob_lx ex_5 hd
        clear ex_5
        obtain ⟨h1_32, hd⟩ := ob_nn hd
        refine va_iast hx hb hK hP hD hS 10 0 rfl rfl h1_32 dX5_note_32 (fun H locs hP hD hS => ?_)
        obtain ⟨b_6, eb_6⟩ : ∃ z : ob_B, z = ob_A b 17 (upd (b.2 17) (Int32.toNatClampNeg z1) x_5) := ⟨_, rfl⟩
        replace hd := ob_lx eb_6 hd
        replace hP : va_P (dC, dI) vwCl (ob_w5 o_b a_b cI cZ b_6) H := by rw [eb_6]; exact hP
        replace hD : va_D A (ob_w5 o_b a_b cI cZ b_6) := by rw [eb_6]; exact hD
        clear eb_6
        obtain ⟨x_7, ex_7⟩ : ∃ z : Int32, z = z1 + 1 := ⟨_, rfl⟩
        replace hd := ob_lx ex_7 hd
        refine lv_iinc (v := x_7) (lv' := [(1, .int x_7), (0, .ref o_b)]) hx hb dX5_note_33 hl (k := 1) rfl (by rw [ex_7]; rfl) (by decide) rfl (fun ls hl => ?_)
        clear ex_7
        refine lv_goto (tgt := 11) hx hb dX5_note_36 (by decide) ?_
        exact ih _ _ b_6 x_7 _ hP hD hS (lv_sub hl [1, 0] rfl) hd
  refine lv_aload_n hx hb dX5_note_0 rfl (lv_at hl 0 rfl) ?_
  refine va_get (D := (dC, dI)) (ci := 5) (v := .int (b.1 18)) (C := RX5) (T := TX5) (N := 23) hx hb hts hi_X5 hown hK hP 0 rfl rfl 18 (by decide) kw0 (fun _ h9 => h9) rfl dX5_note_1 ?_
  refine lv_bipush (v := 24) hx hb dX5_note_4 (by decide) ?_
  refine lv_icmp_ne (tgt := 49) hx hb dX5_note_6 (by decide) (fun c_6 => ?_) (fun c_6 => ?_)
  · replace hd := ob_f c_6 hd
    exact L49   _ _ b _ hP hD hS (lv_sub hl [0] rfl) hd
  · replace hd := ob_t c_6 hd
    refine lv_iconst (v := 0) hx hb dX5_note_9 (by decide) ?_
    refine lv_istore_n (lv' := [(1, .int 0), (0, .ref o_b)]) hx hb dX5_note_10 rfl hl (by decide) rfl (fun ls hl => ?_)
    exact L11  2000 _ _ b 0 _ hP hD hS (lv_sub hl [1, 0] rfl) hd

def fd_X5_undo  (b : ob_B)  : Option (Int32 × ob_B) := if (b.1 18) = 0 then (some ((-1000002), b)) else (ob_lt ((b.1 18) - 1 : Int32) (fun x_1 => ob_lt (ob_I b 18 x_1 : ob_B) (fun b_2 => ob_b1 (fd_X5_lay 1008 42 ((b_2.2 17)) ((b_2.2 12)) (42 * (b_2.1 18)) 0) (fun f_3 => ob_lt (ob_A b_2 12 f_3 : ob_B) (fun b_4 => some (b_4.1 18, b_4))))))
set_option maxHeartbeats 4000000 in
set_option maxRecDepth 100000 in
theorem mt_X5_undo (l : Launch) (dC : Nat → ClassId) (dI : Nat → Nat → Nat) (cI cZ cR cW : ClassId) (xs : Nat → Nat) (sz : Nat) (o_b : Nat) (a_b : Nat → Nat) (b : ob_B)   (rr : Int32) (b' : ob_B) (hd : fd_X5_undo b = some (rr, b')) : ob_M l yX5_undo wsX5_undo ({ frames := 1, cells := 0, slots := 0, locals := 24 } : Room) (dC, dI) (ob_ty cI cZ cR cW) xs [.ref o_b] (ob_w5 o_b a_b cI cZ b) sz (ob_Qi (dC, dI) rr (ob_w5 o_b a_b cI cZ b')) := by
  rw [fd_X5_undo] at hd
  refine ob_in (cc := cX5_undo) (maxL := 1) (ret := (some .int)) (own := RX5) (by decide) rfl rfl [(0, .ref o_b)] rfl (Nat.le_of_ble_eq_true rfl) ?_
  intro p e s m below meth c hx hb hr hml hown hts hlocks hnm hK A hA hE hP hD hS ls hl
  have kw0 := hts (.fieldLink RX5 127 "OathCoachModel" "acts" "I") (by decide +kernel)
  have kw1 := hts (.fieldLink RX5 38 "OathCoachModel" "actOf" "[I") (by decide +kernel)
  have kw2 := hts (.fieldLink RX5 22 "OathCoachModel" "now" "[I") (by decide +kernel)
  have kw3 := hts (.constant RX5 130 (-1000002)) (by decide +kernel)
  have hi_X5 : ∀ w ∈ u_ws RX5 TX5 23, w ∈ wsX5_undo := by decide +kernel
  refine lv_aload_n hx hb dX5_undo_0 rfl (lv_at hl 0 rfl) ?_
  refine va_get (D := (dC, dI)) (ci := 5) (v := .int (b.1 18)) (C := RX5) (T := TX5) (N := 23) hx hb hts hi_X5 hown hK hP 0 rfl rfl 18 (by decide) kw0 (fun _ h9 => h9) rfl dX5_undo_1 ?_
  refine lv_if_ne (tgt := 10) hx hb dX5_undo_4 (by decide) (fun c_4 => ?_) (fun c_4 => ?_)
  · replace hd := ob_f c_4 hd
    refine lv_aload_n hx hb dX5_undo_10 rfl (lv_at hl 0 rfl) ?_
    refine lv_dup hx hb dX5_undo_11 rfl ?_
    refine va_get (D := (dC, dI)) (ci := 5) (v := .int (b.1 18)) (C := RX5) (T := TX5) (N := 23) hx hb hts hi_X5 hown hK hP 0 rfl rfl 18 (by decide) kw0 (fun _ h9 => h9) rfl dX5_undo_12 ?_
    refine lv_iconst (v := 1) hx hb dX5_undo_15 (by decide) ?_
    refine lv_isub hx hb dX5_undo_16 ?_
    refine lv_topi (fun x_1 ex_1 => ?_)
    replace hd := ob_lx ex_1 hd
    clear ex_1
    refine va_put (D := (dC, dI)) (ci := 5) (v := .int x_1) (ty := .int) (C := RX5) (T := TX5) (N := 23) hx hb hts hi_X5 tyX5 tyX5_ok nmX5 hown hK hP hD hS 0 rfl rfl 18 (by decide) kw0 (fun _ h9 => h9) rfl (by decide +kernel) rfl rfl (Nat.le_of_ble_eq_true rfl) dX5_undo_17 (fun H locs hP hD hS => ?_)
    obtain ⟨b_2, eb_2⟩ : ∃ z : ob_B, z = ob_I b 18 x_1 := ⟨_, rfl⟩
    replace hd := ob_lx eb_2 hd
    replace hP : va_P (dC, dI) vwCl (ob_w5 o_b a_b cI cZ b_2) H := by rw [eb_2]; exact hP
    replace hD : va_D A (ob_w5 o_b a_b cI cZ b_2) := by rw [eb_2]; exact hD
    clear eb_2
    refine lv_aload_n hx hb dX5_undo_20 rfl (lv_at hl 0 rfl) ?_
    refine va_get (D := (dC, dI)) (ci := 5) (v := .ref (a_b 17)) (C := RX5) (T := TX5) (N := 23) hx hb hts hi_X5 hown hK hP 0 rfl rfl 17 (by decide) kw1 (fun _ h9 => h9) rfl dX5_undo_21 ?_
    refine lv_bipush (v := 42) hx hb dX5_undo_24 (by decide) ?_
    refine lv_aload_n hx hb dX5_undo_26 rfl (lv_at hl 0 rfl) ?_
    refine va_get (D := (dC, dI)) (ci := 5) (v := .int (b_2.1 18)) (C := RX5) (T := TX5) (N := 23) hx hb hts hi_X5 hown hK hP 0 rfl rfl 18 (by decide) kw0 (fun _ h9 => h9) rfl dX5_undo_27 ?_
    refine lv_imul hx hb dX5_undo_30 ?_
    refine lv_aload_n hx hb dX5_undo_31 rfl (lv_at hl 0 rfl) ?_
    refine va_get (D := (dC, dI)) (ci := 5) (v := .ref (a_b 12)) (C := RX5) (T := TX5) (N := 23) hx hb hts hi_X5 hown hK hP 0 rfl rfl 12 (by decide) kw2 (fun _ h9 => h9) rfl dX5_undo_32 ?_
    refine lv_iconst (v := 0) hx hb dX5_undo_35 (by decide) ?_
    obtain ⟨f_3, hc_36, hd⟩ := ob_s1 hd
    refine ob_Sv (isC := [10, 5]) (isR := [0, 1, 2, 3, 4, 6, 7, 8, 9, 11, 12, 13]) (is2 := [0, 1, 2, 3, 4, 13, 5, 6, 7, 8, 12, 9, 10, 11]) (wc := (ob_wa (a_b 17) cI 1008 (b_2.2 17) ++ ob_wa (a_b 12) cI 42 (b_2.2 12))) (wr := (List.filterMap (fun i => (ob_w5 o_b a_b cI cZ b_2)[i]?) [0, 1, 2, 3, 4, 6, 7, 8, 9, 11, 12, 13])) (w1 := (ob_wa (a_b 17) cI 1008 (b_2.2 17) ++ ob_wa (a_b 12) cI 42 f_3)) (w2 := (ob_w5 o_b a_b cI cZ (ob_A b_2 12 f_3))) (As := [.ref (a_b 17), .int (42 * (b_2.1 18)), .ref (a_b 12), .int 0]) (rest := []) ⟨hx, hb, hml, hown, hts⟩ (mt_X5_lay l dC dI cI cZ cR cW xs _ ((a_b 17)) 1008 ((a_b 12)) 42 ((b_2.2 17)) ((b_2.2 12)) (42 * (b_2.1 18)) 0 f_3 hc_36) (va_cwS 4 hts gX5_undo_X5_lay rfl rfl rfl (by decide +kernel) ⟨Nat.le_of_ble_eq_true rfl, Nat.le_of_ble_eq_true rfl⟩) hK hE hP hD hS hA ⟨rfl, rfl, rfl, rfl, rfl, rfl, rfl⟩ hl rfl rfl (Nat.le_of_ble_eq_true rfl) ⟨Nat.le_of_ble_eq_true rfl, Nat.le_of_ble_eq_true rfl⟩ dX5_undo_36 (fun H locs hP hD hS => ?_)
    refine W.widen (k := 0) (n := 0) (Nat.le_refl _) (Nat.le_refl _) ?_
    obtain ⟨b_4, eb_4⟩ : ∃ z : ob_B, z = ob_A b_2 12 f_3 := ⟨_, rfl⟩
    replace hd := ob_lx eb_4 hd
    replace hP : va_P (dC, dI) vwCl (ob_w5 o_b a_b cI cZ b_4) H := by rw [eb_4]; exact hP
    replace hD : va_D A (ob_w5 o_b a_b cI cZ b_4) := by rw [eb_4]; exact hD
    clear eb_4
    refine lv_aload_n hx hb dX5_undo_39 rfl (lv_at hl 0 rfl) ?_
    refine va_get (D := (dC, dI)) (ci := 5) (v := .int (b_4.1 18)) (C := RX5) (T := TX5) (N := 23) hx hb hts hi_X5 hown hK hP 0 rfl rfl 18 (by decide) kw0 (fun _ h9 => h9) rfl dX5_undo_40 ?_
    obtain ⟨e1, e2⟩ := ob_pp hd
    subst e1
    subst e2
    exact ob_iret hx hb hr hlocks hP hD hS dX5_undo_43
  · replace hd := ob_t c_4 hd
    refine lv_ldc hx hb hown kw3 dX5_undo_7 ?_
    obtain ⟨e1, e2⟩ := ob_pp hd
    subst e1
    subst e2
    exact ob_iret hx hb hr hlocks hP hD hS dX5_undo_9

def fd_X5_hours_L65  (b : ob_B)  : Option (Int32 × ob_B) := some ((b.2 12) (Int32.toNatClampNeg 0), b)
def fd_X5_hours_L42  : Nat → ob_B → Int32 → Int32 → Option (Int32 × ob_B)
  | 0, _, _, _ => none
  | fu + 1, b, x1, z2 => if x1 ≤ z2 then (fd_X5_hours_L65 b) else (ob_b1 (fd_X5_note b) (fun b_3 => ob_b2 (fd_X5_pass ((b_3.2 12))) (fun r_4 f_5 => ob_lt (ob_A b_3 12 f_5 : ob_B) (fun b_6 => ob_lt (z2 + 1 : Int32) (fun x_7 => fd_X5_hours_L42 fu b_6 x1 x_7)))))
def fd_X5_hours  (b : ob_B) (x1 : Int32) : Option (Int32 × ob_B) := ob_b1 (fd_X5_isRoute b) (fun r_1 => if r_1 = 0 then (some ((-1000002), b)) else (ob_b1 (fd_X5_in x1 1 24) (fun r_2 => if r_2 = 0 then (some ((-1000001), b)) else (if (((b.2 12) (Int32.toNatClampNeg 3)) + x1) ≤ 999 then (fd_X5_hours_L42 2000 b x1 0) else (some ((-1000003), b))))))
set_option maxHeartbeats 4000000 in
set_option maxRecDepth 100000 in
theorem mt_X5_hours (l : Launch) (dC : Nat → ClassId) (dI : Nat → Nat → Nat) (cI cZ cR cW : ClassId) (xs : Nat → Nat) (sz : Nat) (o_b : Nat) (a_b : Nat → Nat) (b : ob_B) (x1 : Int32)  (rr : Int32) (b' : ob_B) (hd : fd_X5_hours b x1 = some (rr, b')) : ob_M l yX5_hours wsX5_hours ({ frames := 4, cells := 0, slots := 0, locals := 92 } : Room) (dC, dI) (ob_ty cI cZ cR cW) xs [.ref o_b, .int x1] (ob_w5 o_b a_b cI cZ b) sz (ob_Qi (dC, dI) rr (ob_w5 o_b a_b cI cZ b')) := by
  rw [fd_X5_hours] at hd
  refine ob_in (cc := cX5_hours) (maxL := 3) (ret := (some .int)) (own := RX5) (by decide) rfl rfl [(0, .ref o_b), (1, .int x1)] rfl (Nat.le_of_ble_eq_true rfl) ?_
  intro p e s m below meth c hx hb hr hml hown hts hlocks hnm hK A hA hE hP hD hS ls hl
  have kw0 := hts (.fieldLink RX5 22 "OathCoachModel" "now" "[I") (by decide +kernel)
  have kw1 := hts (.constant RX5 77 (-1000003)) (by decide +kernel)
  have kw2 := hts (.constant RX5 63 (-1000001)) (by decide +kernel)
  have kw3 := hts (.constant RX5 130 (-1000002)) (by decide +kernel)
  have hi_X5 : ∀ w ∈ u_ws RX5 TX5 23, w ∈ wsX5_hours := by decide +kernel
  have L65 : ∀ (H : Heap) (locs : List Loc) (b : ob_B)  (ls : Array Slot), va_P (dC, dI) vwCl (ob_w5 o_b a_b cI cZ b) H → va_D A (ob_w5 o_b a_b cI cZ b) → va_S A s.heap H locs → lv_has ls 3 [(0, .ref o_b)] → fd_X5_hours_L65 b = some (rr, b') → W p l e ({ frames := 4, cells := 0, slots := 0, locals := 92 } : Room) s m (List.toArray [.ref o_b, .int x1]) below meth c H locs 0 0 (MQ below ((ob_Qi (dC, dI) rr (ob_w5 o_b a_b cI cZ b')) A) (List.toArray [.ref o_b, .int x1]) s 0 0 A) (F0 m 65 ls []) := by
    intro  H locs b ls hP hD hS hl hd
    rw [fd_X5_hours_L65] at hd
    refine lv_aload_n hx hb dX5_hours_65 rfl (lv_at hl 0 rfl) ?_
    refine va_get (D := (dC, dI)) (ci := 5) (v := .ref (a_b 12)) (C := RX5) (T := TX5) (N := 23) hx hb hts hi_X5 hown hK hP 0 rfl rfl 12 (by decide) kw0 (fun _ h9 => h9) rfl dX5_hours_66 ?_
    refine lv_iconst (v := 0) hx hb dX5_hours_69 (by decide) ?_
    refine va_iald hx hb hK hP 5 0 rfl rfl (by unfold vp_in; decide) dX5_hours_70 ?_
    obtain ⟨e1, e2⟩ := ob_pp hd
    subst e1
    subst e2
    exact ob_iret hx hb hr hlocks hP hD hS dX5_hours_71
  have L42 : ∀  (fu : Nat), ∀ (H : Heap) (locs : List Loc) (b : ob_B) (z2 : Int32) (ls : Array Slot), va_P (dC, dI) vwCl (ob_w5 o_b a_b cI cZ b) H → va_D A (ob_w5 o_b a_b cI cZ b) → va_S A s.heap H locs → lv_has ls 3 [(0, .ref o_b), (1, .int x1), (2, .int z2)] → fd_X5_hours_L42 fu b x1 z2 = some (rr, b') → W p l e ({ frames := 4, cells := 0, slots := 0, locals := 92 } : Room) s m (List.toArray [.ref o_b, .int x1]) below meth c H locs 0 0 (MQ below ((ob_Qi (dC, dI) rr (ob_w5 o_b a_b cI cZ b')) A) (List.toArray [.ref o_b, .int x1]) s 0 0 A) (F0 m 42 ls []) := by
    intro  fu
    induction fu with
    | zero =>
      intro H locs b z2 ls hP hD hS hl hd
      rw [fd_X5_hours_L42] at hd
      cases hd
    | succ fu ih =>
      intro H locs b z2 ls hP hD hS hl hd
      rw [fd_X5_hours_L42] at hd
      refine lv_iload_n hx hb dX5_hours_42 rfl (lv_at hl 2 rfl) ?_
      refine lv_iload_n hx hb dX5_hours_43 rfl (lv_at hl 1 rfl) ?_
      refine lv_icmp_ge (tgt := 65) hx hb dX5_hours_44 (by decide) (fun c_44 => ?_) (fun c_44 => ?_)
      · replace hd := ob_t c_44 hd
        exact L65   _ _ b _ hP hD hS (lv_sub hl [0] rfl) hd
      · replace hd := ob_f c_44 hd
        refine lv_aload_n hx hb dX5_hours_47 rfl (lv_at hl 0 rfl) ?_
        obtain ⟨b_3, hc_48, hd⟩ := ob_s1 hd
        refine ob_Vv (isC := [0, 1, 2, 3, 4, 5, 6, 7, 8, 9, 10, 11, 12, 13]) (isR := []) (is2 := [0, 1, 2, 3, 4, 5, 6, 7, 8, 9, 10, 11, 12, 13]) (wc := (ob_w5 o_b a_b cI cZ b)) (wr := ([] : va_W)) (w1 := (ob_w5 o_b a_b cI cZ b_3)) (w2 := (ob_w5 o_b a_b cI cZ b_3)) (b := o_b) (As := []) (rest := []) ⟨hx, hb, hml, hown, hts⟩ (mt_X5_note l dC dI cI cZ cR cW xs _ o_b a_b b b_3 hc_48) (cwV 0 hts gX5_hours_X5_note rfl rfl rfl (by decide +kernel) ⟨Nat.le_of_ble_eq_true rfl, Nat.le_of_ble_eq_true rfl⟩) hK hE hP hD hS hA ⟨rfl, rfl, rfl, rfl, rfl, rfl, rfl⟩ 5 0 rfl rfl rfl hl rfl rfl (Nat.le_of_ble_eq_true rfl) ⟨Nat.le_of_ble_eq_true rfl, Nat.le_of_ble_eq_true rfl⟩ dX5_hours_48 (fun H locs hP hD hS => ?_)
        refine W.widen (k := 0) (n := 0) (Nat.le_refl _) (Nat.le_refl _) ?_
        refine lv_aload_n hx hb dX5_hours_51 rfl (lv_at hl 0 rfl) ?_
        refine va_get (D := (dC, dI)) (ci := 5) (v := .ref (a_b 12)) (C := RX5) (T := TX5) (N := 23) hx hb hts hi_X5 hown hK hP 0 rfl rfl 12 (by decide) kw0 (fun _ h9 => h9) rfl dX5_hours_52 ?_
        obtain ⟨r_4, f_5, hc_55, hd⟩ := ob_s2 hd
        refine ob_Si (isC := [5]) (isR := [0, 1, 2, 3, 4, 6, 7, 8, 9, 10, 11, 12, 13]) (is2 := [0, 1, 2, 3, 4, 13, 5, 6, 7, 8, 9, 10, 11, 12]) (wc := (ob_wa (a_b 12) cI 42 (b_3.2 12))) (wr := (List.filterMap (fun i => (ob_w5 o_b a_b cI cZ b_3)[i]?) [0, 1, 2, 3, 4, 6, 7, 8, 9, 10, 11, 12, 13])) (w1 := (ob_wa (a_b 12) cI 42 f_5)) (w2 := (ob_w5 o_b a_b cI cZ (ob_A b_3 12 f_5))) (As := [.ref (a_b 12)]) (rest := []) ⟨hx, hb, hml, hown, hts⟩ (mt_X5_pass l dC dI cI cZ cR cW xs _ ((a_b 12)) ((b_3.2 12)) r_4 f_5 hc_55) (va_cwS 1 hts gX5_hours_X5_pass rfl rfl rfl (by decide +kernel) ⟨Nat.le_of_ble_eq_true rfl, Nat.le_of_ble_eq_true rfl⟩) hK hE hP hD hS hA ⟨rfl, rfl, rfl, rfl, rfl, rfl, rfl⟩ hl rfl rfl (Nat.le_of_ble_eq_true rfl) ⟨Nat.le_of_ble_eq_true rfl, Nat.le_of_ble_eq_true rfl⟩ dX5_hours_55 (fun H locs hP hD hS => ?_)
        refine W.widen (k := 0) (n := 0) (Nat.le_refl _) (Nat.le_refl _) ?_
        obtain ⟨b_6, eb_6⟩ : ∃ z : ob_B, z = ob_A b_3 12 f_5 := ⟨_, rfl⟩
        replace hd := ob_lx eb_6 hd
        replace hP : va_P (dC, dI) vwCl (ob_w5 o_b a_b cI cZ b_6) H := by rw [eb_6]; exact hP
        replace hD : va_D A (ob_w5 o_b a_b cI cZ b_6) := by rw [eb_6]; exact hD
        clear eb_6
        refine lv_pop hx hb dX5_hours_58 rfl ?_
        obtain ⟨x_7, ex_7⟩ : ∃ z : Int32, z = z2 + 1 := ⟨_, rfl⟩
        replace hd := ob_lx ex_7 hd
        refine lv_iinc (v := x_7) (lv' := [(2, .int x_7), (0, .ref o_b), (1, .int x1)]) hx hb dX5_hours_59 hl (k := 2) rfl (by rw [ex_7]; rfl) (by decide) rfl (fun ls hl => ?_)
        clear ex_7
        refine lv_goto (tgt := 42) hx hb dX5_hours_62 (by decide) ?_
        exact ih _ _ b_6 x_7 _ hP hD hS (lv_sub hl [1, 2, 0] rfl) hd
  refine lv_aload_n hx hb dX5_hours_0 rfl (lv_at hl 0 rfl) ?_
  obtain ⟨r_1, hc_1, hd⟩ := ob_s1 hd
  refine ob_Vi (isC := [0, 1, 2, 3, 4, 5, 6, 7, 8, 9, 10, 11, 12, 13]) (isR := []) (is2 := [0, 1, 2, 3, 4, 5, 6, 7, 8, 9, 10, 11, 12, 13]) (wc := (ob_w5 o_b a_b cI cZ b)) (wr := ([] : va_W)) (w1 := (ob_w5 o_b a_b cI cZ b)) (w2 := (ob_w5 o_b a_b cI cZ b)) (b := o_b) (As := []) (rest := []) ⟨hx, hb, hml, hown, hts⟩ (mt_X5_isRoute l dC dI cI cZ cR cW xs _ o_b a_b b r_1 hc_1) (cwV 0 hts gX5_hours_X5_isRoute rfl rfl rfl (by decide +kernel) ⟨Nat.le_of_ble_eq_true rfl, Nat.le_of_ble_eq_true rfl⟩) hK hE hP hD hS hA ⟨rfl, rfl, rfl, rfl, rfl, rfl, rfl⟩ 5 0 rfl rfl rfl hl rfl rfl (Nat.le_of_ble_eq_true rfl) ⟨Nat.le_of_ble_eq_true rfl, Nat.le_of_ble_eq_true rfl⟩ dX5_hours_1 (fun H locs hP hD hS => ?_)
  refine W.widen (k := 0) (n := 0) (Nat.le_refl _) (Nat.le_refl _) ?_
  refine lv_if_ne (tgt := 10) hx hb dX5_hours_4 (by decide) (fun c_4 => ?_) (fun c_4 => ?_)
  · replace hd := ob_f c_4 hd
    refine lv_iload_n hx hb dX5_hours_10 rfl (lv_at hl 1 rfl) ?_
    refine lv_iconst (v := 1) hx hb dX5_hours_11 (by decide) ?_
    refine lv_bipush (v := 24) hx hb dX5_hours_12 (by decide) ?_
    obtain ⟨r_2, hc_14, hd⟩ := ob_s1 hd
    refine ob_Si (isC := []) (isR := [0, 1, 2, 3, 4, 5, 6, 7, 8, 9, 10, 11, 12, 13]) (is2 := [0, 1, 2, 3, 4, 5, 6, 7, 8, 9, 10, 11, 12, 13]) (wc := ([] : va_W)) (wr := (List.filterMap (fun i => (ob_w5 o_b a_b cI cZ b)[i]?) [0, 1, 2, 3, 4, 5, 6, 7, 8, 9, 10, 11, 12, 13])) (w1 := ([] : va_W)) (w2 := (ob_w5 o_b a_b cI cZ b)) (As := [.int x1, .int 1, .int 24]) (rest := []) ⟨hx, hb, hml, hown, hts⟩ (mt_X5_in l dC dI cI cZ cR cW xs _ x1 1 24 r_2 hc_14) (va_cwS 3 hts gX5_hours_X5_in rfl rfl rfl (by decide +kernel) ⟨Nat.le_of_ble_eq_true rfl, Nat.le_of_ble_eq_true rfl⟩) hK hE hP hD hS hA ⟨rfl, rfl, rfl, rfl, rfl, rfl, rfl⟩ hl rfl rfl (Nat.le_of_ble_eq_true rfl) ⟨Nat.le_of_ble_eq_true rfl, Nat.le_of_ble_eq_true rfl⟩ dX5_hours_14 (fun H locs hP hD hS => ?_)
    refine W.widen (k := 0) (n := 0) (Nat.le_refl _) (Nat.le_refl _) ?_
    refine lv_if_ne (tgt := 23) hx hb dX5_hours_17 (by decide) (fun c_17 => ?_) (fun c_17 => ?_)
    · replace hd := ob_f c_17 hd
      refine lv_aload_n hx hb dX5_hours_23 rfl (lv_at hl 0 rfl) ?_
      refine va_get (D := (dC, dI)) (ci := 5) (v := .ref (a_b 12)) (C := RX5) (T := TX5) (N := 23) hx hb hts hi_X5 hown hK hP 0 rfl rfl 12 (by decide) kw0 (fun _ h9 => h9) rfl dX5_hours_24 ?_
      refine lv_iconst (v := 3) hx hb dX5_hours_27 (by decide) ?_
      refine va_iald hx hb hK hP 5 0 rfl rfl (by unfold vp_in; decide) dX5_hours_28 ?_
      refine lv_iload_n hx hb dX5_hours_29 rfl (lv_at hl 1 rfl) ?_
      refine lv_iadd hx hb dX5_hours_30 ?_
      refine lv_sipush (v := 999) hx hb dX5_hours_31 (by decide) ?_
      refine lv_icmp_le (tgt := 40) hx hb dX5_hours_34 (by decide) (fun c_34 => ?_) (fun c_34 => ?_)
      · replace hd := ob_t c_34 hd
        refine lv_iconst (v := 0) hx hb dX5_hours_40 (by decide) ?_
        refine lv_istore_n (lv' := [(2, .int 0), (0, .ref o_b), (1, .int x1)]) hx hb dX5_hours_41 rfl hl (by decide) rfl (fun ls hl => ?_)
        exact L42  2000 _ _ b 0 _ hP hD hS (lv_sub hl [1, 2, 0] rfl) hd
      · replace hd := ob_f c_34 hd
        refine lv_ldc hx hb hown kw1 dX5_hours_37 ?_
        obtain ⟨e1, e2⟩ := ob_pp hd
        subst e1
        subst e2
        exact ob_iret hx hb hr hlocks hP hD hS dX5_hours_39
    · replace hd := ob_t c_17 hd
      refine lv_ldc hx hb hown kw2 dX5_hours_20 ?_
      obtain ⟨e1, e2⟩ := ob_pp hd
      subst e1
      subst e2
      exact ob_iret hx hb hr hlocks hP hD hS dX5_hours_22
  · replace hd := ob_t c_4 hd
    refine lv_ldc hx hb hown kw3 dX5_hours_7 ?_
    obtain ⟨e1, e2⟩ := ob_pp hd
    subst e1
    subst e2
    exact ob_iret hx hb hr hlocks hP hD hS dX5_hours_9

def fd_X5_swear  (b : ob_B) (x1 : Int32) (x2 : Int32) (x3 : Int32) : Option (Int32 × ob_B) := ob_b1 (fd_X5_isOne b x1) (fun r_1 => if r_1 = 0 then (some ((-1000001), b)) else (ob_b1 (fd_X5_in x2 0 9) (fun r_2 => if r_2 = 0 then (some ((-1000001), b)) else (ob_b1 (fd_X5_in x3 1 20) (fun r_3 => if r_3 = 0 then (some ((-1000001), b)) else (ob_b1 (fd_X5_note b) (fun b_4 => if (14 + x1) < 0 ∨ 42 ≤ Int32.toNatClampNeg (14 + x1) then none else (ob_lt (ob_A b_4 12 (upd (b_4.2 12) (Int32.toNatClampNeg (14 + x1)) x2) : ob_B) (fun b_5 => if (21 + x1) < 0 ∨ 42 ≤ Int32.toNatClampNeg (21 + x1) then none else (ob_lt (ob_A b_5 12 (upd (b_5.2 12) (Int32.toNatClampNeg (21 + x1)) x3) : ob_B) (fun b_6 => if (35 + x1) < 0 ∨ 42 ≤ Int32.toNatClampNeg (35 + x1) then none else (ob_lt (ob_A b_6 12 (upd (b_6.2 12) (Int32.toNatClampNeg (35 + x1)) 0) : ob_B) (fun b_7 => ob_b1 (fd_X5_pullOf ((b_7.2 12)) x1) (fun r_8 => some (r_8, b_7)))))))))))))))
set_option maxHeartbeats 4000000 in
set_option maxRecDepth 100000 in
theorem mt_X5_swear (l : Launch) (dC : Nat → ClassId) (dI : Nat → Nat → Nat) (cI cZ cR cW : ClassId) (xs : Nat → Nat) (sz : Nat) (o_b : Nat) (a_b : Nat → Nat) (b : ob_B) (x1 : Int32) (x2 : Int32) (x3 : Int32)  (rr : Int32) (b' : ob_B) (hd : fd_X5_swear b x1 x2 x3 = some (rr, b')) : ob_M l yX5_swear wsX5_swear ({ frames := 2, cells := 0, slots := 0, locals := 45 } : Room) (dC, dI) (ob_ty cI cZ cR cW) xs [.ref o_b, .int x1, .int x2, .int x3] (ob_w5 o_b a_b cI cZ b) sz (ob_Qi (dC, dI) rr (ob_w5 o_b a_b cI cZ b')) := by
  rw [fd_X5_swear] at hd
  refine ob_in (cc := cX5_swear) (maxL := 4) (ret := (some .int)) (own := RX5) (by decide) rfl rfl [(0, .ref o_b), (1, .int x1), (2, .int x2), (3, .int x3)] rfl (Nat.le_of_ble_eq_true rfl) ?_
  intro p e s m below meth c hx hb hr hml hown hts hlocks hnm hK A hA hE hP hD hS ls hl
  have kw0 := hts (.constant RX5 63 (-1000001)) (by decide +kernel)
  have kw1 := hts (.fieldLink RX5 22 "OathCoachModel" "now" "[I") (by decide +kernel)
  have hi_X5 : ∀ w ∈ u_ws RX5 TX5 23, w ∈ wsX5_swear := by decide +kernel
  refine lv_aload_n hx hb dX5_swear_0 rfl (lv_at hl 0 rfl) ?_
  refine lv_iload_n hx hb dX5_swear_1 rfl (lv_at hl 1 rfl) ?_
  obtain ⟨r_1, hc_2, hd⟩ := ob_s1 hd
  refine ob_Vi (isC := [0, 1, 2, 3, 4, 5, 6, 7, 8, 9, 10, 11, 12, 13]) (isR := []) (is2 := [0, 1, 2, 3, 4, 5, 6, 7, 8, 9, 10, 11, 12, 13]) (wc := (ob_w5 o_b a_b cI cZ b)) (wr := ([] : va_W)) (w1 := (ob_w5 o_b a_b cI cZ b)) (w2 := (ob_w5 o_b a_b cI cZ b)) (b := o_b) (As := [.int x1]) (rest := []) ⟨hx, hb, hml, hown, hts⟩ (mt_X5_isOne l dC dI cI cZ cR cW xs _ o_b a_b b x1 r_1 hc_2) (cwV 1 hts gX5_swear_X5_isOne rfl rfl rfl (by decide +kernel) ⟨Nat.le_of_ble_eq_true rfl, Nat.le_of_ble_eq_true rfl⟩) hK hE hP hD hS hA ⟨rfl, rfl, rfl, rfl, rfl, rfl, rfl⟩ 5 0 rfl rfl rfl hl rfl rfl (Nat.le_of_ble_eq_true rfl) ⟨Nat.le_of_ble_eq_true rfl, Nat.le_of_ble_eq_true rfl⟩ dX5_swear_2 (fun H locs hP hD hS => ?_)
  refine W.widen (k := 0) (n := 0) (Nat.le_refl _) (Nat.le_refl _) ?_
  refine lv_if_eq (tgt := 28) hx hb dX5_swear_5 (by decide) (fun c_5 => ?_) (fun c_5 => ?_)
  · replace hd := ob_t c_5 hd
    refine lv_ldc hx hb hown kw0 dX5_swear_28 ?_
    obtain ⟨e1, e2⟩ := ob_pp hd
    subst e1
    subst e2
    exact ob_iret hx hb hr hlocks hP hD hS dX5_swear_30
  · replace hd := ob_f c_5 hd
    refine lv_iload_n hx hb dX5_swear_8 rfl (lv_at hl 2 rfl) ?_
    refine lv_iconst (v := 0) hx hb dX5_swear_9 (by decide) ?_
    refine lv_bipush (v := 9) hx hb dX5_swear_10 (by decide) ?_
    obtain ⟨r_2, hc_12, hd⟩ := ob_s1 hd
    refine ob_Si (isC := []) (isR := [0, 1, 2, 3, 4, 5, 6, 7, 8, 9, 10, 11, 12, 13]) (is2 := [0, 1, 2, 3, 4, 5, 6, 7, 8, 9, 10, 11, 12, 13]) (wc := ([] : va_W)) (wr := (List.filterMap (fun i => (ob_w5 o_b a_b cI cZ b)[i]?) [0, 1, 2, 3, 4, 5, 6, 7, 8, 9, 10, 11, 12, 13])) (w1 := ([] : va_W)) (w2 := (ob_w5 o_b a_b cI cZ b)) (As := [.int x2, .int 0, .int 9]) (rest := []) ⟨hx, hb, hml, hown, hts⟩ (mt_X5_in l dC dI cI cZ cR cW xs _ x2 0 9 r_2 hc_12) (va_cwS 3 hts gX5_swear_X5_in rfl rfl rfl (by decide +kernel) ⟨Nat.le_of_ble_eq_true rfl, Nat.le_of_ble_eq_true rfl⟩) hK hE hP hD hS hA ⟨rfl, rfl, rfl, rfl, rfl, rfl, rfl⟩ hl rfl rfl (Nat.le_of_ble_eq_true rfl) ⟨Nat.le_of_ble_eq_true rfl, Nat.le_of_ble_eq_true rfl⟩ dX5_swear_12 (fun H locs hP hD hS => ?_)
    refine W.widen (k := 0) (n := 0) (Nat.le_refl _) (Nat.le_refl _) ?_
    refine lv_if_eq (tgt := 28) hx hb dX5_swear_15 (by decide) (fun c_15 => ?_) (fun c_15 => ?_)
    · replace hd := ob_t c_15 hd
      refine lv_ldc hx hb hown kw0 dX5_swear_28 ?_
      obtain ⟨e1, e2⟩ := ob_pp hd
      subst e1
      subst e2
      exact ob_iret hx hb hr hlocks hP hD hS dX5_swear_30
    · replace hd := ob_f c_15 hd
      refine lv_iload_n hx hb dX5_swear_18 rfl (lv_at hl 3 rfl) ?_
      refine lv_iconst (v := 1) hx hb dX5_swear_19 (by decide) ?_
      refine lv_bipush (v := 20) hx hb dX5_swear_20 (by decide) ?_
      obtain ⟨r_3, hc_22, hd⟩ := ob_s1 hd
      refine ob_Si (isC := []) (isR := [0, 1, 2, 3, 4, 5, 6, 7, 8, 9, 10, 11, 12, 13]) (is2 := [0, 1, 2, 3, 4, 5, 6, 7, 8, 9, 10, 11, 12, 13]) (wc := ([] : va_W)) (wr := (List.filterMap (fun i => (ob_w5 o_b a_b cI cZ b)[i]?) [0, 1, 2, 3, 4, 5, 6, 7, 8, 9, 10, 11, 12, 13])) (w1 := ([] : va_W)) (w2 := (ob_w5 o_b a_b cI cZ b)) (As := [.int x3, .int 1, .int 20]) (rest := []) ⟨hx, hb, hml, hown, hts⟩ (mt_X5_in l dC dI cI cZ cR cW xs _ x3 1 20 r_3 hc_22) (va_cwS 3 hts gX5_swear_X5_in rfl rfl rfl (by decide +kernel) ⟨Nat.le_of_ble_eq_true rfl, Nat.le_of_ble_eq_true rfl⟩) hK hE hP hD hS hA ⟨rfl, rfl, rfl, rfl, rfl, rfl, rfl⟩ hl rfl rfl (Nat.le_of_ble_eq_true rfl) ⟨Nat.le_of_ble_eq_true rfl, Nat.le_of_ble_eq_true rfl⟩ dX5_swear_22 (fun H locs hP hD hS => ?_)
      refine W.widen (k := 0) (n := 0) (Nat.le_refl _) (Nat.le_refl _) ?_
      refine lv_if_ne (tgt := 31) hx hb dX5_swear_25 (by decide) (fun c_25 => ?_) (fun c_25 => ?_)
      · replace hd := ob_f c_25 hd
        refine lv_aload_n hx hb dX5_swear_31 rfl (lv_at hl 0 rfl) ?_
        obtain ⟨b_4, hc_32, hd⟩ := ob_s1 hd
        refine ob_Vv (isC := [0, 1, 2, 3, 4, 5, 6, 7, 8, 9, 10, 11, 12, 13]) (isR := []) (is2 := [0, 1, 2, 3, 4, 5, 6, 7, 8, 9, 10, 11, 12, 13]) (wc := (ob_w5 o_b a_b cI cZ b)) (wr := ([] : va_W)) (w1 := (ob_w5 o_b a_b cI cZ b_4)) (w2 := (ob_w5 o_b a_b cI cZ b_4)) (b := o_b) (As := []) (rest := []) ⟨hx, hb, hml, hown, hts⟩ (mt_X5_note l dC dI cI cZ cR cW xs _ o_b a_b b b_4 hc_32) (cwV 0 hts gX5_swear_X5_note rfl rfl rfl (by decide +kernel) ⟨Nat.le_of_ble_eq_true rfl, Nat.le_of_ble_eq_true rfl⟩) hK hE hP hD hS hA ⟨rfl, rfl, rfl, rfl, rfl, rfl, rfl⟩ 5 0 rfl rfl rfl hl rfl rfl (Nat.le_of_ble_eq_true rfl) ⟨Nat.le_of_ble_eq_true rfl, Nat.le_of_ble_eq_true rfl⟩ dX5_swear_32 (fun H locs hP hD hS => ?_)
        refine W.widen (k := 0) (n := 0) (Nat.le_refl _) (Nat.le_refl _) ?_
        refine lv_aload_n hx hb dX5_swear_35 rfl (lv_at hl 0 rfl) ?_
        refine va_get (D := (dC, dI)) (ci := 5) (v := .ref (a_b 12)) (C := RX5) (T := TX5) (N := 23) hx hb hts hi_X5 hown hK hP 0 rfl rfl 12 (by decide) kw1 (fun _ h9 => h9) rfl dX5_swear_36 ?_
        refine lv_bipush (v := 14) hx hb dX5_swear_39 (by decide) ?_
        refine lv_iload_n hx hb dX5_swear_41 rfl (lv_at hl 1 rfl) ?_
        refine lv_iadd hx hb dX5_swear_42 ?_
        refine lv_iload_n hx hb dX5_swear_43 rfl (lv_at hl 2 rfl) ?_
        obtain ⟨h1_44, hd⟩ := ob_nn hd
        refine va_iast hx hb hK hP hD hS 5 0 rfl rfl h1_44 dX5_swear_44 (fun H locs hP hD hS => ?_)
        obtain ⟨b_5, eb_5⟩ : ∃ z : ob_B, z = ob_A b_4 12 (upd (b_4.2 12) (Int32.toNatClampNeg (14 + x1)) x2) := ⟨_, rfl⟩
        replace hd := ob_lx eb_5 hd
        replace hP : va_P (dC, dI) vwCl (ob_w5 o_b a_b cI cZ b_5) H := by rw [eb_5]; exact hP
        replace hD : va_D A (ob_w5 o_b a_b cI cZ b_5) := by rw [eb_5]; exact hD
        clear eb_5
        refine lv_aload_n hx hb dX5_swear_45 rfl (lv_at hl 0 rfl) ?_
        refine va_get (D := (dC, dI)) (ci := 5) (v := .ref (a_b 12)) (C := RX5) (T := TX5) (N := 23) hx hb hts hi_X5 hown hK hP 0 rfl rfl 12 (by decide) kw1 (fun _ h9 => h9) rfl dX5_swear_46 ?_
        refine lv_bipush (v := 21) hx hb dX5_swear_49 (by decide) ?_
        refine lv_iload_n hx hb dX5_swear_51 rfl (lv_at hl 1 rfl) ?_
        refine lv_iadd hx hb dX5_swear_52 ?_
        refine lv_iload_n hx hb dX5_swear_53 rfl (lv_at hl 3 rfl) ?_
        obtain ⟨h1_54, hd⟩ := ob_nn hd
        refine va_iast hx hb hK hP hD hS 5 0 rfl rfl h1_54 dX5_swear_54 (fun H locs hP hD hS => ?_)
        obtain ⟨b_6, eb_6⟩ : ∃ z : ob_B, z = ob_A b_5 12 (upd (b_5.2 12) (Int32.toNatClampNeg (21 + x1)) x3) := ⟨_, rfl⟩
        replace hd := ob_lx eb_6 hd
        replace hP : va_P (dC, dI) vwCl (ob_w5 o_b a_b cI cZ b_6) H := by rw [eb_6]; exact hP
        replace hD : va_D A (ob_w5 o_b a_b cI cZ b_6) := by rw [eb_6]; exact hD
        clear eb_6
        refine lv_aload_n hx hb dX5_swear_55 rfl (lv_at hl 0 rfl) ?_
        refine va_get (D := (dC, dI)) (ci := 5) (v := .ref (a_b 12)) (C := RX5) (T := TX5) (N := 23) hx hb hts hi_X5 hown hK hP 0 rfl rfl 12 (by decide) kw1 (fun _ h9 => h9) rfl dX5_swear_56 ?_
        refine lv_bipush (v := 35) hx hb dX5_swear_59 (by decide) ?_
        refine lv_iload_n hx hb dX5_swear_61 rfl (lv_at hl 1 rfl) ?_
        refine lv_iadd hx hb dX5_swear_62 ?_
        refine lv_iconst (v := 0) hx hb dX5_swear_63 (by decide) ?_
        obtain ⟨h1_64, hd⟩ := ob_nn hd
        refine va_iast hx hb hK hP hD hS 5 0 rfl rfl h1_64 dX5_swear_64 (fun H locs hP hD hS => ?_)
        obtain ⟨b_7, eb_7⟩ : ∃ z : ob_B, z = ob_A b_6 12 (upd (b_6.2 12) (Int32.toNatClampNeg (35 + x1)) 0) := ⟨_, rfl⟩
        replace hd := ob_lx eb_7 hd
        replace hP : va_P (dC, dI) vwCl (ob_w5 o_b a_b cI cZ b_7) H := by rw [eb_7]; exact hP
        replace hD : va_D A (ob_w5 o_b a_b cI cZ b_7) := by rw [eb_7]; exact hD
        clear eb_7
        refine lv_aload_n hx hb dX5_swear_65 rfl (lv_at hl 0 rfl) ?_
        refine va_get (D := (dC, dI)) (ci := 5) (v := .ref (a_b 12)) (C := RX5) (T := TX5) (N := 23) hx hb hts hi_X5 hown hK hP 0 rfl rfl 12 (by decide) kw1 (fun _ h9 => h9) rfl dX5_swear_66 ?_
        refine lv_iload_n hx hb dX5_swear_69 rfl (lv_at hl 1 rfl) ?_
        obtain ⟨r_8, hc_70, hd⟩ := ob_s1 hd
        refine ob_Si (isC := [5]) (isR := [0, 1, 2, 3, 4, 6, 7, 8, 9, 10, 11, 12, 13]) (is2 := [0, 1, 2, 3, 4, 13, 5, 6, 7, 8, 9, 10, 11, 12]) (wc := (ob_wa (a_b 12) cI 42 (b_7.2 12))) (wr := (List.filterMap (fun i => (ob_w5 o_b a_b cI cZ b_7)[i]?) [0, 1, 2, 3, 4, 6, 7, 8, 9, 10, 11, 12, 13])) (w1 := (ob_wa (a_b 12) cI 42 (b_7.2 12))) (w2 := (ob_w5 o_b a_b cI cZ b_7)) (As := [.ref (a_b 12), .int x1]) (rest := []) ⟨hx, hb, hml, hown, hts⟩ (mt_X5_pullOf l dC dI cI cZ cR cW xs _ ((a_b 12)) ((b_7.2 12)) x1 r_8 hc_70) (va_cwS 2 hts gX5_swear_X5_pullOf rfl rfl rfl (by decide +kernel) ⟨Nat.le_of_ble_eq_true rfl, Nat.le_of_ble_eq_true rfl⟩) hK hE hP hD hS hA ⟨rfl, rfl, rfl, rfl, rfl, rfl, rfl⟩ hl rfl rfl (Nat.le_of_ble_eq_true rfl) ⟨Nat.le_of_ble_eq_true rfl, Nat.le_of_ble_eq_true rfl⟩ dX5_swear_70 (fun H locs hP hD hS => ?_)
        refine W.widen (k := 0) (n := 0) (Nat.le_refl _) (Nat.le_refl _) ?_
        obtain ⟨e1, e2⟩ := ob_pp hd
        subst e1
        subst e2
        exact ob_iret hx hb hr hlocks hP hD hS dX5_swear_73
      · replace hd := ob_t c_25 hd
        refine lv_ldc hx hb hown kw0 dX5_swear_28 ?_
        obtain ⟨e1, e2⟩ := ob_pp hd
        subst e1
        subst e2
        exact ob_iret hx hb hr hlocks hP hD hS dX5_swear_30
