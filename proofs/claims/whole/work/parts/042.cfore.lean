def fd_X4_ahead  (b : ob_B) (y : ob_B) (t : ob_B) (x1 : Int32) : Option (Int32 × ob_B) := ob_b1 (fd_X4_noRoute b y) (fun r_1 => if r_1 = 0 then (ob_b1 (fd_X4_isWithin x1 0 60) (fun r_2 => if r_2 = 0 then (some ((-1000001), t)) else (ob_b1 (fd_X1_become t y) (fun t_3 => ob_b1 (fd_X1_passHours t_3 x1) (fun t_4 => some (t_4.1 0, t_4)))))) else (some ((-1000002), t)))
set_option maxHeartbeats 4000000 in
set_option maxRecDepth 100000 in
theorem mt_X4_ahead (l : Launch) (dC : Nat → ClassId) (dI : Nat → Nat → Nat) (cI cZ cR cW : ClassId) (xs : Nat → Nat) (sz : Nat) (o_b : Nat) (a_b : Nat → Nat) (a_y : Nat → Nat) (a_t : Nat → Nat) (b : ob_B) (y : ob_B) (t : ob_B) (x1 : Int32)  (rr : Int32) (t' : ob_B) (hd : fd_X4_ahead b y t x1 = some (rr, t')) : ob_M l yX4_ahead wsX4_ahead ({ frames := 5, cells := 0, slots := 0, locals := 112 } : Room) (dC, dI) (ob_ty cI cZ cR cW) xs [.ref o_b, .int x1] (ob_w4 o_b a_b cI b ++ ob_w1 (a_b 2) a_y cI y ++ ob_w1 (a_b 3) a_t cI t) sz (ob_Qi (dC, dI) rr (ob_w4 o_b a_b cI b ++ ob_w1 (a_b 2) a_y cI y ++ ob_w1 (a_b 3) a_t cI t')) := by
  rw [fd_X4_ahead] at hd
  refine ob_in (cc := cX4_ahead) (maxL := 2) (ret := (some .int)) (own := RX4) (by decide) rfl rfl [(0, .ref o_b), (1, .int x1)] rfl (Nat.le_of_ble_eq_true rfl) ?_
  intro p e s m below meth c hx hb hr hml hown hts hlocks hnm hK A hA hE hP hD hS ls hl
  have kw0 := hts (.fieldLink RX4 29 "OathCoach" "trial" "LOathCoach$Route;") (by decide +kernel)
  have kw1 := hts (.fieldLink RX4 25 "OathCoach" "route" "LOathCoach$Route;") (by decide +kernel)
  have kw2 := hts (.fieldLink RX4 152 "OathCoach$Route" "at" "I") (by decide +kernel)
  have kw3 := hts (.constant RX4 62 (-1000001)) (by decide +kernel)
  have kw4 := hts (.constant RX4 137 (-1000002)) (by decide +kernel)
  have hi_X1 : ∀ w ∈ u_ws RX1 TX1 12, w ∈ wsX4_ahead := by decide +kernel
  have hi_X4 : ∀ w ∈ u_ws RX4 TX4 10, w ∈ wsX4_ahead := by decide +kernel
  refine lv_aload_n hx hb dX4_ahead_0 rfl (lv_at hl 0 rfl) ?_
  obtain ⟨r_1, hc_1, hd⟩ := ob_s1 hd
  refine ob_Vi (isC := [0, 1, 2, 3, 4, 5, 6, 7]) (isR := [8, 9, 10, 11, 12, 13]) (is2 := [6, 7, 8, 9, 10, 11, 12, 13, 0, 1, 2, 3, 4, 5]) (wc := (ob_w4 o_b a_b cI b ++ ob_w1 (a_b 2) a_y cI y)) (wr := (List.filterMap (fun i => (ob_w4 o_b a_b cI b ++ ob_w1 (a_b 2) a_y cI y ++ ob_w1 (a_b 3) a_t cI t)[i]?) [8, 9, 10, 11, 12, 13])) (w1 := (ob_w4 o_b a_b cI b ++ ob_w1 (a_b 2) a_y cI y)) (w2 := (ob_w4 o_b a_b cI b ++ ob_w1 (a_b 2) a_y cI y ++ ob_w1 (a_b 3) a_t cI t)) (b := o_b) (As := []) (rest := []) ⟨hx, hb, hml, hown, hts⟩ (mt_X4_noRoute l dC dI cI cZ cR cW xs _ o_b a_b a_y b y r_1 hc_1) (cwV 0 hts gX4_ahead_X4_noRoute rfl rfl rfl (by decide +kernel) ⟨Nat.le_of_ble_eq_true rfl, Nat.le_of_ble_eq_true rfl⟩) hK hE hP hD hS hA ⟨rfl, rfl, rfl, rfl, rfl, rfl, rfl⟩ 4 0 rfl rfl rfl hl rfl rfl (Nat.le_of_ble_eq_true rfl) ⟨Nat.le_of_ble_eq_true rfl, Nat.le_of_ble_eq_true rfl⟩ dX4_ahead_1 (fun H locs hP hD hS => ?_)
  refine W.widen (k := 0) (n := 0) (Nat.le_refl _) (Nat.le_refl _) ?_
  refine lv_if_eq (tgt := 10) hx hb dX4_ahead_4 (by decide) (fun c_4 => ?_) (fun c_4 => ?_)
  · replace hd := ob_t c_4 hd
    refine lv_iload_n hx hb dX4_ahead_10 rfl (lv_at hl 1 rfl) ?_
    refine lv_iconst (v := 0) hx hb dX4_ahead_11 (by decide) ?_
    refine lv_bipush (v := 60) hx hb dX4_ahead_12 (by decide) ?_
    obtain ⟨r_2, hc_14, hd⟩ := ob_s1 hd
    refine ob_Si (isC := []) (isR := [0, 1, 2, 3, 4, 5, 6, 7, 8, 9, 10, 11, 12, 13]) (is2 := [0, 1, 2, 3, 4, 5, 6, 7, 8, 9, 10, 11, 12, 13]) (wc := ([] : va_W)) (wr := (List.filterMap (fun i => (ob_w4 o_b a_b cI b ++ ob_w1 (a_b 2) a_y cI y ++ ob_w1 (a_b 3) a_t cI t)[i]?) [0, 1, 2, 3, 4, 5, 6, 7, 8, 9, 10, 11, 12, 13])) (w1 := ([] : va_W)) (w2 := (ob_w4 o_b a_b cI b ++ ob_w1 (a_b 2) a_y cI y ++ ob_w1 (a_b 3) a_t cI t)) (As := [.int x1, .int 0, .int 60]) (rest := []) ⟨hx, hb, hml, hown, hts⟩ (mt_X4_isWithin l dC dI cI cZ cR cW xs _ x1 0 60 r_2 hc_14) (va_cwS 3 hts gX4_ahead_X4_isWithin rfl rfl rfl (by decide +kernel) ⟨Nat.le_of_ble_eq_true rfl, Nat.le_of_ble_eq_true rfl⟩) hK hE hP hD hS hA ⟨rfl, rfl, rfl, rfl, rfl, rfl, rfl⟩ hl rfl rfl (Nat.le_of_ble_eq_true rfl) ⟨Nat.le_of_ble_eq_true rfl, Nat.le_of_ble_eq_true rfl⟩ dX4_ahead_14 (fun H locs hP hD hS => ?_)
    refine W.widen (k := 0) (n := 0) (Nat.le_refl _) (Nat.le_refl _) ?_
    refine lv_if_ne (tgt := 23) hx hb dX4_ahead_17 (by decide) (fun c_17 => ?_) (fun c_17 => ?_)
    · replace hd := ob_f c_17 hd
      refine lv_aload_n hx hb dX4_ahead_23 rfl (lv_at hl 0 rfl) ?_
      refine va_get (D := (dC, dI)) (ci := 4) (v := .ref (a_b 3)) (C := RX4) (T := TX4) (N := 10) hx hb hts hi_X4 hown hK hP 0 rfl rfl 3 (by decide) kw0 (fun _ h9 => h9) rfl dX4_ahead_24 ?_
      refine lv_aload_n hx hb dX4_ahead_27 rfl (lv_at hl 0 rfl) ?_
      refine va_get (D := (dC, dI)) (ci := 4) (v := .ref (a_b 2)) (C := RX4) (T := TX4) (N := 10) hx hb hts hi_X4 hown hK hP 0 rfl rfl 2 (by decide) kw1 (fun _ h9 => h9) rfl dX4_ahead_28 ?_
      obtain ⟨t_3, hc_31, hd⟩ := ob_s1 hd
      refine ob_Vv (isC := [8, 9, 10, 11, 12, 13, 2, 3, 4, 5, 6, 7]) (isR := [0, 1]) (is2 := [0, 1, 8, 9, 10, 11, 12, 13, 2, 3, 4, 5, 6, 7]) (wc := (ob_w1 (a_b 3) a_t cI t ++ ob_w1 (a_b 2) a_y cI y)) (wr := (List.filterMap (fun i => (ob_w4 o_b a_b cI b ++ ob_w1 (a_b 2) a_y cI y ++ ob_w1 (a_b 3) a_t cI t)[i]?) [0, 1])) (w1 := (ob_w1 (a_b 3) a_t cI t_3 ++ ob_w1 (a_b 2) a_y cI y)) (w2 := (ob_w4 o_b a_b cI b ++ ob_w1 (a_b 2) a_y cI y ++ ob_w1 (a_b 3) a_t cI t_3)) (b := (a_b 3)) (As := [.ref (a_b 2)]) (rest := []) ⟨hx, hb, hml, hown, hts⟩ (mt_X1_become l dC dI cI cZ cR cW xs _ ((a_b 3)) a_t ((a_b 2)) a_y t y t_3 hc_31) (cwV 1 hts gX4_ahead_X1_become rfl rfl rfl (by decide +kernel) ⟨Nat.le_of_ble_eq_true rfl, Nat.le_of_ble_eq_true rfl⟩) hK hE hP hD hS hA ⟨rfl, rfl, rfl, rfl, rfl, rfl, rfl⟩ 1 0 rfl rfl rfl hl rfl rfl (Nat.le_of_ble_eq_true rfl) ⟨Nat.le_of_ble_eq_true rfl, Nat.le_of_ble_eq_true rfl⟩ dX4_ahead_31 (fun H locs hP hD hS => ?_)
      refine W.widen (k := 0) (n := 0) (Nat.le_refl _) (Nat.le_refl _) ?_
      refine lv_aload_n hx hb dX4_ahead_34 rfl (lv_at hl 0 rfl) ?_
      refine va_get (D := (dC, dI)) (ci := 4) (v := .ref (a_b 3)) (C := RX4) (T := TX4) (N := 10) hx hb hts hi_X4 hown hK hP 0 rfl rfl 3 (by decide) kw0 (fun _ h9 => h9) rfl dX4_ahead_35 ?_
      refine lv_iload_n hx hb dX4_ahead_38 rfl (lv_at hl 1 rfl) ?_
      obtain ⟨t_4, hc_39, hd⟩ := ob_s1 hd
      refine ob_Vv (isC := [8, 9, 10, 11, 12, 13]) (isR := [0, 1, 2, 3, 4, 5, 6, 7]) (is2 := [0, 1, 2, 3, 4, 5, 6, 7, 8, 9, 10, 11, 12, 13]) (wc := (ob_w1 (a_b 3) a_t cI t_3)) (wr := (List.filterMap (fun i => (ob_w4 o_b a_b cI b ++ ob_w1 (a_b 2) a_y cI y ++ ob_w1 (a_b 3) a_t cI t_3)[i]?) [0, 1, 2, 3, 4, 5, 6, 7])) (w1 := (ob_w1 (a_b 3) a_t cI t_4)) (w2 := (ob_w4 o_b a_b cI b ++ ob_w1 (a_b 2) a_y cI y ++ ob_w1 (a_b 3) a_t cI t_4)) (b := (a_b 3)) (As := [.int x1]) (rest := []) ⟨hx, hb, hml, hown, hts⟩ (mt_X1_passHours l dC dI cI cZ cR cW xs _ ((a_b 3)) a_t t_3 x1 t_4 hc_39) (cwV 1 hts gX4_ahead_X1_passHours rfl rfl rfl (by decide +kernel) ⟨Nat.le_of_ble_eq_true rfl, Nat.le_of_ble_eq_true rfl⟩) hK hE hP hD hS hA ⟨rfl, rfl, rfl, rfl, rfl, rfl, rfl⟩ 1 0 rfl rfl rfl hl rfl rfl (Nat.le_of_ble_eq_true rfl) ⟨Nat.le_of_ble_eq_true rfl, Nat.le_of_ble_eq_true rfl⟩ dX4_ahead_39 (fun H locs hP hD hS => ?_)
      refine W.widen (k := 0) (n := 0) (Nat.le_refl _) (Nat.le_refl _) ?_
      refine lv_aload_n hx hb dX4_ahead_42 rfl (lv_at hl 0 rfl) ?_
      refine va_get (D := (dC, dI)) (ci := 4) (v := .ref (a_b 3)) (C := RX4) (T := TX4) (N := 10) hx hb hts hi_X4 hown hK hP 0 rfl rfl 3 (by decide) kw0 (fun _ h9 => h9) rfl dX4_ahead_43 ?_
      refine va_get (D := (dC, dI)) (ci := 1) (v := .int (t_4.1 0)) (C := RX1) (T := TX1) (N := 12) hx hb hts hi_X1 hown hK hP 8 rfl rfl 0 (by decide) kw2 (fun _ h9 => h9) rfl dX4_ahead_46 ?_
      obtain ⟨e1, e2⟩ := ob_pp hd
      subst e1
      subst e2
      exact ob_iret hx hb hr hlocks hP hD hS dX4_ahead_49
    · replace hd := ob_t c_17 hd
      refine lv_ldc hx hb hown kw3 dX4_ahead_20 ?_
      obtain ⟨e1, e2⟩ := ob_pp hd
      subst e1
      subst e2
      exact ob_iret hx hb hr hlocks hP hD hS dX4_ahead_22
  · replace hd := ob_f c_4 hd
    refine lv_ldc hx hb hown kw4 dX4_ahead_7 ?_
    obtain ⟨e1, e2⟩ := ob_pp hd
    subst e1
    subst e2
    exact ob_iret hx hb hr hlocks hP hD hS dX4_ahead_9

def fd_X4_comesTo  (b : ob_B) (y : ob_B) (t : ob_B) (x1 : Int32) (x2 : Int32) : Option (Int32 × ob_B) := ob_b1 (fd_X4_isOath b y x1) (fun r_1 => if r_1 = 0 then (some ((-1000001), t)) else (ob_b1 (fd_X4_isWithin x2 0 60) (fun r_2 => if r_2 = 0 then (some ((-1000001), t)) else (ob_b1 (fd_X1_become t y) (fun t_3 => ob_b1 (fd_X1_passHours t_3 x2) (fun t_4 => if x1 < 0 ∨ 7 ≤ Int32.toNatClampNeg x1 then none else (some ((t_4.2 11) (Int32.toNatClampNeg x1), t_4))))))))
set_option maxHeartbeats 4000000 in
set_option maxRecDepth 100000 in
theorem mt_X4_comesTo (l : Launch) (dC : Nat → ClassId) (dI : Nat → Nat → Nat) (cI cZ cR cW : ClassId) (xs : Nat → Nat) (sz : Nat) (o_b : Nat) (a_b : Nat → Nat) (a_y : Nat → Nat) (a_t : Nat → Nat) (b : ob_B) (y : ob_B) (t : ob_B) (x1 : Int32) (x2 : Int32)  (rr : Int32) (t' : ob_B) (hd : fd_X4_comesTo b y t x1 x2 = some (rr, t')) : ob_M l yX4_comesTo wsX4_comesTo ({ frames := 5, cells := 0, slots := 0, locals := 112 } : Room) (dC, dI) (ob_ty cI cZ cR cW) xs [.ref o_b, .int x1, .int x2] (ob_w4 o_b a_b cI b ++ ob_w1 (a_b 2) a_y cI y ++ ob_w1 (a_b 3) a_t cI t) sz (ob_Qi (dC, dI) rr (ob_w4 o_b a_b cI b ++ ob_w1 (a_b 2) a_y cI y ++ ob_w1 (a_b 3) a_t cI t')) := by
  rw [fd_X4_comesTo] at hd
  refine ob_in (cc := cX4_comesTo) (maxL := 3) (ret := (some .int)) (own := RX4) (by decide) rfl rfl [(0, .ref o_b), (1, .int x1), (2, .int x2)] rfl (Nat.le_of_ble_eq_true rfl) ?_
  intro p e s m below meth c hx hb hr hml hown hts hlocks hnm hK A hA hE hP hD hS ls hl
  have kw0 := hts (.constant RX4 62 (-1000001)) (by decide +kernel)
  have kw1 := hts (.fieldLink RX4 29 "OathCoach" "trial" "LOathCoach$Route;") (by decide +kernel)
  have kw2 := hts (.fieldLink RX4 25 "OathCoach" "route" "LOathCoach$Route;") (by decide +kernel)
  have kw3 := hts (.fieldLink RX4 166 "OathCoach$Route" "came" "[I") (by decide +kernel)
  have hi_X1 : ∀ w ∈ u_ws RX1 TX1 12, w ∈ wsX4_comesTo := by decide +kernel
  have hi_X4 : ∀ w ∈ u_ws RX4 TX4 10, w ∈ wsX4_comesTo := by decide +kernel
  refine lv_aload_n hx hb dX4_comesTo_0 rfl (lv_at hl 0 rfl) ?_
  refine lv_iload_n hx hb dX4_comesTo_1 rfl (lv_at hl 1 rfl) ?_
  obtain ⟨r_1, hc_2, hd⟩ := ob_s1 hd
  refine ob_Vi (isC := [0, 1, 2, 3, 4, 5, 6, 7]) (isR := [8, 9, 10, 11, 12, 13]) (is2 := [6, 7, 8, 9, 10, 11, 12, 13, 0, 1, 2, 3, 4, 5]) (wc := (ob_w4 o_b a_b cI b ++ ob_w1 (a_b 2) a_y cI y)) (wr := (List.filterMap (fun i => (ob_w4 o_b a_b cI b ++ ob_w1 (a_b 2) a_y cI y ++ ob_w1 (a_b 3) a_t cI t)[i]?) [8, 9, 10, 11, 12, 13])) (w1 := (ob_w4 o_b a_b cI b ++ ob_w1 (a_b 2) a_y cI y)) (w2 := (ob_w4 o_b a_b cI b ++ ob_w1 (a_b 2) a_y cI y ++ ob_w1 (a_b 3) a_t cI t)) (b := o_b) (As := [.int x1]) (rest := []) ⟨hx, hb, hml, hown, hts⟩ (mt_X4_isOath l dC dI cI cZ cR cW xs _ o_b a_b a_y b y x1 r_1 hc_2) (cwV 1 hts gX4_comesTo_X4_isOath rfl rfl rfl (by decide +kernel) ⟨Nat.le_of_ble_eq_true rfl, Nat.le_of_ble_eq_true rfl⟩) hK hE hP hD hS hA ⟨rfl, rfl, rfl, rfl, rfl, rfl, rfl⟩ 4 0 rfl rfl rfl hl rfl rfl (Nat.le_of_ble_eq_true rfl) ⟨Nat.le_of_ble_eq_true rfl, Nat.le_of_ble_eq_true rfl⟩ dX4_comesTo_2 (fun H locs hP hD hS => ?_)
  refine W.widen (k := 0) (n := 0) (Nat.le_refl _) (Nat.le_refl _) ?_
  refine lv_if_eq (tgt := 18) hx hb dX4_comesTo_5 (by decide) (fun c_5 => ?_) (fun c_5 => ?_)
  · replace hd := ob_t c_5 hd
    refine lv_ldc hx hb hown kw0 dX4_comesTo_18 ?_
    obtain ⟨e1, e2⟩ := ob_pp hd
    subst e1
    subst e2
    exact ob_iret hx hb hr hlocks hP hD hS dX4_comesTo_20
  · replace hd := ob_f c_5 hd
    refine lv_iload_n hx hb dX4_comesTo_8 rfl (lv_at hl 2 rfl) ?_
    refine lv_iconst (v := 0) hx hb dX4_comesTo_9 (by decide) ?_
    refine lv_bipush (v := 60) hx hb dX4_comesTo_10 (by decide) ?_
    obtain ⟨r_2, hc_12, hd⟩ := ob_s1 hd
    refine ob_Si (isC := []) (isR := [0, 1, 2, 3, 4, 5, 6, 7, 8, 9, 10, 11, 12, 13]) (is2 := [0, 1, 2, 3, 4, 5, 6, 7, 8, 9, 10, 11, 12, 13]) (wc := ([] : va_W)) (wr := (List.filterMap (fun i => (ob_w4 o_b a_b cI b ++ ob_w1 (a_b 2) a_y cI y ++ ob_w1 (a_b 3) a_t cI t)[i]?) [0, 1, 2, 3, 4, 5, 6, 7, 8, 9, 10, 11, 12, 13])) (w1 := ([] : va_W)) (w2 := (ob_w4 o_b a_b cI b ++ ob_w1 (a_b 2) a_y cI y ++ ob_w1 (a_b 3) a_t cI t)) (As := [.int x2, .int 0, .int 60]) (rest := []) ⟨hx, hb, hml, hown, hts⟩ (mt_X4_isWithin l dC dI cI cZ cR cW xs _ x2 0 60 r_2 hc_12) (va_cwS 3 hts gX4_comesTo_X4_isWithin rfl rfl rfl (by decide +kernel) ⟨Nat.le_of_ble_eq_true rfl, Nat.le_of_ble_eq_true rfl⟩) hK hE hP hD hS hA ⟨rfl, rfl, rfl, rfl, rfl, rfl, rfl⟩ hl rfl rfl (Nat.le_of_ble_eq_true rfl) ⟨Nat.le_of_ble_eq_true rfl, Nat.le_of_ble_eq_true rfl⟩ dX4_comesTo_12 (fun H locs hP hD hS => ?_)
    refine W.widen (k := 0) (n := 0) (Nat.le_refl _) (Nat.le_refl _) ?_
    refine lv_if_ne (tgt := 21) hx hb dX4_comesTo_15 (by decide) (fun c_15 => ?_) (fun c_15 => ?_)
    · replace hd := ob_f c_15 hd
      refine lv_aload_n hx hb dX4_comesTo_21 rfl (lv_at hl 0 rfl) ?_
      refine va_get (D := (dC, dI)) (ci := 4) (v := .ref (a_b 3)) (C := RX4) (T := TX4) (N := 10) hx hb hts hi_X4 hown hK hP 0 rfl rfl 3 (by decide) kw1 (fun _ h9 => h9) rfl dX4_comesTo_22 ?_
      refine lv_aload_n hx hb dX4_comesTo_25 rfl (lv_at hl 0 rfl) ?_
      refine va_get (D := (dC, dI)) (ci := 4) (v := .ref (a_b 2)) (C := RX4) (T := TX4) (N := 10) hx hb hts hi_X4 hown hK hP 0 rfl rfl 2 (by decide) kw2 (fun _ h9 => h9) rfl dX4_comesTo_26 ?_
      obtain ⟨t_3, hc_29, hd⟩ := ob_s1 hd
      refine ob_Vv (isC := [8, 9, 10, 11, 12, 13, 2, 3, 4, 5, 6, 7]) (isR := [0, 1]) (is2 := [0, 1, 8, 9, 10, 11, 12, 13, 2, 3, 4, 5, 6, 7]) (wc := (ob_w1 (a_b 3) a_t cI t ++ ob_w1 (a_b 2) a_y cI y)) (wr := (List.filterMap (fun i => (ob_w4 o_b a_b cI b ++ ob_w1 (a_b 2) a_y cI y ++ ob_w1 (a_b 3) a_t cI t)[i]?) [0, 1])) (w1 := (ob_w1 (a_b 3) a_t cI t_3 ++ ob_w1 (a_b 2) a_y cI y)) (w2 := (ob_w4 o_b a_b cI b ++ ob_w1 (a_b 2) a_y cI y ++ ob_w1 (a_b 3) a_t cI t_3)) (b := (a_b 3)) (As := [.ref (a_b 2)]) (rest := []) ⟨hx, hb, hml, hown, hts⟩ (mt_X1_become l dC dI cI cZ cR cW xs _ ((a_b 3)) a_t ((a_b 2)) a_y t y t_3 hc_29) (cwV 1 hts gX4_comesTo_X1_become rfl rfl rfl (by decide +kernel) ⟨Nat.le_of_ble_eq_true rfl, Nat.le_of_ble_eq_true rfl⟩) hK hE hP hD hS hA ⟨rfl, rfl, rfl, rfl, rfl, rfl, rfl⟩ 1 0 rfl rfl rfl hl rfl rfl (Nat.le_of_ble_eq_true rfl) ⟨Nat.le_of_ble_eq_true rfl, Nat.le_of_ble_eq_true rfl⟩ dX4_comesTo_29 (fun H locs hP hD hS => ?_)
      refine W.widen (k := 0) (n := 0) (Nat.le_refl _) (Nat.le_refl _) ?_
      refine lv_aload_n hx hb dX4_comesTo_32 rfl (lv_at hl 0 rfl) ?_
      refine va_get (D := (dC, dI)) (ci := 4) (v := .ref (a_b 3)) (C := RX4) (T := TX4) (N := 10) hx hb hts hi_X4 hown hK hP 0 rfl rfl 3 (by decide) kw1 (fun _ h9 => h9) rfl dX4_comesTo_33 ?_
      refine lv_iload_n hx hb dX4_comesTo_36 rfl (lv_at hl 2 rfl) ?_
      obtain ⟨t_4, hc_37, hd⟩ := ob_s1 hd
      refine ob_Vv (isC := [8, 9, 10, 11, 12, 13]) (isR := [0, 1, 2, 3, 4, 5, 6, 7]) (is2 := [0, 1, 2, 3, 4, 5, 6, 7, 8, 9, 10, 11, 12, 13]) (wc := (ob_w1 (a_b 3) a_t cI t_3)) (wr := (List.filterMap (fun i => (ob_w4 o_b a_b cI b ++ ob_w1 (a_b 2) a_y cI y ++ ob_w1 (a_b 3) a_t cI t_3)[i]?) [0, 1, 2, 3, 4, 5, 6, 7])) (w1 := (ob_w1 (a_b 3) a_t cI t_4)) (w2 := (ob_w4 o_b a_b cI b ++ ob_w1 (a_b 2) a_y cI y ++ ob_w1 (a_b 3) a_t cI t_4)) (b := (a_b 3)) (As := [.int x2]) (rest := []) ⟨hx, hb, hml, hown, hts⟩ (mt_X1_passHours l dC dI cI cZ cR cW xs _ ((a_b 3)) a_t t_3 x2 t_4 hc_37) (cwV 1 hts gX4_comesTo_X1_passHours rfl rfl rfl (by decide +kernel) ⟨Nat.le_of_ble_eq_true rfl, Nat.le_of_ble_eq_true rfl⟩) hK hE hP hD hS hA ⟨rfl, rfl, rfl, rfl, rfl, rfl, rfl⟩ 1 0 rfl rfl rfl hl rfl rfl (Nat.le_of_ble_eq_true rfl) ⟨Nat.le_of_ble_eq_true rfl, Nat.le_of_ble_eq_true rfl⟩ dX4_comesTo_37 (fun H locs hP hD hS => ?_)
      refine W.widen (k := 0) (n := 0) (Nat.le_refl _) (Nat.le_refl _) ?_
      refine lv_aload_n hx hb dX4_comesTo_40 rfl (lv_at hl 0 rfl) ?_
      refine va_get (D := (dC, dI)) (ci := 4) (v := .ref (a_b 3)) (C := RX4) (T := TX4) (N := 10) hx hb hts hi_X4 hown hK hP 0 rfl rfl 3 (by decide) kw1 (fun _ h9 => h9) rfl dX4_comesTo_41 ?_
      refine va_get (D := (dC, dI)) (ci := 1) (v := .ref (a_t 11)) (C := RX1) (T := TX1) (N := 12) hx hb hts hi_X1 hown hK hP 8 rfl rfl 11 (by decide) kw3 (fun _ h9 => h9) rfl dX4_comesTo_44 ?_
      refine lv_iload_n hx hb dX4_comesTo_47 rfl (lv_at hl 1 rfl) ?_
      obtain ⟨h1_48, hd⟩ := ob_nn hd
      refine va_iald hx hb hK hP 13 0 rfl rfl h1_48 dX4_comesTo_48 ?_
      obtain ⟨e1, e2⟩ := ob_pp hd
      subst e1
      subst e2
      exact ob_iret hx hb hr hlocks hP hD hS dX4_comesTo_49
    · replace hd := ob_t c_15 hd
      refine lv_ldc hx hb hown kw0 dX4_comesTo_18 ?_
      obtain ⟨e1, e2⟩ := ob_pp hd
      subst e1
      subst e2
      exact ob_iret hx hb hr hlocks hP hD hS dX4_comesTo_20

def fd_X4_kept_L24  : Nat → ob_B → ob_B → ob_B → Int32 → Int32 → Option (Int32 × ob_B)
  | 0, _, _, _, _, _ => none
  | fu + 1, b, y, t, x1, z2 => if 60 < z2 then (some ((-1000000), t)) else (if x1 < 0 ∨ 7 ≤ Int32.toNatClampNeg x1 then none else (if ((t.2 11) (Int32.toNatClampNeg x1)) = 0 then (ob_b2 (fd_X1_passHour t) (fun r_3 t_4 => ob_lt (z2 + 1 : Int32) (fun x_5 => fd_X4_kept_L24 fu b y t_4 x1 x_5))) else (some (z2, t))))
def fd_X4_kept  (b : ob_B) (y : ob_B) (t : ob_B) (x1 : Int32) : Option (Int32 × ob_B) := ob_b1 (fd_X4_isOath b y x1) (fun r_1 => if r_1 = 0 then (some ((-1000001), t)) else (ob_b1 (fd_X1_become t y) (fun t_2 => fd_X4_kept_L24 2000 b y t_2 x1 0)))
set_option maxHeartbeats 4000000 in
set_option maxRecDepth 100000 in
theorem mt_X4_kept (l : Launch) (dC : Nat → ClassId) (dI : Nat → Nat → Nat) (cI cZ cR cW : ClassId) (xs : Nat → Nat) (sz : Nat) (o_b : Nat) (a_b : Nat → Nat) (a_y : Nat → Nat) (a_t : Nat → Nat) (b : ob_B) (y : ob_B) (t : ob_B) (x1 : Int32)  (rr : Int32) (t' : ob_B) (hd : fd_X4_kept b y t x1 = some (rr, t')) : ob_M l yX4_kept wsX4_kept ({ frames := 4, cells := 0, slots := 0, locals := 90 } : Room) (dC, dI) (ob_ty cI cZ cR cW) xs [.ref o_b, .int x1] (ob_w4 o_b a_b cI b ++ ob_w1 (a_b 2) a_y cI y ++ ob_w1 (a_b 3) a_t cI t) sz (ob_Qi (dC, dI) rr (ob_w4 o_b a_b cI b ++ ob_w1 (a_b 2) a_y cI y ++ ob_w1 (a_b 3) a_t cI t')) := by
  rw [fd_X4_kept] at hd
  refine ob_in (cc := cX4_kept) (maxL := 3) (ret := (some .int)) (own := RX4) (by decide) rfl rfl [(0, .ref o_b), (1, .int x1)] rfl (Nat.le_of_ble_eq_true rfl) ?_
  intro p e s m below meth c hx hb hr hml hown hts hlocks hnm hK A hA hE hP hD hS ls hl
  have kw0 := hts (.fieldLink RX4 29 "OathCoach" "trial" "LOathCoach$Route;") (by decide +kernel)
  have kw1 := hts (.fieldLink RX4 25 "OathCoach" "route" "LOathCoach$Route;") (by decide +kernel)
  have kw2 := hts (.constant RX4 62 (-1000001)) (by decide +kernel)
  have kw3 := hts (.constant RX4 205 (-1000000)) (by decide +kernel)
  have kw4 := hts (.fieldLink RX4 166 "OathCoach$Route" "came" "[I") (by decide +kernel)
  have hi_X1 : ∀ w ∈ u_ws RX1 TX1 12, w ∈ wsX4_kept := by decide +kernel
  have hi_X4 : ∀ w ∈ u_ws RX4 TX4 10, w ∈ wsX4_kept := by decide +kernel
  have L24 : ∀  (fu : Nat), ∀ (H : Heap) (locs : List Loc) (t : ob_B) (z2 : Int32) (ls : Array Slot), va_P (dC, dI) vwCl (ob_w4 o_b a_b cI b ++ ob_w1 (a_b 2) a_y cI y ++ ob_w1 (a_b 3) a_t cI t) H → va_D A (ob_w4 o_b a_b cI b ++ ob_w1 (a_b 2) a_y cI y ++ ob_w1 (a_b 3) a_t cI t) → va_S A s.heap H locs → lv_has ls 3 [(0, .ref o_b), (1, .int x1), (2, .int z2)] → fd_X4_kept_L24 fu b y t x1 z2 = some (rr, t') → W p l e ({ frames := 4, cells := 0, slots := 0, locals := 90 } : Room) s m (List.toArray [.ref o_b, .int x1]) below meth c H locs 0 0 (MQ below ((ob_Qi (dC, dI) rr (ob_w4 o_b a_b cI b ++ ob_w1 (a_b 2) a_y cI y ++ ob_w1 (a_b 3) a_t cI t')) A) (List.toArray [.ref o_b, .int x1]) s 0 0 A) (F0 m 24 ls []) := by
    intro  fu
    induction fu with
    | zero =>
      intro H locs t z2 ls hP hD hS hl hd
      rw [fd_X4_kept_L24] at hd
      cases hd
    | succ fu ih =>
      intro H locs t z2 ls hP hD hS hl hd
      rw [fd_X4_kept_L24] at hd
      refine lv_iload_n hx hb dX4_kept_24 rfl (lv_at hl 2 rfl) ?_
      refine lv_bipush (v := 60) hx hb dX4_kept_25 (by decide) ?_
      refine lv_icmp_gt (tgt := 58) hx hb dX4_kept_27 (by decide) (fun c_27 => ?_) (fun c_27 => ?_)
      · replace hd := ob_t c_27 hd
        refine lv_ldc hx hb hown kw3 dX4_kept_58 ?_
        obtain ⟨e1, e2⟩ := ob_pp hd
        subst e1
        subst e2
        exact ob_iret hx hb hr hlocks hP hD hS dX4_kept_60
      · replace hd := ob_f c_27 hd
        refine lv_aload_n hx hb dX4_kept_30 rfl (lv_at hl 0 rfl) ?_
        refine va_get (D := (dC, dI)) (ci := 4) (v := .ref (a_b 3)) (C := RX4) (T := TX4) (N := 10) hx hb hts hi_X4 hown hK hP 0 rfl rfl 3 (by decide) kw0 (fun _ h9 => h9) rfl dX4_kept_31 ?_
        refine va_get (D := (dC, dI)) (ci := 1) (v := .ref (a_t 11)) (C := RX1) (T := TX1) (N := 12) hx hb hts hi_X1 hown hK hP 8 rfl rfl 11 (by decide) kw4 (fun _ h9 => h9) rfl dX4_kept_34 ?_
        refine lv_iload_n hx hb dX4_kept_37 rfl (lv_at hl 1 rfl) ?_
        obtain ⟨h1_38, hd⟩ := ob_nn hd
        refine va_iald hx hb hK hP 13 0 rfl rfl h1_38 dX4_kept_38 ?_
        refine lv_if_eq (tgt := 44) hx hb dX4_kept_39 (by decide) (fun c_39 => ?_) (fun c_39 => ?_)
        · replace hd := ob_t c_39 hd
          refine lv_aload_n hx hb dX4_kept_44 rfl (lv_at hl 0 rfl) ?_
          refine va_get (D := (dC, dI)) (ci := 4) (v := .ref (a_b 3)) (C := RX4) (T := TX4) (N := 10) hx hb hts hi_X4 hown hK hP 0 rfl rfl 3 (by decide) kw0 (fun _ h9 => h9) rfl dX4_kept_45 ?_
          obtain ⟨r_3, t_4, hc_48, hd⟩ := ob_s2 hd
          refine ob_Vi (isC := [8, 9, 10, 11, 12, 13]) (isR := [0, 1, 2, 3, 4, 5, 6, 7]) (is2 := [0, 1, 2, 3, 4, 5, 6, 7, 8, 9, 10, 11, 12, 13]) (wc := (ob_w1 (a_b 3) a_t cI t)) (wr := (List.filterMap (fun i => (ob_w4 o_b a_b cI b ++ ob_w1 (a_b 2) a_y cI y ++ ob_w1 (a_b 3) a_t cI t)[i]?) [0, 1, 2, 3, 4, 5, 6, 7])) (w1 := (ob_w1 (a_b 3) a_t cI t_4)) (w2 := (ob_w4 o_b a_b cI b ++ ob_w1 (a_b 2) a_y cI y ++ ob_w1 (a_b 3) a_t cI t_4)) (b := (a_b 3)) (As := []) (rest := []) ⟨hx, hb, hml, hown, hts⟩ (mt_X1_passHour l dC dI cI cZ cR cW xs _ ((a_b 3)) a_t t r_3 t_4 hc_48) (cwV 0 hts gX4_kept_X1_passHour rfl rfl rfl (by decide +kernel) ⟨Nat.le_of_ble_eq_true rfl, Nat.le_of_ble_eq_true rfl⟩) hK hE hP hD hS hA ⟨rfl, rfl, rfl, rfl, rfl, rfl, rfl⟩ 1 0 rfl rfl rfl hl rfl rfl (Nat.le_of_ble_eq_true rfl) ⟨Nat.le_of_ble_eq_true rfl, Nat.le_of_ble_eq_true rfl⟩ dX4_kept_48 (fun H locs hP hD hS => ?_)
          refine W.widen (k := 0) (n := 0) (Nat.le_refl _) (Nat.le_refl _) ?_
          refine lv_pop hx hb dX4_kept_51 rfl ?_
          obtain ⟨x_5, ex_5⟩ : ∃ z : Int32, z = z2 + 1 := ⟨_, rfl⟩
          replace hd := ob_lx ex_5 hd
          refine lv_iinc (v := x_5) (lv' := [(2, .int x_5), (0, .ref o_b), (1, .int x1)]) hx hb dX4_kept_52 hl (k := 2) rfl (by rw [ex_5]; rfl) (by decide) rfl (fun ls hl => ?_)
          clear ex_5
          refine lv_goto (tgt := 24) hx hb dX4_kept_55 (by decide) ?_
          exact ih _ _ t_4 x_5 _ hP hD hS (lv_sub hl [1, 2, 0] rfl) hd
        · replace hd := ob_f c_39 hd
          refine lv_iload_n hx hb dX4_kept_42 rfl (lv_at hl 2 rfl) ?_
          obtain ⟨e1, e2⟩ := ob_pp hd
          subst e1
          subst e2
          exact ob_iret hx hb hr hlocks hP hD hS dX4_kept_43
  refine lv_aload_n hx hb dX4_kept_0 rfl (lv_at hl 0 rfl) ?_
  refine lv_iload_n hx hb dX4_kept_1 rfl (lv_at hl 1 rfl) ?_
  obtain ⟨r_1, hc_2, hd⟩ := ob_s1 hd
  refine ob_Vi (isC := [0, 1, 2, 3, 4, 5, 6, 7]) (isR := [8, 9, 10, 11, 12, 13]) (is2 := [6, 7, 8, 9, 10, 11, 12, 13, 0, 1, 2, 3, 4, 5]) (wc := (ob_w4 o_b a_b cI b ++ ob_w1 (a_b 2) a_y cI y)) (wr := (List.filterMap (fun i => (ob_w4 o_b a_b cI b ++ ob_w1 (a_b 2) a_y cI y ++ ob_w1 (a_b 3) a_t cI t)[i]?) [8, 9, 10, 11, 12, 13])) (w1 := (ob_w4 o_b a_b cI b ++ ob_w1 (a_b 2) a_y cI y)) (w2 := (ob_w4 o_b a_b cI b ++ ob_w1 (a_b 2) a_y cI y ++ ob_w1 (a_b 3) a_t cI t)) (b := o_b) (As := [.int x1]) (rest := []) ⟨hx, hb, hml, hown, hts⟩ (mt_X4_isOath l dC dI cI cZ cR cW xs _ o_b a_b a_y b y x1 r_1 hc_2) (cwV 1 hts gX4_kept_X4_isOath rfl rfl rfl (by decide +kernel) ⟨Nat.le_of_ble_eq_true rfl, Nat.le_of_ble_eq_true rfl⟩) hK hE hP hD hS hA ⟨rfl, rfl, rfl, rfl, rfl, rfl, rfl⟩ 4 0 rfl rfl rfl hl rfl rfl (Nat.le_of_ble_eq_true rfl) ⟨Nat.le_of_ble_eq_true rfl, Nat.le_of_ble_eq_true rfl⟩ dX4_kept_2 (fun H locs hP hD hS => ?_)
  refine W.widen (k := 0) (n := 0) (Nat.le_refl _) (Nat.le_refl _) ?_
  refine lv_if_ne (tgt := 11) hx hb dX4_kept_5 (by decide) (fun c_5 => ?_) (fun c_5 => ?_)
  · replace hd := ob_f c_5 hd
    refine lv_aload_n hx hb dX4_kept_11 rfl (lv_at hl 0 rfl) ?_
    refine va_get (D := (dC, dI)) (ci := 4) (v := .ref (a_b 3)) (C := RX4) (T := TX4) (N := 10) hx hb hts hi_X4 hown hK hP 0 rfl rfl 3 (by decide) kw0 (fun _ h9 => h9) rfl dX4_kept_12 ?_
    refine lv_aload_n hx hb dX4_kept_15 rfl (lv_at hl 0 rfl) ?_
    refine va_get (D := (dC, dI)) (ci := 4) (v := .ref (a_b 2)) (C := RX4) (T := TX4) (N := 10) hx hb hts hi_X4 hown hK hP 0 rfl rfl 2 (by decide) kw1 (fun _ h9 => h9) rfl dX4_kept_16 ?_
    obtain ⟨t_2, hc_19, hd⟩ := ob_s1 hd
    refine ob_Vv (isC := [8, 9, 10, 11, 12, 13, 2, 3, 4, 5, 6, 7]) (isR := [0, 1]) (is2 := [0, 1, 8, 9, 10, 11, 12, 13, 2, 3, 4, 5, 6, 7]) (wc := (ob_w1 (a_b 3) a_t cI t ++ ob_w1 (a_b 2) a_y cI y)) (wr := (List.filterMap (fun i => (ob_w4 o_b a_b cI b ++ ob_w1 (a_b 2) a_y cI y ++ ob_w1 (a_b 3) a_t cI t)[i]?) [0, 1])) (w1 := (ob_w1 (a_b 3) a_t cI t_2 ++ ob_w1 (a_b 2) a_y cI y)) (w2 := (ob_w4 o_b a_b cI b ++ ob_w1 (a_b 2) a_y cI y ++ ob_w1 (a_b 3) a_t cI t_2)) (b := (a_b 3)) (As := [.ref (a_b 2)]) (rest := []) ⟨hx, hb, hml, hown, hts⟩ (mt_X1_become l dC dI cI cZ cR cW xs _ ((a_b 3)) a_t ((a_b 2)) a_y t y t_2 hc_19) (cwV 1 hts gX4_kept_X1_become rfl rfl rfl (by decide +kernel) ⟨Nat.le_of_ble_eq_true rfl, Nat.le_of_ble_eq_true rfl⟩) hK hE hP hD hS hA ⟨rfl, rfl, rfl, rfl, rfl, rfl, rfl⟩ 1 0 rfl rfl rfl hl rfl rfl (Nat.le_of_ble_eq_true rfl) ⟨Nat.le_of_ble_eq_true rfl, Nat.le_of_ble_eq_true rfl⟩ dX4_kept_19 (fun H locs hP hD hS => ?_)
    refine W.widen (k := 0) (n := 0) (Nat.le_refl _) (Nat.le_refl _) ?_
    refine lv_iconst (v := 0) hx hb dX4_kept_22 (by decide) ?_
    refine lv_istore_n (lv' := [(2, .int 0), (0, .ref o_b), (1, .int x1)]) hx hb dX4_kept_23 rfl hl (by decide) rfl (fun ls hl => ?_)
    exact L24  2000 _ _ t_2 0 _ hP hD hS (lv_sub hl [1, 2, 0] rfl) hd
  · replace hd := ob_t c_5 hd
    refine lv_ldc hx hb hown kw2 dX4_kept_8 ?_
    obtain ⟨e1, e2⟩ := ob_pp hd
    subst e1
    subst e2
    exact ob_iret hx hb hr hlocks hP hD hS dX4_kept_10

def fd_X4_past_L33  : Nat → ob_B → ob_B → ob_B → Int32 → Int32 → Option (Int32 × ob_B)
  | 0, _, _, _, _, _ => none
  | fu + 1, b, y, t, x1, z2 => if 60 < z2 then (some ((-1000000), t)) else (if (t.1 0) = x1 then (some (z2, t)) else (ob_b2 (fd_X1_passHour t) (fun r_4 t_5 => ob_lt (z2 + 1 : Int32) (fun x_6 => fd_X4_past_L33 fu b y t_5 x1 x_6))))
def fd_X4_past  (b : ob_B) (y : ob_B) (t : ob_B) (x1 : Int32) : Option (Int32 × ob_B) := ob_b1 (fd_X4_noRoute b y) (fun r_1 => if r_1 = 0 then (ob_b1 (fd_X4_isPlace x1) (fun r_2 => if r_2 = 0 then (some ((-1000001), t)) else (ob_b1 (fd_X1_become t y) (fun t_3 => fd_X4_past_L33 2000 b y t_3 x1 0)))) else (some ((-1000002), t)))
set_option maxHeartbeats 4000000 in
set_option maxRecDepth 100000 in
theorem mt_X4_past (l : Launch) (dC : Nat → ClassId) (dI : Nat → Nat → Nat) (cI cZ cR cW : ClassId) (xs : Nat → Nat) (sz : Nat) (o_b : Nat) (a_b : Nat → Nat) (a_y : Nat → Nat) (a_t : Nat → Nat) (b : ob_B) (y : ob_B) (t : ob_B) (x1 : Int32)  (rr : Int32) (t' : ob_B) (hd : fd_X4_past b y t x1 = some (rr, t')) : ob_M l yX4_past wsX4_past ({ frames := 4, cells := 0, slots := 0, locals := 90 } : Room) (dC, dI) (ob_ty cI cZ cR cW) xs [.ref o_b, .int x1] (ob_w4 o_b a_b cI b ++ ob_w1 (a_b 2) a_y cI y ++ ob_w1 (a_b 3) a_t cI t) sz (ob_Qi (dC, dI) rr (ob_w4 o_b a_b cI b ++ ob_w1 (a_b 2) a_y cI y ++ ob_w1 (a_b 3) a_t cI t')) := by
  rw [fd_X4_past] at hd
  refine ob_in (cc := cX4_past) (maxL := 3) (ret := (some .int)) (own := RX4) (by decide) rfl rfl [(0, .ref o_b), (1, .int x1)] rfl (Nat.le_of_ble_eq_true rfl) ?_
  intro p e s m below meth c hx hb hr hml hown hts hlocks hnm hK A hA hE hP hD hS ls hl
  have kw0 := hts (.fieldLink RX4 29 "OathCoach" "trial" "LOathCoach$Route;") (by decide +kernel)
  have kw1 := hts (.fieldLink RX4 25 "OathCoach" "route" "LOathCoach$Route;") (by decide +kernel)
  have kw2 := hts (.constant RX4 62 (-1000001)) (by decide +kernel)
  have kw3 := hts (.constant RX4 137 (-1000002)) (by decide +kernel)
  have kw4 := hts (.constant RX4 205 (-1000000)) (by decide +kernel)
  have kw5 := hts (.fieldLink RX4 152 "OathCoach$Route" "at" "I") (by decide +kernel)
  have hi_X1 : ∀ w ∈ u_ws RX1 TX1 12, w ∈ wsX4_past := by decide +kernel
  have hi_X4 : ∀ w ∈ u_ws RX4 TX4 10, w ∈ wsX4_past := by decide +kernel
  have L33 : ∀  (fu : Nat), ∀ (H : Heap) (locs : List Loc) (t : ob_B) (z2 : Int32) (ls : Array Slot), va_P (dC, dI) vwCl (ob_w4 o_b a_b cI b ++ ob_w1 (a_b 2) a_y cI y ++ ob_w1 (a_b 3) a_t cI t) H → va_D A (ob_w4 o_b a_b cI b ++ ob_w1 (a_b 2) a_y cI y ++ ob_w1 (a_b 3) a_t cI t) → va_S A s.heap H locs → lv_has ls 3 [(0, .ref o_b), (1, .int x1), (2, .int z2)] → fd_X4_past_L33 fu b y t x1 z2 = some (rr, t') → W p l e ({ frames := 4, cells := 0, slots := 0, locals := 90 } : Room) s m (List.toArray [.ref o_b, .int x1]) below meth c H locs 0 0 (MQ below ((ob_Qi (dC, dI) rr (ob_w4 o_b a_b cI b ++ ob_w1 (a_b 2) a_y cI y ++ ob_w1 (a_b 3) a_t cI t')) A) (List.toArray [.ref o_b, .int x1]) s 0 0 A) (F0 m 33 ls []) := by
    intro  fu
    induction fu with
    | zero =>
      intro H locs t z2 ls hP hD hS hl hd
      rw [fd_X4_past_L33] at hd
      cases hd
    | succ fu ih =>
      intro H locs t z2 ls hP hD hS hl hd
      rw [fd_X4_past_L33] at hd
      refine lv_iload_n hx hb dX4_past_33 rfl (lv_at hl 2 rfl) ?_
      refine lv_bipush (v := 60) hx hb dX4_past_34 (by decide) ?_
      refine lv_icmp_gt (tgt := 66) hx hb dX4_past_36 (by decide) (fun c_36 => ?_) (fun c_36 => ?_)
      · replace hd := ob_t c_36 hd
        refine lv_ldc hx hb hown kw4 dX4_past_66 ?_
        obtain ⟨e1, e2⟩ := ob_pp hd
        subst e1
        subst e2
        exact ob_iret hx hb hr hlocks hP hD hS dX4_past_68
      · replace hd := ob_f c_36 hd
        refine lv_aload_n hx hb dX4_past_39 rfl (lv_at hl 0 rfl) ?_
        refine va_get (D := (dC, dI)) (ci := 4) (v := .ref (a_b 3)) (C := RX4) (T := TX4) (N := 10) hx hb hts hi_X4 hown hK hP 0 rfl rfl 3 (by decide) kw0 (fun _ h9 => h9) rfl dX4_past_40 ?_
        refine va_get (D := (dC, dI)) (ci := 1) (v := .int (t.1 0)) (C := RX1) (T := TX1) (N := 12) hx hb hts hi_X1 hown hK hP 8 rfl rfl 0 (by decide) kw5 (fun _ h9 => h9) rfl dX4_past_43 ?_
        refine lv_iload_n hx hb dX4_past_46 rfl (lv_at hl 1 rfl) ?_
        refine lv_icmp_ne (tgt := 52) hx hb dX4_past_47 (by decide) (fun c_47 => ?_) (fun c_47 => ?_)
        · replace hd := ob_f c_47 hd
          refine lv_aload_n hx hb dX4_past_52 rfl (lv_at hl 0 rfl) ?_
          refine va_get (D := (dC, dI)) (ci := 4) (v := .ref (a_b 3)) (C := RX4) (T := TX4) (N := 10) hx hb hts hi_X4 hown hK hP 0 rfl rfl 3 (by decide) kw0 (fun _ h9 => h9) rfl dX4_past_53 ?_
          obtain ⟨r_4, t_5, hc_56, hd⟩ := ob_s2 hd
          refine ob_Vi (isC := [8, 9, 10, 11, 12, 13]) (isR := [0, 1, 2, 3, 4, 5, 6, 7]) (is2 := [0, 1, 2, 3, 4, 5, 6, 7, 8, 9, 10, 11, 12, 13]) (wc := (ob_w1 (a_b 3) a_t cI t)) (wr := (List.filterMap (fun i => (ob_w4 o_b a_b cI b ++ ob_w1 (a_b 2) a_y cI y ++ ob_w1 (a_b 3) a_t cI t)[i]?) [0, 1, 2, 3, 4, 5, 6, 7])) (w1 := (ob_w1 (a_b 3) a_t cI t_5)) (w2 := (ob_w4 o_b a_b cI b ++ ob_w1 (a_b 2) a_y cI y ++ ob_w1 (a_b 3) a_t cI t_5)) (b := (a_b 3)) (As := []) (rest := []) ⟨hx, hb, hml, hown, hts⟩ (mt_X1_passHour l dC dI cI cZ cR cW xs _ ((a_b 3)) a_t t r_4 t_5 hc_56) (cwV 0 hts gX4_past_X1_passHour rfl rfl rfl (by decide +kernel) ⟨Nat.le_of_ble_eq_true rfl, Nat.le_of_ble_eq_true rfl⟩) hK hE hP hD hS hA ⟨rfl, rfl, rfl, rfl, rfl, rfl, rfl⟩ 1 0 rfl rfl rfl hl rfl rfl (Nat.le_of_ble_eq_true rfl) ⟨Nat.le_of_ble_eq_true rfl, Nat.le_of_ble_eq_true rfl⟩ dX4_past_56 (fun H locs hP hD hS => ?_)
          refine W.widen (k := 0) (n := 0) (Nat.le_refl _) (Nat.le_refl _) ?_
          refine lv_pop hx hb dX4_past_59 rfl ?_
          obtain ⟨x_6, ex_6⟩ : ∃ z : Int32, z = z2 + 1 := ⟨_, rfl⟩
          replace hd := ob_lx ex_6 hd
          refine lv_iinc (v := x_6) (lv' := [(2, .int x_6), (0, .ref o_b), (1, .int x1)]) hx hb dX4_past_60 hl (k := 2) rfl (by rw [ex_6]; rfl) (by decide) rfl (fun ls hl => ?_)
          clear ex_6
          refine lv_goto (tgt := 33) hx hb dX4_past_63 (by decide) ?_
          exact ih _ _ t_5 x_6 _ hP hD hS (lv_sub hl [1, 2, 0] rfl) hd
        · replace hd := ob_t c_47 hd
          refine lv_iload_n hx hb dX4_past_50 rfl (lv_at hl 2 rfl) ?_
          obtain ⟨e1, e2⟩ := ob_pp hd
          subst e1
          subst e2
          exact ob_iret hx hb hr hlocks hP hD hS dX4_past_51
  refine lv_aload_n hx hb dX4_past_0 rfl (lv_at hl 0 rfl) ?_
  obtain ⟨r_1, hc_1, hd⟩ := ob_s1 hd
  refine ob_Vi (isC := [0, 1, 2, 3, 4, 5, 6, 7]) (isR := [8, 9, 10, 11, 12, 13]) (is2 := [6, 7, 8, 9, 10, 11, 12, 13, 0, 1, 2, 3, 4, 5]) (wc := (ob_w4 o_b a_b cI b ++ ob_w1 (a_b 2) a_y cI y)) (wr := (List.filterMap (fun i => (ob_w4 o_b a_b cI b ++ ob_w1 (a_b 2) a_y cI y ++ ob_w1 (a_b 3) a_t cI t)[i]?) [8, 9, 10, 11, 12, 13])) (w1 := (ob_w4 o_b a_b cI b ++ ob_w1 (a_b 2) a_y cI y)) (w2 := (ob_w4 o_b a_b cI b ++ ob_w1 (a_b 2) a_y cI y ++ ob_w1 (a_b 3) a_t cI t)) (b := o_b) (As := []) (rest := []) ⟨hx, hb, hml, hown, hts⟩ (mt_X4_noRoute l dC dI cI cZ cR cW xs _ o_b a_b a_y b y r_1 hc_1) (cwV 0 hts gX4_past_X4_noRoute rfl rfl rfl (by decide +kernel) ⟨Nat.le_of_ble_eq_true rfl, Nat.le_of_ble_eq_true rfl⟩) hK hE hP hD hS hA ⟨rfl, rfl, rfl, rfl, rfl, rfl, rfl⟩ 4 0 rfl rfl rfl hl rfl rfl (Nat.le_of_ble_eq_true rfl) ⟨Nat.le_of_ble_eq_true rfl, Nat.le_of_ble_eq_true rfl⟩ dX4_past_1 (fun H locs hP hD hS => ?_)
  refine W.widen (k := 0) (n := 0) (Nat.le_refl _) (Nat.le_refl _) ?_
  refine lv_if_eq (tgt := 10) hx hb dX4_past_4 (by decide) (fun c_4 => ?_) (fun c_4 => ?_)
  · replace hd := ob_t c_4 hd
    refine lv_iload_n hx hb dX4_past_10 rfl (lv_at hl 1 rfl) ?_
    obtain ⟨r_2, hc_11, hd⟩ := ob_s1 hd
    refine ob_Si (isC := []) (isR := [0, 1, 2, 3, 4, 5, 6, 7, 8, 9, 10, 11, 12, 13]) (is2 := [0, 1, 2, 3, 4, 5, 6, 7, 8, 9, 10, 11, 12, 13]) (wc := ([] : va_W)) (wr := (List.filterMap (fun i => (ob_w4 o_b a_b cI b ++ ob_w1 (a_b 2) a_y cI y ++ ob_w1 (a_b 3) a_t cI t)[i]?) [0, 1, 2, 3, 4, 5, 6, 7, 8, 9, 10, 11, 12, 13])) (w1 := ([] : va_W)) (w2 := (ob_w4 o_b a_b cI b ++ ob_w1 (a_b 2) a_y cI y ++ ob_w1 (a_b 3) a_t cI t)) (As := [.int x1]) (rest := []) ⟨hx, hb, hml, hown, hts⟩ (mt_X4_isPlace l dC dI cI cZ cR cW xs _ x1 r_2 hc_11) (va_cwS 1 hts gX4_past_X4_isPlace rfl rfl rfl (by decide +kernel) ⟨Nat.le_of_ble_eq_true rfl, Nat.le_of_ble_eq_true rfl⟩) hK hE hP hD hS hA ⟨rfl, rfl, rfl, rfl, rfl, rfl, rfl⟩ hl rfl rfl (Nat.le_of_ble_eq_true rfl) ⟨Nat.le_of_ble_eq_true rfl, Nat.le_of_ble_eq_true rfl⟩ dX4_past_11 (fun H locs hP hD hS => ?_)
    refine W.widen (k := 0) (n := 0) (Nat.le_refl _) (Nat.le_refl _) ?_
    refine lv_if_ne (tgt := 20) hx hb dX4_past_14 (by decide) (fun c_14 => ?_) (fun c_14 => ?_)
    · replace hd := ob_f c_14 hd
      refine lv_aload_n hx hb dX4_past_20 rfl (lv_at hl 0 rfl) ?_
      refine va_get (D := (dC, dI)) (ci := 4) (v := .ref (a_b 3)) (C := RX4) (T := TX4) (N := 10) hx hb hts hi_X4 hown hK hP 0 rfl rfl 3 (by decide) kw0 (fun _ h9 => h9) rfl dX4_past_21 ?_
      refine lv_aload_n hx hb dX4_past_24 rfl (lv_at hl 0 rfl) ?_
      refine va_get (D := (dC, dI)) (ci := 4) (v := .ref (a_b 2)) (C := RX4) (T := TX4) (N := 10) hx hb hts hi_X4 hown hK hP 0 rfl rfl 2 (by decide) kw1 (fun _ h9 => h9) rfl dX4_past_25 ?_
      obtain ⟨t_3, hc_28, hd⟩ := ob_s1 hd
      refine ob_Vv (isC := [8, 9, 10, 11, 12, 13, 2, 3, 4, 5, 6, 7]) (isR := [0, 1]) (is2 := [0, 1, 8, 9, 10, 11, 12, 13, 2, 3, 4, 5, 6, 7]) (wc := (ob_w1 (a_b 3) a_t cI t ++ ob_w1 (a_b 2) a_y cI y)) (wr := (List.filterMap (fun i => (ob_w4 o_b a_b cI b ++ ob_w1 (a_b 2) a_y cI y ++ ob_w1 (a_b 3) a_t cI t)[i]?) [0, 1])) (w1 := (ob_w1 (a_b 3) a_t cI t_3 ++ ob_w1 (a_b 2) a_y cI y)) (w2 := (ob_w4 o_b a_b cI b ++ ob_w1 (a_b 2) a_y cI y ++ ob_w1 (a_b 3) a_t cI t_3)) (b := (a_b 3)) (As := [.ref (a_b 2)]) (rest := []) ⟨hx, hb, hml, hown, hts⟩ (mt_X1_become l dC dI cI cZ cR cW xs _ ((a_b 3)) a_t ((a_b 2)) a_y t y t_3 hc_28) (cwV 1 hts gX4_past_X1_become rfl rfl rfl (by decide +kernel) ⟨Nat.le_of_ble_eq_true rfl, Nat.le_of_ble_eq_true rfl⟩) hK hE hP hD hS hA ⟨rfl, rfl, rfl, rfl, rfl, rfl, rfl⟩ 1 0 rfl rfl rfl hl rfl rfl (Nat.le_of_ble_eq_true rfl) ⟨Nat.le_of_ble_eq_true rfl, Nat.le_of_ble_eq_true rfl⟩ dX4_past_28 (fun H locs hP hD hS => ?_)
      refine W.widen (k := 0) (n := 0) (Nat.le_refl _) (Nat.le_refl _) ?_
      refine lv_iconst (v := 0) hx hb dX4_past_31 (by decide) ?_
      refine lv_istore_n (lv' := [(2, .int 0), (0, .ref o_b), (1, .int x1)]) hx hb dX4_past_32 rfl hl (by decide) rfl (fun ls hl => ?_)
      exact L33  2000 _ _ t_3 0 _ hP hD hS (lv_sub hl [1, 2, 0] rfl) hd
    · replace hd := ob_t c_14 hd
      refine lv_ldc hx hb hown kw2 dX4_past_17 ?_
      obtain ⟨e1, e2⟩ := ob_pp hd
      subst e1
      subst e2
      exact ob_iret hx hb hr hlocks hP hD hS dX4_past_19
  · replace hd := ob_f c_4 hd
    refine lv_ldc hx hb hown kw3 dX4_past_7 ?_
    obtain ⟨e1, e2⟩ := ob_pp hd
    subst e1
    subst e2
    exact ob_iret hx hb hr hlocks hP hD hS dX4_past_9

def fd_X4_visits_L46  : Nat → ob_B → ob_B → ob_B → Int32 → Int32 → Int32 → Option (Int32 × ob_B)
  | 0, _, _, _, _, _, _ => none
  | fu + 1, b, y, t, x1, z2, z3 => if x1 ≤ z3 then (some (z2, t)) else (ob_b2 (fd_X1_passHour t) (fun r_5 t_6 => ob_lt (z2 ||| (1 <<< ((t_6.1 0) &&& 31)) : Int32) (fun x_7 => ob_lt (z3 + 1 : Int32) (fun x_8 => fd_X4_visits_L46 fu b y t_6 x1 x_7 x_8))))
def fd_X4_visits  (b : ob_B) (y : ob_B) (t : ob_B) (x1 : Int32) : Option (Int32 × ob_B) := ob_b1 (fd_X4_noRoute b y) (fun r_1 => if r_1 = 0 then (ob_b1 (fd_X4_isWithin x1 0 60) (fun r_2 => if r_2 = 0 then (some ((-1000001), t)) else (ob_b1 (fd_X1_become t y) (fun t_3 => ob_lt (1 <<< ((t_3.1 0) &&& 31) : Int32) (fun x_4 => fd_X4_visits_L46 2000 b y t_3 x1 x_4 0))))) else (some ((-1000002), t)))
set_option maxHeartbeats 4000000 in
set_option maxRecDepth 100000 in
theorem mt_X4_visits (l : Launch) (dC : Nat → ClassId) (dI : Nat → Nat → Nat) (cI cZ cR cW : ClassId) (xs : Nat → Nat) (sz : Nat) (o_b : Nat) (a_b : Nat → Nat) (a_y : Nat → Nat) (a_t : Nat → Nat) (b : ob_B) (y : ob_B) (t : ob_B) (x1 : Int32)  (rr : Int32) (t' : ob_B) (hd : fd_X4_visits b y t x1 = some (rr, t')) : ob_M l yX4_visits wsX4_visits ({ frames := 4, cells := 0, slots := 0, locals := 90 } : Room) (dC, dI) (ob_ty cI cZ cR cW) xs [.ref o_b, .int x1] (ob_w4 o_b a_b cI b ++ ob_w1 (a_b 2) a_y cI y ++ ob_w1 (a_b 3) a_t cI t) sz (ob_Qi (dC, dI) rr (ob_w4 o_b a_b cI b ++ ob_w1 (a_b 2) a_y cI y ++ ob_w1 (a_b 3) a_t cI t')) := by
  rw [fd_X4_visits] at hd
  refine ob_in (cc := cX4_visits) (maxL := 4) (ret := (some .int)) (own := RX4) (by decide) rfl rfl [(0, .ref o_b), (1, .int x1)] rfl (Nat.le_of_ble_eq_true rfl) ?_
  intro p e s m below meth c hx hb hr hml hown hts hlocks hnm hK A hA hE hP hD hS ls hl
  have kw0 := hts (.fieldLink RX4 29 "OathCoach" "trial" "LOathCoach$Route;") (by decide +kernel)
  have kw1 := hts (.fieldLink RX4 25 "OathCoach" "route" "LOathCoach$Route;") (by decide +kernel)
  have kw2 := hts (.fieldLink RX4 152 "OathCoach$Route" "at" "I") (by decide +kernel)
  have kw3 := hts (.constant RX4 62 (-1000001)) (by decide +kernel)
  have kw4 := hts (.constant RX4 137 (-1000002)) (by decide +kernel)
  have hi_X1 : ∀ w ∈ u_ws RX1 TX1 12, w ∈ wsX4_visits := by decide +kernel
  have hi_X4 : ∀ w ∈ u_ws RX4 TX4 10, w ∈ wsX4_visits := by decide +kernel
  have L46 : ∀  (fu : Nat), ∀ (H : Heap) (locs : List Loc) (t : ob_B) (z2 : Int32) (z3 : Int32) (ls : Array Slot), va_P (dC, dI) vwCl (ob_w4 o_b a_b cI b ++ ob_w1 (a_b 2) a_y cI y ++ ob_w1 (a_b 3) a_t cI t) H → va_D A (ob_w4 o_b a_b cI b ++ ob_w1 (a_b 2) a_y cI y ++ ob_w1 (a_b 3) a_t cI t) → va_S A s.heap H locs → lv_has ls 4 [(0, .ref o_b), (1, .int x1), (2, .int z2), (3, .int z3)] → fd_X4_visits_L46 fu b y t x1 z2 z3 = some (rr, t') → W p l e ({ frames := 4, cells := 0, slots := 0, locals := 90 } : Room) s m (List.toArray [.ref o_b, .int x1]) below meth c H locs 0 0 (MQ below ((ob_Qi (dC, dI) rr (ob_w4 o_b a_b cI b ++ ob_w1 (a_b 2) a_y cI y ++ ob_w1 (a_b 3) a_t cI t')) A) (List.toArray [.ref o_b, .int x1]) s 0 0 A) (F0 m 46 ls []) := by
    intro  fu
    induction fu with
    | zero =>
      intro H locs t z2 z3 ls hP hD hS hl hd
      rw [fd_X4_visits_L46] at hd
      cases hd
    | succ fu ih =>
      intro H locs t z2 z3 ls hP hD hS hl hd
      rw [fd_X4_visits_L46] at hd
      refine lv_iload_n hx hb dX4_visits_46 rfl (lv_at hl 3 rfl) ?_
      refine lv_iload_n hx hb dX4_visits_47 rfl (lv_at hl 1 rfl) ?_
      refine lv_icmp_ge (tgt := 77) hx hb dX4_visits_48 (by decide) (fun c_48 => ?_) (fun c_48 => ?_)
      · replace hd := ob_t c_48 hd
        refine lv_iload_n hx hb dX4_visits_77 rfl (lv_at hl 2 rfl) ?_
        obtain ⟨e1, e2⟩ := ob_pp hd
        subst e1
        subst e2
        exact ob_iret hx hb hr hlocks hP hD hS dX4_visits_78
      · replace hd := ob_f c_48 hd
        refine lv_aload_n hx hb dX4_visits_51 rfl (lv_at hl 0 rfl) ?_
        refine va_get (D := (dC, dI)) (ci := 4) (v := .ref (a_b 3)) (C := RX4) (T := TX4) (N := 10) hx hb hts hi_X4 hown hK hP 0 rfl rfl 3 (by decide) kw0 (fun _ h9 => h9) rfl dX4_visits_52 ?_
        obtain ⟨r_5, t_6, hc_55, hd⟩ := ob_s2 hd
        refine ob_Vi (isC := [8, 9, 10, 11, 12, 13]) (isR := [0, 1, 2, 3, 4, 5, 6, 7]) (is2 := [0, 1, 2, 3, 4, 5, 6, 7, 8, 9, 10, 11, 12, 13]) (wc := (ob_w1 (a_b 3) a_t cI t)) (wr := (List.filterMap (fun i => (ob_w4 o_b a_b cI b ++ ob_w1 (a_b 2) a_y cI y ++ ob_w1 (a_b 3) a_t cI t)[i]?) [0, 1, 2, 3, 4, 5, 6, 7])) (w1 := (ob_w1 (a_b 3) a_t cI t_6)) (w2 := (ob_w4 o_b a_b cI b ++ ob_w1 (a_b 2) a_y cI y ++ ob_w1 (a_b 3) a_t cI t_6)) (b := (a_b 3)) (As := []) (rest := []) ⟨hx, hb, hml, hown, hts⟩ (mt_X1_passHour l dC dI cI cZ cR cW xs _ ((a_b 3)) a_t t r_5 t_6 hc_55) (cwV 0 hts gX4_visits_X1_passHour rfl rfl rfl (by decide +kernel) ⟨Nat.le_of_ble_eq_true rfl, Nat.le_of_ble_eq_true rfl⟩) hK hE hP hD hS hA ⟨rfl, rfl, rfl, rfl, rfl, rfl, rfl⟩ 1 0 rfl rfl rfl hl rfl rfl (Nat.le_of_ble_eq_true rfl) ⟨Nat.le_of_ble_eq_true rfl, Nat.le_of_ble_eq_true rfl⟩ dX4_visits_55 (fun H locs hP hD hS => ?_)
        refine W.widen (k := 0) (n := 0) (Nat.le_refl _) (Nat.le_refl _) ?_
        refine lv_pop hx hb dX4_visits_58 rfl ?_
        refine lv_iload_n hx hb dX4_visits_59 rfl (lv_at hl 2 rfl) ?_
        refine lv_iconst (v := 1) hx hb dX4_visits_60 (by decide) ?_
        refine lv_aload_n hx hb dX4_visits_61 rfl (lv_at hl 0 rfl) ?_
        refine va_get (D := (dC, dI)) (ci := 4) (v := .ref (a_b 3)) (C := RX4) (T := TX4) (N := 10) hx hb hts hi_X4 hown hK hP 0 rfl rfl 3 (by decide) kw0 (fun _ h9 => h9) rfl dX4_visits_62 ?_
        refine va_get (D := (dC, dI)) (ci := 1) (v := .int (t_6.1 0)) (C := RX1) (T := TX1) (N := 12) hx hb hts hi_X1 hown hK hP 8 rfl rfl 0 (by decide) kw2 (fun _ h9 => h9) rfl dX4_visits_65 ?_
        refine lv_ishl hx hb dX4_visits_68 ?_
        refine lv_ior hx hb dX4_visits_69 ?_
        refine lv_topi (fun x_7 ex_7 => ?_)
        replace hd := ob_lx ex_7 hd
        clear ex_7
        refine lv_istore_n (lv' := [(2, .int x_7), (0, .ref o_b), (1, .int x1), (3, .int z3)]) hx hb dX4_visits_70 rfl hl (by decide) rfl (fun ls hl => ?_)
        obtain ⟨x_8, ex_8⟩ : ∃ z : Int32, z = z3 + 1 := ⟨_, rfl⟩
        replace hd := ob_lx ex_8 hd
        refine lv_iinc (v := x_8) (lv' := [(3, .int x_8), (2, .int x_7), (0, .ref o_b), (1, .int x1)]) hx hb dX4_visits_71 hl (k := 3) rfl (by rw [ex_8]; rfl) (by decide) rfl (fun ls hl => ?_)
        clear ex_8
        refine lv_goto (tgt := 46) hx hb dX4_visits_74 (by decide) ?_
        exact ih _ _ t_6 x_7 x_8 _ hP hD hS (lv_sub hl [2, 3, 1, 0] rfl) hd
  refine lv_aload_n hx hb dX4_visits_0 rfl (lv_at hl 0 rfl) ?_
  obtain ⟨r_1, hc_1, hd⟩ := ob_s1 hd
  refine ob_Vi (isC := [0, 1, 2, 3, 4, 5, 6, 7]) (isR := [8, 9, 10, 11, 12, 13]) (is2 := [6, 7, 8, 9, 10, 11, 12, 13, 0, 1, 2, 3, 4, 5]) (wc := (ob_w4 o_b a_b cI b ++ ob_w1 (a_b 2) a_y cI y)) (wr := (List.filterMap (fun i => (ob_w4 o_b a_b cI b ++ ob_w1 (a_b 2) a_y cI y ++ ob_w1 (a_b 3) a_t cI t)[i]?) [8, 9, 10, 11, 12, 13])) (w1 := (ob_w4 o_b a_b cI b ++ ob_w1 (a_b 2) a_y cI y)) (w2 := (ob_w4 o_b a_b cI b ++ ob_w1 (a_b 2) a_y cI y ++ ob_w1 (a_b 3) a_t cI t)) (b := o_b) (As := []) (rest := []) ⟨hx, hb, hml, hown, hts⟩ (mt_X4_noRoute l dC dI cI cZ cR cW xs _ o_b a_b a_y b y r_1 hc_1) (cwV 0 hts gX4_visits_X4_noRoute rfl rfl rfl (by decide +kernel) ⟨Nat.le_of_ble_eq_true rfl, Nat.le_of_ble_eq_true rfl⟩) hK hE hP hD hS hA ⟨rfl, rfl, rfl, rfl, rfl, rfl, rfl⟩ 4 0 rfl rfl rfl hl rfl rfl (Nat.le_of_ble_eq_true rfl) ⟨Nat.le_of_ble_eq_true rfl, Nat.le_of_ble_eq_true rfl⟩ dX4_visits_1 (fun H locs hP hD hS => ?_)
  refine W.widen (k := 0) (n := 0) (Nat.le_refl _) (Nat.le_refl _) ?_
  refine lv_if_eq (tgt := 10) hx hb dX4_visits_4 (by decide) (fun c_4 => ?_) (fun c_4 => ?_)
  · replace hd := ob_t c_4 hd
    refine lv_iload_n hx hb dX4_visits_10 rfl (lv_at hl 1 rfl) ?_
    refine lv_iconst (v := 0) hx hb dX4_visits_11 (by decide) ?_
    refine lv_bipush (v := 60) hx hb dX4_visits_12 (by decide) ?_
    obtain ⟨r_2, hc_14, hd⟩ := ob_s1 hd
    refine ob_Si (isC := []) (isR := [0, 1, 2, 3, 4, 5, 6, 7, 8, 9, 10, 11, 12, 13]) (is2 := [0, 1, 2, 3, 4, 5, 6, 7, 8, 9, 10, 11, 12, 13]) (wc := ([] : va_W)) (wr := (List.filterMap (fun i => (ob_w4 o_b a_b cI b ++ ob_w1 (a_b 2) a_y cI y ++ ob_w1 (a_b 3) a_t cI t)[i]?) [0, 1, 2, 3, 4, 5, 6, 7, 8, 9, 10, 11, 12, 13])) (w1 := ([] : va_W)) (w2 := (ob_w4 o_b a_b cI b ++ ob_w1 (a_b 2) a_y cI y ++ ob_w1 (a_b 3) a_t cI t)) (As := [.int x1, .int 0, .int 60]) (rest := []) ⟨hx, hb, hml, hown, hts⟩ (mt_X4_isWithin l dC dI cI cZ cR cW xs _ x1 0 60 r_2 hc_14) (va_cwS 3 hts gX4_visits_X4_isWithin rfl rfl rfl (by decide +kernel) ⟨Nat.le_of_ble_eq_true rfl, Nat.le_of_ble_eq_true rfl⟩) hK hE hP hD hS hA ⟨rfl, rfl, rfl, rfl, rfl, rfl, rfl⟩ hl rfl rfl (Nat.le_of_ble_eq_true rfl) ⟨Nat.le_of_ble_eq_true rfl, Nat.le_of_ble_eq_true rfl⟩ dX4_visits_14 (fun H locs hP hD hS => ?_)
    refine W.widen (k := 0) (n := 0) (Nat.le_refl _) (Nat.le_refl _) ?_
    refine lv_if_ne (tgt := 23) hx hb dX4_visits_17 (by decide) (fun c_17 => ?_) (fun c_17 => ?_)
    · replace hd := ob_f c_17 hd
      refine lv_aload_n hx hb dX4_visits_23 rfl (lv_at hl 0 rfl) ?_
      refine va_get (D := (dC, dI)) (ci := 4) (v := .ref (a_b 3)) (C := RX4) (T := TX4) (N := 10) hx hb hts hi_X4 hown hK hP 0 rfl rfl 3 (by decide) kw0 (fun _ h9 => h9) rfl dX4_visits_24 ?_
      refine lv_aload_n hx hb dX4_visits_27 rfl (lv_at hl 0 rfl) ?_
      refine va_get (D := (dC, dI)) (ci := 4) (v := .ref (a_b 2)) (C := RX4) (T := TX4) (N := 10) hx hb hts hi_X4 hown hK hP 0 rfl rfl 2 (by decide) kw1 (fun _ h9 => h9) rfl dX4_visits_28 ?_
      obtain ⟨t_3, hc_31, hd⟩ := ob_s1 hd
      refine ob_Vv (isC := [8, 9, 10, 11, 12, 13, 2, 3, 4, 5, 6, 7]) (isR := [0, 1]) (is2 := [0, 1, 8, 9, 10, 11, 12, 13, 2, 3, 4, 5, 6, 7]) (wc := (ob_w1 (a_b 3) a_t cI t ++ ob_w1 (a_b 2) a_y cI y)) (wr := (List.filterMap (fun i => (ob_w4 o_b a_b cI b ++ ob_w1 (a_b 2) a_y cI y ++ ob_w1 (a_b 3) a_t cI t)[i]?) [0, 1])) (w1 := (ob_w1 (a_b 3) a_t cI t_3 ++ ob_w1 (a_b 2) a_y cI y)) (w2 := (ob_w4 o_b a_b cI b ++ ob_w1 (a_b 2) a_y cI y ++ ob_w1 (a_b 3) a_t cI t_3)) (b := (a_b 3)) (As := [.ref (a_b 2)]) (rest := []) ⟨hx, hb, hml, hown, hts⟩ (mt_X1_become l dC dI cI cZ cR cW xs _ ((a_b 3)) a_t ((a_b 2)) a_y t y t_3 hc_31) (cwV 1 hts gX4_visits_X1_become rfl rfl rfl (by decide +kernel) ⟨Nat.le_of_ble_eq_true rfl, Nat.le_of_ble_eq_true rfl⟩) hK hE hP hD hS hA ⟨rfl, rfl, rfl, rfl, rfl, rfl, rfl⟩ 1 0 rfl rfl rfl hl rfl rfl (Nat.le_of_ble_eq_true rfl) ⟨Nat.le_of_ble_eq_true rfl, Nat.le_of_ble_eq_true rfl⟩ dX4_visits_31 (fun H locs hP hD hS => ?_)
      refine W.widen (k := 0) (n := 0) (Nat.le_refl _) (Nat.le_refl _) ?_
      refine lv_iconst (v := 1) hx hb dX4_visits_34 (by decide) ?_
      refine lv_aload_n hx hb dX4_visits_35 rfl (lv_at hl 0 rfl) ?_
      refine va_get (D := (dC, dI)) (ci := 4) (v := .ref (a_b 3)) (C := RX4) (T := TX4) (N := 10) hx hb hts hi_X4 hown hK hP 0 rfl rfl 3 (by decide) kw0 (fun _ h9 => h9) rfl dX4_visits_36 ?_
      refine va_get (D := (dC, dI)) (ci := 1) (v := .int (t_3.1 0)) (C := RX1) (T := TX1) (N := 12) hx hb hts hi_X1 hown hK hP 8 rfl rfl 0 (by decide) kw2 (fun _ h9 => h9) rfl dX4_visits_39 ?_
      refine lv_ishl hx hb dX4_visits_42 ?_
      refine lv_topi (fun x_4 ex_4 => ?_)
      replace hd := ob_lx ex_4 hd
      clear ex_4
      refine lv_istore_n (lv' := [(2, .int x_4), (0, .ref o_b), (1, .int x1)]) hx hb dX4_visits_43 rfl hl (by decide) rfl (fun ls hl => ?_)
      refine lv_iconst (v := 0) hx hb dX4_visits_44 (by decide) ?_
      refine lv_istore_n (lv' := [(3, .int 0), (2, .int x_4), (0, .ref o_b), (1, .int x1)]) hx hb dX4_visits_45 rfl hl (by decide) rfl (fun ls hl => ?_)
      exact L46  2000 _ _ t_3 x_4 0 _ hP hD hS (lv_sub hl [2, 3, 1, 0] rfl) hd
    · replace hd := ob_t c_17 hd
      refine lv_ldc hx hb hown kw3 dX4_visits_20 ?_
      obtain ⟨e1, e2⟩ := ob_pp hd
      subst e1
      subst e2
      exact ob_iret hx hb hr hlocks hP hD hS dX4_visits_22
  · replace hd := ob_f c_4 hd
    refine lv_ldc hx hb hown kw4 dX4_visits_7 ?_
    obtain ⟨e1, e2⟩ := ob_pp hd
    subst e1
    subst e2
    exact ob_iret hx hb hr hlocks hP hD hS dX4_visits_9

def fd_X4_rest_L60 (k_25 : ob_B → ob_B → ob_B → Int32 → Int32 → Option (Int32 × ob_B)) (b : ob_B) (y : ob_B) (t : ob_B) (z1 : Int32) (z2 : Int32) : Option (Int32 × ob_B) := if (z2 - z1) = 10 then (some (z1, t)) else (ob_lt (z2 + 1 : Int32) (fun x_6 => k_25 b y t z1 x_6))
def fd_X4_rest_L25  : Nat → ob_B → ob_B → ob_B → Int32 → Int32 → Option (Int32 × ob_B)
  | 0, _, _, _, _, _ => none
  | fu + 1, b, y, t, z1, z2 => if 70 < z2 then (some ((-1000000), t)) else (ob_lt (t.1 0 : Int32) (fun x_3 => ob_b2 (fd_X1_passHour t) (fun r_4 t_5 => if (t_5.1 0) = x_3 then (fd_X4_rest_L60 (fd_X4_rest_L25 fu) b y t_5 z1 z2) else (fd_X4_rest_L60 (fd_X4_rest_L25 fu) b y t_5 z2 z2))))
def fd_X4_rest  (b : ob_B) (y : ob_B) (t : ob_B)  : Option (Int32 × ob_B) := ob_b1 (fd_X4_noRoute b y) (fun r_1 => if r_1 = 0 then (ob_b1 (fd_X1_become t y) (fun t_2 => fd_X4_rest_L25 2000 b y t_2 0 1)) else (some ((-1000002), t)))
set_option maxHeartbeats 4000000 in
set_option maxRecDepth 100000 in
theorem mt_X4_rest (l : Launch) (dC : Nat → ClassId) (dI : Nat → Nat → Nat) (cI cZ cR cW : ClassId) (xs : Nat → Nat) (sz : Nat) (o_b : Nat) (a_b : Nat → Nat) (a_y : Nat → Nat) (a_t : Nat → Nat) (b : ob_B) (y : ob_B) (t : ob_B)   (rr : Int32) (t' : ob_B) (hd : fd_X4_rest b y t = some (rr, t')) : ob_M l yX4_rest wsX4_rest ({ frames := 4, cells := 0, slots := 0, locals := 90 } : Room) (dC, dI) (ob_ty cI cZ cR cW) xs [.ref o_b] (ob_w4 o_b a_b cI b ++ ob_w1 (a_b 2) a_y cI y ++ ob_w1 (a_b 3) a_t cI t) sz (ob_Qi (dC, dI) rr (ob_w4 o_b a_b cI b ++ ob_w1 (a_b 2) a_y cI y ++ ob_w1 (a_b 3) a_t cI t')) := by
  rw [fd_X4_rest] at hd
  refine ob_in (cc := cX4_rest) (maxL := 4) (ret := (some .int)) (own := RX4) (by decide) rfl rfl [(0, .ref o_b)] rfl (Nat.le_of_ble_eq_true rfl) ?_
  intro p e s m below meth c hx hb hr hml hown hts hlocks hnm hK A hA hE hP hD hS ls hl
  have kw0 := hts (.fieldLink RX4 29 "OathCoach" "trial" "LOathCoach$Route;") (by decide +kernel)
  have kw1 := hts (.fieldLink RX4 25 "OathCoach" "route" "LOathCoach$Route;") (by decide +kernel)
  have kw2 := hts (.constant RX4 137 (-1000002)) (by decide +kernel)
  have kw3 := hts (.constant RX4 205 (-1000000)) (by decide +kernel)
  have kw4 := hts (.fieldLink RX4 152 "OathCoach$Route" "at" "I") (by decide +kernel)
  have hi_X1 : ∀ w ∈ u_ws RX1 TX1 12, w ∈ wsX4_rest := by decide +kernel
  have hi_X4 : ∀ w ∈ u_ws RX4 TX4 10, w ∈ wsX4_rest := by decide +kernel
  have L60 : ∀ (k_25 : ob_B → ob_B → ob_B → Int32 → Int32 → Option (Int32 × ob_B)) (hk_25 : ∀ (H : Heap) (locs : List Loc) (t : ob_B) (z1 : Int32) (z2 : Int32) (ls : Array Slot), va_P (dC, dI) vwCl (ob_w4 o_b a_b cI b ++ ob_w1 (a_b 2) a_y cI y ++ ob_w1 (a_b 3) a_t cI t) H → va_D A (ob_w4 o_b a_b cI b ++ ob_w1 (a_b 2) a_y cI y ++ ob_w1 (a_b 3) a_t cI t) → va_S A s.heap H locs → lv_has ls 4 [(0, .ref o_b), (1, .int z1), (2, .int z2)] → k_25 b y t z1 z2 = some (rr, t') → W p l e ({ frames := 4, cells := 0, slots := 0, locals := 90 } : Room) s m (List.toArray [.ref o_b]) below meth c H locs 0 0 (MQ below ((ob_Qi (dC, dI) rr (ob_w4 o_b a_b cI b ++ ob_w1 (a_b 2) a_y cI y ++ ob_w1 (a_b 3) a_t cI t')) A) (List.toArray [.ref o_b]) s 0 0 A) (F0 m 25 ls [])), ∀ (H : Heap) (locs : List Loc) (t : ob_B) (z1 : Int32) (z2 : Int32) (ls : Array Slot), va_P (dC, dI) vwCl (ob_w4 o_b a_b cI b ++ ob_w1 (a_b 2) a_y cI y ++ ob_w1 (a_b 3) a_t cI t) H → va_D A (ob_w4 o_b a_b cI b ++ ob_w1 (a_b 2) a_y cI y ++ ob_w1 (a_b 3) a_t cI t) → va_S A s.heap H locs → lv_has ls 4 [(0, .ref o_b), (1, .int z1), (2, .int z2)] → fd_X4_rest_L60 k_25 b y t z1 z2 = some (rr, t') → W p l e ({ frames := 4, cells := 0, slots := 0, locals := 90 } : Room) s m (List.toArray [.ref o_b]) below meth c H locs 0 0 (MQ below ((ob_Qi (dC, dI) rr (ob_w4 o_b a_b cI b ++ ob_w1 (a_b 2) a_y cI y ++ ob_w1 (a_b 3) a_t cI t')) A) (List.toArray [.ref o_b]) s 0 0 A) (F0 m 60 ls []) := by
    intro k_25 hk_25 H locs t z1 z2 ls hP hD hS hl hd
    rw [fd_X4_rest_L60] at hd
    refine lv_iload_n hx hb dX4_rest_60 rfl (lv_at hl 2 rfl) ?_
    refine lv_iload_n hx hb dX4_rest_61 rfl (lv_at hl 1 rfl) ?_
    refine lv_isub hx hb dX4_rest_62 ?_
    refine lv_bipush (v := 10) hx hb dX4_rest_63 (by decide) ?_
    refine lv_icmp_ne (tgt := 70) hx hb dX4_rest_65 (by decide) (fun c_65 => ?_) (fun c_65 => ?_)
    · replace hd := ob_f c_65 hd
      obtain ⟨x_6, ex_6⟩ : ∃ z : Int32, z = z2 + 1 := ⟨_, rfl⟩
      replace hd := ob_lx ex_6 hd
      refine lv_iinc (v := x_6) (lv' := [(2, .int x_6), (0, .ref o_b), (1, .int z1)]) hx hb dX4_rest_70 hl (k := 2) rfl (by rw [ex_6]; rfl) (by decide) rfl (fun ls hl => ?_)
      clear ex_6
      refine lv_goto (tgt := 25) hx hb dX4_rest_73 (by decide) ?_
      exact hk_25 _ _ t z1 x_6 _ hP hD hS (lv_sub hl [1, 2, 0] rfl) hd
    · replace hd := ob_t c_65 hd
      refine lv_iload_n hx hb dX4_rest_68 rfl (lv_at hl 1 rfl) ?_
      obtain ⟨e1, e2⟩ := ob_pp hd
      subst e1
      subst e2
      exact ob_iret hx hb hr hlocks hP hD hS dX4_rest_69
  have L25 : ∀  (fu : Nat), ∀ (H : Heap) (locs : List Loc) (t : ob_B) (z1 : Int32) (z2 : Int32) (ls : Array Slot), va_P (dC, dI) vwCl (ob_w4 o_b a_b cI b ++ ob_w1 (a_b 2) a_y cI y ++ ob_w1 (a_b 3) a_t cI t) H → va_D A (ob_w4 o_b a_b cI b ++ ob_w1 (a_b 2) a_y cI y ++ ob_w1 (a_b 3) a_t cI t) → va_S A s.heap H locs → lv_has ls 4 [(0, .ref o_b), (1, .int z1), (2, .int z2)] → fd_X4_rest_L25 fu b y t z1 z2 = some (rr, t') → W p l e ({ frames := 4, cells := 0, slots := 0, locals := 90 } : Room) s m (List.toArray [.ref o_b]) below meth c H locs 0 0 (MQ below ((ob_Qi (dC, dI) rr (ob_w4 o_b a_b cI b ++ ob_w1 (a_b 2) a_y cI y ++ ob_w1 (a_b 3) a_t cI t')) A) (List.toArray [.ref o_b]) s 0 0 A) (F0 m 25 ls []) := by
    intro  fu
    induction fu with
    | zero =>
      intro H locs t z1 z2 ls hP hD hS hl hd
      rw [fd_X4_rest_L25] at hd
      cases hd
    | succ fu ih =>
      intro H locs t z1 z2 ls hP hD hS hl hd
      rw [fd_X4_rest_L25] at hd
      refine lv_iload_n hx hb dX4_rest_25 rfl (lv_at hl 2 rfl) ?_
      refine lv_bipush (v := 70) hx hb dX4_rest_26 (by decide) ?_
      refine lv_icmp_gt (tgt := 76) hx hb dX4_rest_28 (by decide) (fun c_28 => ?_) (fun c_28 => ?_)
      · replace hd := ob_t c_28 hd
        refine lv_ldc hx hb hown kw3 dX4_rest_76 ?_
        obtain ⟨e1, e2⟩ := ob_pp hd
        subst e1
        subst e2
        exact ob_iret hx hb hr hlocks hP hD hS dX4_rest_78
      · replace hd := ob_f c_28 hd
        refine lv_aload_n hx hb dX4_rest_31 rfl (lv_at hl 0 rfl) ?_
        refine va_get (D := (dC, dI)) (ci := 4) (v := .ref (a_b 3)) (C := RX4) (T := TX4) (N := 10) hx hb hts hi_X4 hown hK hP 0 rfl rfl 3 (by decide) kw0 (fun _ h9 => h9) rfl dX4_rest_32 ?_
        refine va_get (D := (dC, dI)) (ci := 1) (v := .int (t.1 0)) (C := RX1) (T := TX1) (N := 12) hx hb hts hi_X1 hown hK hP 8 rfl rfl 0 (by decide) kw4 (fun _ h9 => h9) rfl dX4_rest_35 ?_
        refine lv_topi (fun x_3 ex_3 => ?_)
        replace hd := ob_lx ex_3 hd
        clear ex_3
        refine lv_istore_n (lv' := [(3, .int x_3), (0, .ref o_b), (1, .int z1), (2, .int z2)]) hx hb dX4_rest_38 rfl hl (by decide) rfl (fun ls hl => ?_)
        refine lv_aload_n hx hb dX4_rest_39 rfl (lv_at hl 1 rfl) ?_
        refine va_get (D := (dC, dI)) (ci := 4) (v := .ref (a_b 3)) (C := RX4) (T := TX4) (N := 10) hx hb hts hi_X4 hown hK hP 0 rfl rfl 3 (by decide) kw0 (fun _ h9 => h9) rfl dX4_rest_40 ?_
        obtain ⟨r_4, t_5, hc_43, hd⟩ := ob_s2 hd
        refine ob_Vi (isC := [8, 9, 10, 11, 12, 13]) (isR := [0, 1, 2, 3, 4, 5, 6, 7]) (is2 := [0, 1, 2, 3, 4, 5, 6, 7, 8, 9, 10, 11, 12, 13]) (wc := (ob_w1 (a_b 3) a_t cI t)) (wr := (List.filterMap (fun i => (ob_w4 o_b a_b cI b ++ ob_w1 (a_b 2) a_y cI y ++ ob_w1 (a_b 3) a_t cI t)[i]?) [0, 1, 2, 3, 4, 5, 6, 7])) (w1 := (ob_w1 (a_b 3) a_t cI t_5)) (w2 := (ob_w4 o_b a_b cI b ++ ob_w1 (a_b 2) a_y cI y ++ ob_w1 (a_b 3) a_t cI t_5)) (b := (a_b 3)) (As := []) (rest := []) ⟨hx, hb, hml, hown, hts⟩ (mt_X1_passHour l dC dI cI cZ cR cW xs _ ((a_b 3)) a_t t r_4 t_5 hc_43) (cwV 0 hts gX4_rest_X1_passHour rfl rfl rfl (by decide +kernel) ⟨Nat.le_of_ble_eq_true rfl, Nat.le_of_ble_eq_true rfl⟩) hK hE hP hD hS hA ⟨rfl, rfl, rfl, rfl, rfl, rfl, rfl⟩ 1 0 rfl rfl rfl hl rfl rfl (Nat.le_of_ble_eq_true rfl) ⟨Nat.le_of_ble_eq_true rfl, Nat.le_of_ble_eq_true rfl⟩ dX4_rest_43 (fun H locs hP hD hS => ?_)
        refine W.widen (k := 0) (n := 0) (Nat.le_refl _) (Nat.le_refl _) ?_
        refine lv_pop hx hb dX4_rest_46 rfl ?_
        refine lv_aload_n hx hb dX4_rest_47 rfl (lv_at hl 1 rfl) ?_
        refine va_get (D := (dC, dI)) (ci := 4) (v := .ref (a_b 3)) (C := RX4) (T := TX4) (N := 10) hx hb hts hi_X4 hown hK hP 0 rfl rfl 3 (by decide) kw0 (fun _ h9 => h9) rfl dX4_rest_48 ?_
        refine va_get (D := (dC, dI)) (ci := 1) (v := .int (t_5.1 0)) (C := RX1) (T := TX1) (N := 12) hx hb hts hi_X1 hown hK hP 8 rfl rfl 0 (by decide) kw4 (fun _ h9 => h9) rfl dX4_rest_51 ?_
        refine lv_iload_n hx hb dX4_rest_54 rfl (lv_at hl 0 rfl) ?_
        refine lv_icmp_eq (tgt := 60) hx hb dX4_rest_55 (by decide) (fun c_55 => ?_) (fun c_55 => ?_)
        · replace hd := ob_t c_55 hd
          exact L60 (fd_X4_rest_L25 fu) ih  _ _ t_5 z1 z2 _ hP hD hS (lv_sub hl [1, 2, 3] rfl) hd
        · replace hd := ob_f c_55 hd
          refine lv_iload_n hx hb dX4_rest_58 rfl (lv_at hl 3 rfl) ?_
          refine lv_istore_n (lv' := [(1, .int z2), (3, .int x_3), (0, .ref o_b), (2, .int z2)]) hx hb dX4_rest_59 rfl hl (by decide) rfl (fun ls hl => ?_)
          exact L60 (fd_X4_rest_L25 fu) ih  _ _ t_5 z2 z2 _ hP hD hS (lv_sub hl [2, 0, 3] rfl) hd
  refine lv_aload_n hx hb dX4_rest_0 rfl (lv_at hl 0 rfl) ?_
  obtain ⟨r_1, hc_1, hd⟩ := ob_s1 hd
  refine ob_Vi (isC := [0, 1, 2, 3, 4, 5, 6, 7]) (isR := [8, 9, 10, 11, 12, 13]) (is2 := [6, 7, 8, 9, 10, 11, 12, 13, 0, 1, 2, 3, 4, 5]) (wc := (ob_w4 o_b a_b cI b ++ ob_w1 (a_b 2) a_y cI y)) (wr := (List.filterMap (fun i => (ob_w4 o_b a_b cI b ++ ob_w1 (a_b 2) a_y cI y ++ ob_w1 (a_b 3) a_t cI t)[i]?) [8, 9, 10, 11, 12, 13])) (w1 := (ob_w4 o_b a_b cI b ++ ob_w1 (a_b 2) a_y cI y)) (w2 := (ob_w4 o_b a_b cI b ++ ob_w1 (a_b 2) a_y cI y ++ ob_w1 (a_b 3) a_t cI t)) (b := o_b) (As := []) (rest := []) ⟨hx, hb, hml, hown, hts⟩ (mt_X4_noRoute l dC dI cI cZ cR cW xs _ o_b a_b a_y b y r_1 hc_1) (cwV 0 hts gX4_rest_X4_noRoute rfl rfl rfl (by decide +kernel) ⟨Nat.le_of_ble_eq_true rfl, Nat.le_of_ble_eq_true rfl⟩) hK hE hP hD hS hA ⟨rfl, rfl, rfl, rfl, rfl, rfl, rfl⟩ 4 0 rfl rfl rfl hl rfl rfl (Nat.le_of_ble_eq_true rfl) ⟨Nat.le_of_ble_eq_true rfl, Nat.le_of_ble_eq_true rfl⟩ dX4_rest_1 (fun H locs hP hD hS => ?_)
  refine W.widen (k := 0) (n := 0) (Nat.le_refl _) (Nat.le_refl _) ?_
  refine lv_if_eq (tgt := 10) hx hb dX4_rest_4 (by decide) (fun c_4 => ?_) (fun c_4 => ?_)
  · replace hd := ob_t c_4 hd
    refine lv_aload_n hx hb dX4_rest_10 rfl (lv_at hl 0 rfl) ?_
    refine va_get (D := (dC, dI)) (ci := 4) (v := .ref (a_b 3)) (C := RX4) (T := TX4) (N := 10) hx hb hts hi_X4 hown hK hP 0 rfl rfl 3 (by decide) kw0 (fun _ h9 => h9) rfl dX4_rest_11 ?_
    refine lv_aload_n hx hb dX4_rest_14 rfl (lv_at hl 0 rfl) ?_
    refine va_get (D := (dC, dI)) (ci := 4) (v := .ref (a_b 2)) (C := RX4) (T := TX4) (N := 10) hx hb hts hi_X4 hown hK hP 0 rfl rfl 2 (by decide) kw1 (fun _ h9 => h9) rfl dX4_rest_15 ?_
    obtain ⟨t_2, hc_18, hd⟩ := ob_s1 hd
    refine ob_Vv (isC := [8, 9, 10, 11, 12, 13, 2, 3, 4, 5, 6, 7]) (isR := [0, 1]) (is2 := [0, 1, 8, 9, 10, 11, 12, 13, 2, 3, 4, 5, 6, 7]) (wc := (ob_w1 (a_b 3) a_t cI t ++ ob_w1 (a_b 2) a_y cI y)) (wr := (List.filterMap (fun i => (ob_w4 o_b a_b cI b ++ ob_w1 (a_b 2) a_y cI y ++ ob_w1 (a_b 3) a_t cI t)[i]?) [0, 1])) (w1 := (ob_w1 (a_b 3) a_t cI t_2 ++ ob_w1 (a_b 2) a_y cI y)) (w2 := (ob_w4 o_b a_b cI b ++ ob_w1 (a_b 2) a_y cI y ++ ob_w1 (a_b 3) a_t cI t_2)) (b := (a_b 3)) (As := [.ref (a_b 2)]) (rest := []) ⟨hx, hb, hml, hown, hts⟩ (mt_X1_become l dC dI cI cZ cR cW xs _ ((a_b 3)) a_t ((a_b 2)) a_y t y t_2 hc_18) (cwV 1 hts gX4_rest_X1_become rfl rfl rfl (by decide +kernel) ⟨Nat.le_of_ble_eq_true rfl, Nat.le_of_ble_eq_true rfl⟩) hK hE hP hD hS hA ⟨rfl, rfl, rfl, rfl, rfl, rfl, rfl⟩ 1 0 rfl rfl rfl hl rfl rfl (Nat.le_of_ble_eq_true rfl) ⟨Nat.le_of_ble_eq_true rfl, Nat.le_of_ble_eq_true rfl⟩ dX4_rest_18 (fun H locs hP hD hS => ?_)
    refine W.widen (k := 0) (n := 0) (Nat.le_refl _) (Nat.le_refl _) ?_
    refine lv_iconst (v := 0) hx hb dX4_rest_21 (by decide) ?_
    refine lv_istore_n (lv' := [(1, .int 0), (0, .ref o_b)]) hx hb dX4_rest_22 rfl hl (by decide) rfl (fun ls hl => ?_)
    refine lv_iconst (v := 1) hx hb dX4_rest_23 (by decide) ?_
    refine lv_istore_n (lv' := [(2, .int 1), (1, .int 0), (0, .ref o_b)]) hx hb dX4_rest_24 rfl hl (by decide) rfl (fun ls hl => ?_)
    exact L25  2000 _ _ t_2 0 1 _ hP hD hS (lv_sub hl [2, 1, 0] rfl) hd
  · replace hd := ob_f c_4 hd
    refine lv_ldc hx hb hown kw2 dX4_rest_7 ?_
    obtain ⟨e1, e2⟩ := ob_pp hd
    subst e1
    subst e2
    exact ob_iret hx hb hr hlocks hP hD hS dX4_rest_9

def fd_X4_least_L31  : Nat → ob_B → ob_B → ob_B → Int32 → Int32 → Int32 → Int32 → Option (Int32 × ob_B)
  | 0, _, _, _, _, _, _, _ => none
  | fu + 1, b, y, t, x1, x2, x3, z4 => if 20 < z4 then (some ((-1000000), t)) else (ob_b1 (fd_X1_become t y) (fun t_4 => ob_b1 (fd_X1_openTo t_4 x1 x2 z4) (fun t_5 => ob_b1 (fd_X1_passHours t_5 x3) (fun t_6 => if (t_6.1 0) = (t_6.1 1) then (some (z4, t_6)) else (ob_lt (z4 + 1 : Int32) (fun x_7 => fd_X4_least_L31 fu b y t_6 x1 x2 x3 x_7))))))
def fd_X4_least  (b : ob_B) (y : ob_B) (t : ob_B) (x1 : Int32) (x2 : Int32) (x3 : Int32) : Option (Int32 × ob_B) := ob_b1 (fd_X4_isOath b y x1) (fun r_1 => if r_1 = 0 then (some ((-1000001), t)) else (ob_b1 (fd_X4_isPlace x2) (fun r_2 => if r_2 = 0 then (some ((-1000001), t)) else (ob_b1 (fd_X4_isWithin x3 1 24) (fun r_3 => if r_3 = 0 then (some ((-1000001), t)) else (fd_X4_least_L31 2000 b y t x1 x2 x3 1))))))
set_option maxHeartbeats 4000000 in
set_option maxRecDepth 100000 in
theorem mt_X4_least (l : Launch) (dC : Nat → ClassId) (dI : Nat → Nat → Nat) (cI cZ cR cW : ClassId) (xs : Nat → Nat) (sz : Nat) (o_b : Nat) (a_b : Nat → Nat) (a_y : Nat → Nat) (a_t : Nat → Nat) (b : ob_B) (y : ob_B) (t : ob_B) (x1 : Int32) (x2 : Int32) (x3 : Int32)  (rr : Int32) (t' : ob_B) (hd : fd_X4_least b y t x1 x2 x3 = some (rr, t')) : ob_M l yX4_least wsX4_least ({ frames := 5, cells := 0, slots := 0, locals := 112 } : Room) (dC, dI) (ob_ty cI cZ cR cW) xs [.ref o_b, .int x1, .int x2, .int x3] (ob_w4 o_b a_b cI b ++ ob_w1 (a_b 2) a_y cI y ++ ob_w1 (a_b 3) a_t cI t) sz (ob_Qi (dC, dI) rr (ob_w4 o_b a_b cI b ++ ob_w1 (a_b 2) a_y cI y ++ ob_w1 (a_b 3) a_t cI t')) := by
  rw [fd_X4_least] at hd
  refine ob_in (cc := cX4_least) (maxL := 5) (ret := (some .int)) (own := RX4) (by decide) rfl rfl [(0, .ref o_b), (1, .int x1), (2, .int x2), (3, .int x3)] rfl (Nat.le_of_ble_eq_true rfl) ?_
  intro p e s m below meth c hx hb hr hml hown hts hlocks hnm hK A hA hE hP hD hS ls hl
  have kw0 := hts (.constant RX4 62 (-1000001)) (by decide +kernel)
  have kw1 := hts (.constant RX4 205 (-1000000)) (by decide +kernel)
  have kw2 := hts (.fieldLink RX4 29 "OathCoach" "trial" "LOathCoach$Route;") (by decide +kernel)
  have kw3 := hts (.fieldLink RX4 25 "OathCoach" "route" "LOathCoach$Route;") (by decide +kernel)
  have kw4 := hts (.fieldLink RX4 152 "OathCoach$Route" "at" "I") (by decide +kernel)
  have kw5 := hts (.fieldLink RX4 195 "OathCoach$Route" "home" "I") (by decide +kernel)
  have hi_X1 : ∀ w ∈ u_ws RX1 TX1 12, w ∈ wsX4_least := by decide +kernel
  have hi_X4 : ∀ w ∈ u_ws RX4 TX4 10, w ∈ wsX4_least := by decide +kernel
  have L31 : ∀  (fu : Nat), ∀ (H : Heap) (locs : List Loc) (t : ob_B) (z4 : Int32) (ls : Array Slot), va_P (dC, dI) vwCl (ob_w4 o_b a_b cI b ++ ob_w1 (a_b 2) a_y cI y ++ ob_w1 (a_b 3) a_t cI t) H → va_D A (ob_w4 o_b a_b cI b ++ ob_w1 (a_b 2) a_y cI y ++ ob_w1 (a_b 3) a_t cI t) → va_S A s.heap H locs → lv_has ls 5 [(0, .ref o_b), (1, .int x1), (2, .int x2), (3, .int x3), (4, .int z4)] → fd_X4_least_L31 fu b y t x1 x2 x3 z4 = some (rr, t') → W p l e ({ frames := 5, cells := 0, slots := 0, locals := 112 } : Room) s m (List.toArray [.ref o_b, .int x1, .int x2, .int x3]) below meth c H locs 0 0 (MQ below ((ob_Qi (dC, dI) rr (ob_w4 o_b a_b cI b ++ ob_w1 (a_b 2) a_y cI y ++ ob_w1 (a_b 3) a_t cI t')) A) (List.toArray [.ref o_b, .int x1, .int x2, .int x3]) s 0 0 A) (F0 m 31 ls []) := by
    intro  fu
    induction fu with
    | zero =>
      intro H locs t z4 ls hP hD hS hl hd
      rw [fd_X4_least_L31] at hd
      cases hd
    | succ fu ih =>
      intro H locs t z4 ls hP hD hS hl hd
      rw [fd_X4_least_L31] at hd
      refine lv_iload hx hb dX4_least_31 (lv_at hl 4 rfl) ?_
      refine lv_bipush (v := 20) hx hb dX4_least_33 (by decide) ?_
      refine lv_icmp_gt (tgt := 94) hx hb dX4_least_35 (by decide) (fun c_35 => ?_) (fun c_35 => ?_)
      · replace hd := ob_t c_35 hd
        refine lv_ldc hx hb hown kw1 dX4_least_94 ?_
        obtain ⟨e1, e2⟩ := ob_pp hd
        subst e1
        subst e2
        exact ob_iret hx hb hr hlocks hP hD hS dX4_least_96
      · replace hd := ob_f c_35 hd
        refine lv_aload_n hx hb dX4_least_38 rfl (lv_at hl 0 rfl) ?_
        refine va_get (D := (dC, dI)) (ci := 4) (v := .ref (a_b 3)) (C := RX4) (T := TX4) (N := 10) hx hb hts hi_X4 hown hK hP 0 rfl rfl 3 (by decide) kw2 (fun _ h9 => h9) rfl dX4_least_39 ?_
        refine lv_aload_n hx hb dX4_least_42 rfl (lv_at hl 0 rfl) ?_
        refine va_get (D := (dC, dI)) (ci := 4) (v := .ref (a_b 2)) (C := RX4) (T := TX4) (N := 10) hx hb hts hi_X4 hown hK hP 0 rfl rfl 2 (by decide) kw3 (fun _ h9 => h9) rfl dX4_least_43 ?_
        obtain ⟨t_4, hc_46, hd⟩ := ob_s1 hd
        refine ob_Vv (isC := [8, 9, 10, 11, 12, 13, 2, 3, 4, 5, 6, 7]) (isR := [0, 1]) (is2 := [0, 1, 8, 9, 10, 11, 12, 13, 2, 3, 4, 5, 6, 7]) (wc := (ob_w1 (a_b 3) a_t cI t ++ ob_w1 (a_b 2) a_y cI y)) (wr := (List.filterMap (fun i => (ob_w4 o_b a_b cI b ++ ob_w1 (a_b 2) a_y cI y ++ ob_w1 (a_b 3) a_t cI t)[i]?) [0, 1])) (w1 := (ob_w1 (a_b 3) a_t cI t_4 ++ ob_w1 (a_b 2) a_y cI y)) (w2 := (ob_w4 o_b a_b cI b ++ ob_w1 (a_b 2) a_y cI y ++ ob_w1 (a_b 3) a_t cI t_4)) (b := (a_b 3)) (As := [.ref (a_b 2)]) (rest := []) ⟨hx, hb, hml, hown, hts⟩ (mt_X1_become l dC dI cI cZ cR cW xs _ ((a_b 3)) a_t ((a_b 2)) a_y t y t_4 hc_46) (cwV 1 hts gX4_least_X1_become rfl rfl rfl (by decide +kernel) ⟨Nat.le_of_ble_eq_true rfl, Nat.le_of_ble_eq_true rfl⟩) hK hE hP hD hS hA ⟨rfl, rfl, rfl, rfl, rfl, rfl, rfl⟩ 1 0 rfl rfl rfl hl rfl rfl (Nat.le_of_ble_eq_true rfl) ⟨Nat.le_of_ble_eq_true rfl, Nat.le_of_ble_eq_true rfl⟩ dX4_least_46 (fun H locs hP hD hS => ?_)
        refine W.widen (k := 0) (n := 0) (Nat.le_refl _) (Nat.le_refl _) ?_
        refine lv_aload_n hx hb dX4_least_49 rfl (lv_at hl 0 rfl) ?_
        refine va_get (D := (dC, dI)) (ci := 4) (v := .ref (a_b 3)) (C := RX4) (T := TX4) (N := 10) hx hb hts hi_X4 hown hK hP 0 rfl rfl 3 (by decide) kw2 (fun _ h9 => h9) rfl dX4_least_50 ?_
        refine lv_iload_n hx hb dX4_least_53 rfl (lv_at hl 1 rfl) ?_
        refine lv_iload_n hx hb dX4_least_54 rfl (lv_at hl 2 rfl) ?_
        refine lv_iload hx hb dX4_least_55 (lv_at hl 4 rfl) ?_
        obtain ⟨t_5, hc_57, hd⟩ := ob_s1 hd
        refine ob_Vv (isC := [8, 9, 10, 11, 12, 13]) (isR := [0, 1, 2, 3, 4, 5, 6, 7]) (is2 := [0, 1, 2, 3, 4, 5, 6, 7, 8, 9, 10, 11, 12, 13]) (wc := (ob_w1 (a_b 3) a_t cI t_4)) (wr := (List.filterMap (fun i => (ob_w4 o_b a_b cI b ++ ob_w1 (a_b 2) a_y cI y ++ ob_w1 (a_b 3) a_t cI t_4)[i]?) [0, 1, 2, 3, 4, 5, 6, 7])) (w1 := (ob_w1 (a_b 3) a_t cI t_5)) (w2 := (ob_w4 o_b a_b cI b ++ ob_w1 (a_b 2) a_y cI y ++ ob_w1 (a_b 3) a_t cI t_5)) (b := (a_b 3)) (As := [.int x1, .int x2, .int z4]) (rest := []) ⟨hx, hb, hml, hown, hts⟩ (mt_X1_openTo l dC dI cI cZ cR cW xs _ ((a_b 3)) a_t t_4 x1 x2 z4 t_5 hc_57) (cwV 3 hts gX4_least_X1_openTo rfl rfl rfl (by decide +kernel) ⟨Nat.le_of_ble_eq_true rfl, Nat.le_of_ble_eq_true rfl⟩) hK hE hP hD hS hA ⟨rfl, rfl, rfl, rfl, rfl, rfl, rfl⟩ 1 0 rfl rfl rfl hl rfl rfl (Nat.le_of_ble_eq_true rfl) ⟨Nat.le_of_ble_eq_true rfl, Nat.le_of_ble_eq_true rfl⟩ dX4_least_57 (fun H locs hP hD hS => ?_)
        refine W.widen (k := 0) (n := 0) (Nat.le_refl _) (Nat.le_refl _) ?_
        refine lv_aload_n hx hb dX4_least_60 rfl (lv_at hl 0 rfl) ?_
        refine va_get (D := (dC, dI)) (ci := 4) (v := .ref (a_b 3)) (C := RX4) (T := TX4) (N := 10) hx hb hts hi_X4 hown hK hP 0 rfl rfl 3 (by decide) kw2 (fun _ h9 => h9) rfl dX4_least_61 ?_
        refine lv_iload_n hx hb dX4_least_64 rfl (lv_at hl 3 rfl) ?_
        obtain ⟨t_6, hc_65, hd⟩ := ob_s1 hd
        refine ob_Vv (isC := [8, 9, 10, 11, 12, 13]) (isR := [0, 1, 2, 3, 4, 5, 6, 7]) (is2 := [0, 1, 2, 3, 4, 5, 6, 7, 8, 9, 10, 11, 12, 13]) (wc := (ob_w1 (a_b 3) a_t cI t_5)) (wr := (List.filterMap (fun i => (ob_w4 o_b a_b cI b ++ ob_w1 (a_b 2) a_y cI y ++ ob_w1 (a_b 3) a_t cI t_5)[i]?) [0, 1, 2, 3, 4, 5, 6, 7])) (w1 := (ob_w1 (a_b 3) a_t cI t_6)) (w2 := (ob_w4 o_b a_b cI b ++ ob_w1 (a_b 2) a_y cI y ++ ob_w1 (a_b 3) a_t cI t_6)) (b := (a_b 3)) (As := [.int x3]) (rest := []) ⟨hx, hb, hml, hown, hts⟩ (mt_X1_passHours l dC dI cI cZ cR cW xs _ ((a_b 3)) a_t t_5 x3 t_6 hc_65) (cwV 1 hts gX4_least_X1_passHours rfl rfl rfl (by decide +kernel) ⟨Nat.le_of_ble_eq_true rfl, Nat.le_of_ble_eq_true rfl⟩) hK hE hP hD hS hA ⟨rfl, rfl, rfl, rfl, rfl, rfl, rfl⟩ 1 0 rfl rfl rfl hl rfl rfl (Nat.le_of_ble_eq_true rfl) ⟨Nat.le_of_ble_eq_true rfl, Nat.le_of_ble_eq_true rfl⟩ dX4_least_65 (fun H locs hP hD hS => ?_)
        refine W.widen (k := 0) (n := 0) (Nat.le_refl _) (Nat.le_refl _) ?_
        refine lv_aload_n hx hb dX4_least_68 rfl (lv_at hl 0 rfl) ?_
        refine va_get (D := (dC, dI)) (ci := 4) (v := .ref (a_b 3)) (C := RX4) (T := TX4) (N := 10) hx hb hts hi_X4 hown hK hP 0 rfl rfl 3 (by decide) kw2 (fun _ h9 => h9) rfl dX4_least_69 ?_
        refine va_get (D := (dC, dI)) (ci := 1) (v := .int (t_6.1 0)) (C := RX1) (T := TX1) (N := 12) hx hb hts hi_X1 hown hK hP 8 rfl rfl 0 (by decide) kw4 (fun _ h9 => h9) rfl dX4_least_72 ?_
        refine lv_aload_n hx hb dX4_least_75 rfl (lv_at hl 0 rfl) ?_
        refine va_get (D := (dC, dI)) (ci := 4) (v := .ref (a_b 3)) (C := RX4) (T := TX4) (N := 10) hx hb hts hi_X4 hown hK hP 0 rfl rfl 3 (by decide) kw2 (fun _ h9 => h9) rfl dX4_least_76 ?_
        refine va_get (D := (dC, dI)) (ci := 1) (v := .int (t_6.1 1)) (C := RX1) (T := TX1) (N := 12) hx hb hts hi_X1 hown hK hP 8 rfl rfl 1 (by decide) kw5 (fun _ h9 => h9) rfl dX4_least_79 ?_
        refine lv_icmp_ne (tgt := 88) hx hb dX4_least_82 (by decide) (fun c_82 => ?_) (fun c_82 => ?_)
        · replace hd := ob_f c_82 hd
          obtain ⟨x_7, ex_7⟩ : ∃ z : Int32, z = z4 + 1 := ⟨_, rfl⟩
          replace hd := ob_lx ex_7 hd
          refine lv_iinc (v := x_7) (lv' := [(4, .int x_7), (0, .ref o_b), (1, .int x1), (2, .int x2), (3, .int x3)]) hx hb dX4_least_88 hl (k := 4) rfl (by rw [ex_7]; rfl) (by decide) rfl (fun ls hl => ?_)
          clear ex_7
          refine lv_goto (tgt := 31) hx hb dX4_least_91 (by decide) ?_
          exact ih _ _ t_6 x_7 _ hP hD hS (lv_sub hl [1, 2, 3, 4, 0] rfl) hd
        · replace hd := ob_t c_82 hd
          refine lv_iload hx hb dX4_least_85 (lv_at hl 4 rfl) ?_
          obtain ⟨e1, e2⟩ := ob_pp hd
          subst e1
          subst e2
          exact ob_iret hx hb hr hlocks hP hD hS dX4_least_87
  refine lv_aload_n hx hb dX4_least_0 rfl (lv_at hl 0 rfl) ?_
  refine lv_iload_n hx hb dX4_least_1 rfl (lv_at hl 1 rfl) ?_
  obtain ⟨r_1, hc_2, hd⟩ := ob_s1 hd
  refine ob_Vi (isC := [0, 1, 2, 3, 4, 5, 6, 7]) (isR := [8, 9, 10, 11, 12, 13]) (is2 := [6, 7, 8, 9, 10, 11, 12, 13, 0, 1, 2, 3, 4, 5]) (wc := (ob_w4 o_b a_b cI b ++ ob_w1 (a_b 2) a_y cI y)) (wr := (List.filterMap (fun i => (ob_w4 o_b a_b cI b ++ ob_w1 (a_b 2) a_y cI y ++ ob_w1 (a_b 3) a_t cI t)[i]?) [8, 9, 10, 11, 12, 13])) (w1 := (ob_w4 o_b a_b cI b ++ ob_w1 (a_b 2) a_y cI y)) (w2 := (ob_w4 o_b a_b cI b ++ ob_w1 (a_b 2) a_y cI y ++ ob_w1 (a_b 3) a_t cI t)) (b := o_b) (As := [.int x1]) (rest := []) ⟨hx, hb, hml, hown, hts⟩ (mt_X4_isOath l dC dI cI cZ cR cW xs _ o_b a_b a_y b y x1 r_1 hc_2) (cwV 1 hts gX4_least_X4_isOath rfl rfl rfl (by decide +kernel) ⟨Nat.le_of_ble_eq_true rfl, Nat.le_of_ble_eq_true rfl⟩) hK hE hP hD hS hA ⟨rfl, rfl, rfl, rfl, rfl, rfl, rfl⟩ 4 0 rfl rfl rfl hl rfl rfl (Nat.le_of_ble_eq_true rfl) ⟨Nat.le_of_ble_eq_true rfl, Nat.le_of_ble_eq_true rfl⟩ dX4_least_2 (fun H locs hP hD hS => ?_)
  refine W.widen (k := 0) (n := 0) (Nat.le_refl _) (Nat.le_refl _) ?_
  refine lv_if_eq (tgt := 25) hx hb dX4_least_5 (by decide) (fun c_5 => ?_) (fun c_5 => ?_)
  · replace hd := ob_t c_5 hd
    refine lv_ldc hx hb hown kw0 dX4_least_25 ?_
    obtain ⟨e1, e2⟩ := ob_pp hd
    subst e1
    subst e2
    exact ob_iret hx hb hr hlocks hP hD hS dX4_least_27
  · replace hd := ob_f c_5 hd
    refine lv_iload_n hx hb dX4_least_8 rfl (lv_at hl 2 rfl) ?_
    obtain ⟨r_2, hc_9, hd⟩ := ob_s1 hd
    refine ob_Si (isC := []) (isR := [0, 1, 2, 3, 4, 5, 6, 7, 8, 9, 10, 11, 12, 13]) (is2 := [0, 1, 2, 3, 4, 5, 6, 7, 8, 9, 10, 11, 12, 13]) (wc := ([] : va_W)) (wr := (List.filterMap (fun i => (ob_w4 o_b a_b cI b ++ ob_w1 (a_b 2) a_y cI y ++ ob_w1 (a_b 3) a_t cI t)[i]?) [0, 1, 2, 3, 4, 5, 6, 7, 8, 9, 10, 11, 12, 13])) (w1 := ([] : va_W)) (w2 := (ob_w4 o_b a_b cI b ++ ob_w1 (a_b 2) a_y cI y ++ ob_w1 (a_b 3) a_t cI t)) (As := [.int x2]) (rest := []) ⟨hx, hb, hml, hown, hts⟩ (mt_X4_isPlace l dC dI cI cZ cR cW xs _ x2 r_2 hc_9) (va_cwS 1 hts gX4_least_X4_isPlace rfl rfl rfl (by decide +kernel) ⟨Nat.le_of_ble_eq_true rfl, Nat.le_of_ble_eq_true rfl⟩) hK hE hP hD hS hA ⟨rfl, rfl, rfl, rfl, rfl, rfl, rfl⟩ hl rfl rfl (Nat.le_of_ble_eq_true rfl) ⟨Nat.le_of_ble_eq_true rfl, Nat.le_of_ble_eq_true rfl⟩ dX4_least_9 (fun H locs hP hD hS => ?_)
    refine W.widen (k := 0) (n := 0) (Nat.le_refl _) (Nat.le_refl _) ?_
    refine lv_if_eq (tgt := 25) hx hb dX4_least_12 (by decide) (fun c_12 => ?_) (fun c_12 => ?_)
    · replace hd := ob_t c_12 hd
      refine lv_ldc hx hb hown kw0 dX4_least_25 ?_
      obtain ⟨e1, e2⟩ := ob_pp hd
      subst e1
      subst e2
      exact ob_iret hx hb hr hlocks hP hD hS dX4_least_27
    · replace hd := ob_f c_12 hd
      refine lv_iload_n hx hb dX4_least_15 rfl (lv_at hl 3 rfl) ?_
      refine lv_iconst (v := 1) hx hb dX4_least_16 (by decide) ?_
      refine lv_bipush (v := 24) hx hb dX4_least_17 (by decide) ?_
      obtain ⟨r_3, hc_19, hd⟩ := ob_s1 hd
      refine ob_Si (isC := []) (isR := [0, 1, 2, 3, 4, 5, 6, 7, 8, 9, 10, 11, 12, 13]) (is2 := [0, 1, 2, 3, 4, 5, 6, 7, 8, 9, 10, 11, 12, 13]) (wc := ([] : va_W)) (wr := (List.filterMap (fun i => (ob_w4 o_b a_b cI b ++ ob_w1 (a_b 2) a_y cI y ++ ob_w1 (a_b 3) a_t cI t)[i]?) [0, 1, 2, 3, 4, 5, 6, 7, 8, 9, 10, 11, 12, 13])) (w1 := ([] : va_W)) (w2 := (ob_w4 o_b a_b cI b ++ ob_w1 (a_b 2) a_y cI y ++ ob_w1 (a_b 3) a_t cI t)) (As := [.int x3, .int 1, .int 24]) (rest := []) ⟨hx, hb, hml, hown, hts⟩ (mt_X4_isWithin l dC dI cI cZ cR cW xs _ x3 1 24 r_3 hc_19) (va_cwS 3 hts gX4_least_X4_isWithin rfl rfl rfl (by decide +kernel) ⟨Nat.le_of_ble_eq_true rfl, Nat.le_of_ble_eq_true rfl⟩) hK hE hP hD hS hA ⟨rfl, rfl, rfl, rfl, rfl, rfl, rfl⟩ hl rfl rfl (Nat.le_of_ble_eq_true rfl) ⟨Nat.le_of_ble_eq_true rfl, Nat.le_of_ble_eq_true rfl⟩ dX4_least_19 (fun H locs hP hD hS => ?_)
      refine W.widen (k := 0) (n := 0) (Nat.le_refl _) (Nat.le_refl _) ?_
      refine lv_if_ne (tgt := 28) hx hb dX4_least_22 (by decide) (fun c_22 => ?_) (fun c_22 => ?_)
      · replace hd := ob_f c_22 hd
        refine lv_iconst (v := 1) hx hb dX4_least_28 (by decide) ?_
        refine lv_istore (lv' := [(4, .int 1), (0, .ref o_b), (1, .int x1), (2, .int x2), (3, .int x3)]) hx hb dX4_least_29 hl (by decide) rfl (fun ls hl => ?_)
        exact L31  2000 _ _ t 1 _ hP hD hS (lv_sub hl [1, 2, 3, 4, 0] rfl) hd
      · replace hd := ob_t c_22 hd
        refine lv_ldc hx hb hown kw0 dX4_least_25 ?_
        obtain ⟨e1, e2⟩ := ob_pp hd
        subst e1
        subst e2
        exact ob_iret hx hb hr hlocks hP hD hS dX4_least_27

def fd_X4_placeIfBought_L48  (b : ob_B) (y : ob_B) (t : ob_B) (x2 : Int32) : Option (Int32 × ob_B) := ob_b1 (fd_X1_passHours t x2) (fun t_5 => some (t_5.1 0, t_5))
def fd_X4_placeIfBought_L13  : Nat → ob_B → ob_B → ob_B → Int32 → Int32 → Int32 → Option (Int32 × ob_B)
  | 0, _, _, _, _, _, _ => none
  | fu + 1, b, y, t, x1, x2, z3 => if (t.1 4) ≤ z3 then (fd_X4_placeIfBought_L48 b y t x2) else (if ((x1 >>> (z3 &&& 31)) &&& 1) = 0 then (ob_lt (z3 + 1 : Int32) (fun x_2 => fd_X4_placeIfBought_L13 fu b y t x1 x2 x_2)) else (if z3 < 0 ∨ 7 ≤ Int32.toNatClampNeg z3 then none else (ob_lt (ob_A t 11 (upd (t.2 11) (Int32.toNatClampNeg z3) 3) : ob_B) (fun t_3 => ob_lt (z3 + 1 : Int32) (fun x_4 => fd_X4_placeIfBought_L13 fu b y t_3 x1 x2 x_4)))))
def fd_X4_placeIfBought  (b : ob_B) (y : ob_B) (t : ob_B) (x1 : Int32) (x2 : Int32) : Option (Int32 × ob_B) := ob_b1 (fd_X1_become t y) (fun t_1 => fd_X4_placeIfBought_L13 2000 b y t_1 x1 x2 0)
set_option maxHeartbeats 4000000 in
set_option maxRecDepth 100000 in
theorem mt_X4_placeIfBought (l : Launch) (dC : Nat → ClassId) (dI : Nat → Nat → Nat) (cI cZ cR cW : ClassId) (xs : Nat → Nat) (sz : Nat) (o_b : Nat) (a_b : Nat → Nat) (a_y : Nat → Nat) (a_t : Nat → Nat) (b : ob_B) (y : ob_B) (t : ob_B) (x1 : Int32) (x2 : Int32)  (rr : Int32) (t' : ob_B) (hd : fd_X4_placeIfBought b y t x1 x2 = some (rr, t')) : ob_M l yX4_placeIfBought wsX4_placeIfBought ({ frames := 5, cells := 0, slots := 0, locals := 112 } : Room) (dC, dI) (ob_ty cI cZ cR cW) xs [.ref o_b, .int x1, .int x2] (ob_w4 o_b a_b cI b ++ ob_w1 (a_b 2) a_y cI y ++ ob_w1 (a_b 3) a_t cI t) sz (ob_Qi (dC, dI) rr (ob_w4 o_b a_b cI b ++ ob_w1 (a_b 2) a_y cI y ++ ob_w1 (a_b 3) a_t cI t')) := by
  rw [fd_X4_placeIfBought] at hd
  refine ob_in (cc := cX4_placeIfBought) (maxL := 4) (ret := (some .int)) (own := RX4) (by decide) rfl rfl [(0, .ref o_b), (1, .int x1), (2, .int x2)] rfl (Nat.le_of_ble_eq_true rfl) ?_
  intro p e s m below meth c hx hb hr hml hown hts hlocks hnm hK A hA hE hP hD hS ls hl
  have kw0 := hts (.fieldLink RX4 29 "OathCoach" "trial" "LOathCoach$Route;") (by decide +kernel)
  have kw1 := hts (.fieldLink RX4 25 "OathCoach" "route" "LOathCoach$Route;") (by decide +kernel)
  have kw2 := hts (.fieldLink RX4 130 "OathCoach$Route" "oaths" "I") (by decide +kernel)
  have kw3 := hts (.fieldLink RX4 166 "OathCoach$Route" "came" "[I") (by decide +kernel)
  have kw4 := hts (.fieldLink RX4 152 "OathCoach$Route" "at" "I") (by decide +kernel)
  have hi_X1 : ∀ w ∈ u_ws RX1 TX1 12, w ∈ wsX4_placeIfBought := by decide +kernel
  have hi_X4 : ∀ w ∈ u_ws RX4 TX4 10, w ∈ wsX4_placeIfBought := by decide +kernel
  have L48 : ∀ (H : Heap) (locs : List Loc) (t : ob_B)  (ls : Array Slot), va_P (dC, dI) vwCl (ob_w4 o_b a_b cI b ++ ob_w1 (a_b 2) a_y cI y ++ ob_w1 (a_b 3) a_t cI t) H → va_D A (ob_w4 o_b a_b cI b ++ ob_w1 (a_b 2) a_y cI y ++ ob_w1 (a_b 3) a_t cI t) → va_S A s.heap H locs → lv_has ls 4 [(0, .ref o_b), (2, .int x2)] → fd_X4_placeIfBought_L48 b y t x2 = some (rr, t') → W p l e ({ frames := 5, cells := 0, slots := 0, locals := 112 } : Room) s m (List.toArray [.ref o_b, .int x1, .int x2]) below meth c H locs 0 0 (MQ below ((ob_Qi (dC, dI) rr (ob_w4 o_b a_b cI b ++ ob_w1 (a_b 2) a_y cI y ++ ob_w1 (a_b 3) a_t cI t')) A) (List.toArray [.ref o_b, .int x1, .int x2]) s 0 0 A) (F0 m 48 ls []) := by
    intro  H locs t ls hP hD hS hl hd
    rw [fd_X4_placeIfBought_L48] at hd
    refine lv_aload_n hx hb dX4_placeIfBought_48 rfl (lv_at hl 0 rfl) ?_
    refine va_get (D := (dC, dI)) (ci := 4) (v := .ref (a_b 3)) (C := RX4) (T := TX4) (N := 10) hx hb hts hi_X4 hown hK hP 0 rfl rfl 3 (by decide) kw0 (fun _ h9 => h9) rfl dX4_placeIfBought_49 ?_
    refine lv_iload_n hx hb dX4_placeIfBought_52 rfl (lv_at hl 1 rfl) ?_
    obtain ⟨t_5, hc_53, hd⟩ := ob_s1 hd
    refine ob_Vv (isC := [8, 9, 10, 11, 12, 13]) (isR := [0, 1, 2, 3, 4, 5, 6, 7]) (is2 := [0, 1, 2, 3, 4, 5, 6, 7, 8, 9, 10, 11, 12, 13]) (wc := (ob_w1 (a_b 3) a_t cI t)) (wr := (List.filterMap (fun i => (ob_w4 o_b a_b cI b ++ ob_w1 (a_b 2) a_y cI y ++ ob_w1 (a_b 3) a_t cI t)[i]?) [0, 1, 2, 3, 4, 5, 6, 7])) (w1 := (ob_w1 (a_b 3) a_t cI t_5)) (w2 := (ob_w4 o_b a_b cI b ++ ob_w1 (a_b 2) a_y cI y ++ ob_w1 (a_b 3) a_t cI t_5)) (b := (a_b 3)) (As := [.int x2]) (rest := []) ⟨hx, hb, hml, hown, hts⟩ (mt_X1_passHours l dC dI cI cZ cR cW xs _ ((a_b 3)) a_t t x2 t_5 hc_53) (cwV 1 hts gX4_placeIfBought_X1_passHours rfl rfl rfl (by decide +kernel) ⟨Nat.le_of_ble_eq_true rfl, Nat.le_of_ble_eq_true rfl⟩) hK hE hP hD hS hA ⟨rfl, rfl, rfl, rfl, rfl, rfl, rfl⟩ 1 0 rfl rfl rfl hl rfl rfl (Nat.le_of_ble_eq_true rfl) ⟨Nat.le_of_ble_eq_true rfl, Nat.le_of_ble_eq_true rfl⟩ dX4_placeIfBought_53 (fun H locs hP hD hS => ?_)
    refine W.widen (k := 0) (n := 0) (Nat.le_refl _) (Nat.le_refl _) ?_
    refine lv_aload_n hx hb dX4_placeIfBought_56 rfl (lv_at hl 0 rfl) ?_
    refine va_get (D := (dC, dI)) (ci := 4) (v := .ref (a_b 3)) (C := RX4) (T := TX4) (N := 10) hx hb hts hi_X4 hown hK hP 0 rfl rfl 3 (by decide) kw0 (fun _ h9 => h9) rfl dX4_placeIfBought_57 ?_
    refine va_get (D := (dC, dI)) (ci := 1) (v := .int (t_5.1 0)) (C := RX1) (T := TX1) (N := 12) hx hb hts hi_X1 hown hK hP 8 rfl rfl 0 (by decide) kw4 (fun _ h9 => h9) rfl dX4_placeIfBought_60 ?_
    obtain ⟨e1, e2⟩ := ob_pp hd
    subst e1
    subst e2
    exact ob_iret hx hb hr hlocks hP hD hS dX4_placeIfBought_63
  have L13 : ∀  (fu : Nat), ∀ (H : Heap) (locs : List Loc) (t : ob_B) (z3 : Int32) (ls : Array Slot), va_P (dC, dI) vwCl (ob_w4 o_b a_b cI b ++ ob_w1 (a_b 2) a_y cI y ++ ob_w1 (a_b 3) a_t cI t) H → va_D A (ob_w4 o_b a_b cI b ++ ob_w1 (a_b 2) a_y cI y ++ ob_w1 (a_b 3) a_t cI t) → va_S A s.heap H locs → lv_has ls 4 [(0, .ref o_b), (1, .int x1), (2, .int x2), (3, .int z3)] → fd_X4_placeIfBought_L13 fu b y t x1 x2 z3 = some (rr, t') → W p l e ({ frames := 5, cells := 0, slots := 0, locals := 112 } : Room) s m (List.toArray [.ref o_b, .int x1, .int x2]) below meth c H locs 0 0 (MQ below ((ob_Qi (dC, dI) rr (ob_w4 o_b a_b cI b ++ ob_w1 (a_b 2) a_y cI y ++ ob_w1 (a_b 3) a_t cI t')) A) (List.toArray [.ref o_b, .int x1, .int x2]) s 0 0 A) (F0 m 13 ls []) := by
    intro  fu
    induction fu with
    | zero =>
      intro H locs t z3 ls hP hD hS hl hd
      rw [fd_X4_placeIfBought_L13] at hd
      cases hd
    | succ fu ih =>
      intro H locs t z3 ls hP hD hS hl hd
      rw [fd_X4_placeIfBought_L13] at hd
      refine lv_iload_n hx hb dX4_placeIfBought_13 rfl (lv_at hl 3 rfl) ?_
      refine lv_aload_n hx hb dX4_placeIfBought_14 rfl (lv_at hl 0 rfl) ?_
      refine va_get (D := (dC, dI)) (ci := 4) (v := .ref (a_b 3)) (C := RX4) (T := TX4) (N := 10) hx hb hts hi_X4 hown hK hP 0 rfl rfl 3 (by decide) kw0 (fun _ h9 => h9) rfl dX4_placeIfBought_15 ?_
      refine va_get (D := (dC, dI)) (ci := 1) (v := .int (t.1 4)) (C := RX1) (T := TX1) (N := 12) hx hb hts hi_X1 hown hK hP 8 rfl rfl 4 (by decide) kw2 (fun _ h9 => h9) rfl dX4_placeIfBought_18 ?_
      refine lv_icmp_ge (tgt := 48) hx hb dX4_placeIfBought_21 (by decide) (fun c_21 => ?_) (fun c_21 => ?_)
      · replace hd := ob_t c_21 hd
        exact L48   _ _ t _ hP hD hS (lv_sub hl [0, 2] rfl) hd
      · replace hd := ob_f c_21 hd
        refine lv_iload_n hx hb dX4_placeIfBought_24 rfl (lv_at hl 1 rfl) ?_
        refine lv_iload_n hx hb dX4_placeIfBought_25 rfl (lv_at hl 3 rfl) ?_
        refine lv_ishr hx hb dX4_placeIfBought_26 ?_
        refine lv_iconst (v := 1) hx hb dX4_placeIfBought_27 (by decide) ?_
        refine lv_iand hx hb dX4_placeIfBought_28 ?_
        refine lv_if_eq (tgt := 42) hx hb dX4_placeIfBought_29 (by decide) (fun c_29 => ?_) (fun c_29 => ?_)
        · replace hd := ob_t c_29 hd
          obtain ⟨x_2, ex_2⟩ : ∃ z : Int32, z = z3 + 1 := ⟨_, rfl⟩
          replace hd := ob_lx ex_2 hd
          refine lv_iinc (v := x_2) (lv' := [(3, .int x_2), (0, .ref o_b), (1, .int x1), (2, .int x2)]) hx hb dX4_placeIfBought_42 hl (k := 3) rfl (by rw [ex_2]; rfl) (by decide) rfl (fun ls hl => ?_)
          clear ex_2
          refine lv_goto (tgt := 13) hx hb dX4_placeIfBought_45 (by decide) ?_
          exact ih _ _ t x_2 _ hP hD hS (lv_sub hl [1, 2, 3, 0] rfl) hd
        · replace hd := ob_f c_29 hd
          refine lv_aload_n hx hb dX4_placeIfBought_32 rfl (lv_at hl 0 rfl) ?_
          refine va_get (D := (dC, dI)) (ci := 4) (v := .ref (a_b 3)) (C := RX4) (T := TX4) (N := 10) hx hb hts hi_X4 hown hK hP 0 rfl rfl 3 (by decide) kw0 (fun _ h9 => h9) rfl dX4_placeIfBought_33 ?_
          refine va_get (D := (dC, dI)) (ci := 1) (v := .ref (a_t 11)) (C := RX1) (T := TX1) (N := 12) hx hb hts hi_X1 hown hK hP 8 rfl rfl 11 (by decide) kw3 (fun _ h9 => h9) rfl dX4_placeIfBought_36 ?_
          refine lv_iload_n hx hb dX4_placeIfBought_39 rfl (lv_at hl 3 rfl) ?_
          refine lv_iconst (v := 3) hx hb dX4_placeIfBought_40 (by decide) ?_
          obtain ⟨h1_41, hd⟩ := ob_nn hd
          refine va_iast hx hb hK hP hD hS 13 0 rfl rfl h1_41 dX4_placeIfBought_41 (fun H locs hP hD hS => ?_)
          obtain ⟨t_3, et_3⟩ : ∃ z : ob_B, z = ob_A t 11 (upd (t.2 11) (Int32.toNatClampNeg z3) 3) := ⟨_, rfl⟩
          replace hd := ob_lx et_3 hd
          replace hP : va_P (dC, dI) vwCl (ob_w4 o_b a_b cI b ++ ob_w1 (a_b 2) a_y cI y ++ ob_w1 (a_b 3) a_t cI t_3) H := by rw [et_3]; exact hP
          replace hD : va_D A (ob_w4 o_b a_b cI b ++ ob_w1 (a_b 2) a_y cI y ++ ob_w1 (a_b 3) a_t cI t_3) := by rw [et_3]; exact hD
          clear et_3
          obtain ⟨x_4, ex_4⟩ : ∃ z : Int32, z = z3 + 1 := ⟨_, rfl⟩
          replace hd := ob_lx ex_4 hd
          refine lv_iinc (v := x_4) (lv' := [(3, .int x_4), (0, .ref o_b), (1, .int x1), (2, .int x2)]) hx hb dX4_placeIfBought_42 hl (k := 3) rfl (by rw [ex_4]; rfl) (by decide) rfl (fun ls hl => ?_)
          clear ex_4
          refine lv_goto (tgt := 13) hx hb dX4_placeIfBought_45 (by decide) ?_
          exact ih _ _ t_3 x_4 _ hP hD hS (lv_sub hl [1, 2, 3, 0] rfl) hd
  refine lv_aload_n hx hb dX4_placeIfBought_0 rfl (lv_at hl 0 rfl) ?_
  refine va_get (D := (dC, dI)) (ci := 4) (v := .ref (a_b 3)) (C := RX4) (T := TX4) (N := 10) hx hb hts hi_X4 hown hK hP 0 rfl rfl 3 (by decide) kw0 (fun _ h9 => h9) rfl dX4_placeIfBought_1 ?_
  refine lv_aload_n hx hb dX4_placeIfBought_4 rfl (lv_at hl 0 rfl) ?_
  refine va_get (D := (dC, dI)) (ci := 4) (v := .ref (a_b 2)) (C := RX4) (T := TX4) (N := 10) hx hb hts hi_X4 hown hK hP 0 rfl rfl 2 (by decide) kw1 (fun _ h9 => h9) rfl dX4_placeIfBought_5 ?_
  obtain ⟨t_1, hc_8, hd⟩ := ob_s1 hd
  refine ob_Vv (isC := [8, 9, 10, 11, 12, 13, 2, 3, 4, 5, 6, 7]) (isR := [0, 1]) (is2 := [0, 1, 8, 9, 10, 11, 12, 13, 2, 3, 4, 5, 6, 7]) (wc := (ob_w1 (a_b 3) a_t cI t ++ ob_w1 (a_b 2) a_y cI y)) (wr := (List.filterMap (fun i => (ob_w4 o_b a_b cI b ++ ob_w1 (a_b 2) a_y cI y ++ ob_w1 (a_b 3) a_t cI t)[i]?) [0, 1])) (w1 := (ob_w1 (a_b 3) a_t cI t_1 ++ ob_w1 (a_b 2) a_y cI y)) (w2 := (ob_w4 o_b a_b cI b ++ ob_w1 (a_b 2) a_y cI y ++ ob_w1 (a_b 3) a_t cI t_1)) (b := (a_b 3)) (As := [.ref (a_b 2)]) (rest := []) ⟨hx, hb, hml, hown, hts⟩ (mt_X1_become l dC dI cI cZ cR cW xs _ ((a_b 3)) a_t ((a_b 2)) a_y t y t_1 hc_8) (cwV 1 hts gX4_placeIfBought_X1_become rfl rfl rfl (by decide +kernel) ⟨Nat.le_of_ble_eq_true rfl, Nat.le_of_ble_eq_true rfl⟩) hK hE hP hD hS hA ⟨rfl, rfl, rfl, rfl, rfl, rfl, rfl⟩ 1 0 rfl rfl rfl hl rfl rfl (Nat.le_of_ble_eq_true rfl) ⟨Nat.le_of_ble_eq_true rfl, Nat.le_of_ble_eq_true rfl⟩ dX4_placeIfBought_8 (fun H locs hP hD hS => ?_)
  refine W.widen (k := 0) (n := 0) (Nat.le_refl _) (Nat.le_refl _) ?_
  refine lv_iconst (v := 0) hx hb dX4_placeIfBought_11 (by decide) ?_
  refine lv_istore_n (lv' := [(3, .int 0), (0, .ref o_b), (1, .int x1), (2, .int x2)]) hx hb dX4_placeIfBought_12 rfl hl (by decide) rfl (fun ls hl => ?_)
  exact L13  2000 _ _ t_1 0 _ hP hD hS (lv_sub hl [1, 2, 3, 0] rfl) hd
