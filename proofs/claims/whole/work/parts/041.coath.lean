def fd_X4_oath  (b : ob_B) (y : ob_B) (x1 : Int32) (x2 : Int32) : Option (Int32) := ob_b1 (fd_X4_isOath b y x1) (fun r_1 => if r_1 = 0 then (some ((-1000001))) else (if x2 = 0 then (if x1 < 0 ∨ 7 ≤ Int32.toNatClampNeg x1 then none else (some ((y.2 8) (Int32.toNatClampNeg x1)))) else (if x2 = 1 then (if x1 < 0 ∨ 7 ≤ Int32.toNatClampNeg x1 then none else (some ((y.2 9) (Int32.toNatClampNeg x1)))) else (if x2 = 2 then (if x1 < 0 ∨ 7 ≤ Int32.toNatClampNeg x1 then none else (some ((y.2 10) (Int32.toNatClampNeg x1)))) else (if x2 = 3 then (if x1 < 0 ∨ 7 ≤ Int32.toNatClampNeg x1 then none else (some ((y.2 11) (Int32.toNatClampNeg x1)))) else (if x2 = 4 then (ob_b1 (fd_X1_pullOf y x1) (fun r_2 => some (r_2))) else (some ((-1000001)))))))))
set_option maxHeartbeats 4000000 in
set_option maxRecDepth 100000 in
theorem mt_X4_oath (l : Launch) (dC : Nat → ClassId) (dI : Nat → Nat → Nat) (cI cZ cR cW : ClassId) (xs : Nat → Nat) (sz : Nat) (o_b : Nat) (a_b : Nat → Nat) (a_y : Nat → Nat) (b : ob_B) (y : ob_B) (x1 : Int32) (x2 : Int32)  (rr : Int32) (hd : fd_X4_oath b y x1 x2 = some (rr)) : ob_M l yX4_oath wsX4_oath ({ frames := 1, cells := 0, slots := 0, locals := 22 } : Room) (dC, dI) (ob_ty cI cZ cR cW) xs [.ref o_b, .int x1, .int x2] (ob_w4 o_b a_b cI b ++ ob_w1 (a_b 2) a_y cI y) sz (ob_Qi (dC, dI) rr (ob_w4 o_b a_b cI b ++ ob_w1 (a_b 2) a_y cI y)) := by
  rw [fd_X4_oath] at hd
  refine ob_in (cc := cX4_oath) (maxL := 3) (ret := (some .int)) (own := RX4) (by decide) rfl rfl [(0, .ref o_b), (1, .int x1), (2, .int x2)] rfl (Nat.le_of_ble_eq_true rfl) ?_
  intro p e s m below meth c hx hb hr hml hown hts hlocks hnm hK A hA hE hP hD hS ls hl
  have kw0 := hts (.fieldLink RX4 25 "OathCoach" "route" "LOathCoach$Route;") (by decide +kernel)
  have kw1 := hts (.fieldLink RX4 183 "OathCoach$Route" "place" "[I") (by decide +kernel)
  have kw2 := hts (.fieldLink RX4 186 "OathCoach$Route" "weight" "[I") (by decide +kernel)
  have kw3 := hts (.fieldLink RX4 189 "OathCoach$Route" "due" "[I") (by decide +kernel)
  have kw4 := hts (.fieldLink RX4 166 "OathCoach$Route" "came" "[I") (by decide +kernel)
  have kw5 := hts (.constant RX4 62 (-1000001)) (by decide +kernel)
  have hi_X1 : ∀ w ∈ u_ws RX1 TX1 12, w ∈ wsX4_oath := by decide +kernel
  have hi_X4 : ∀ w ∈ u_ws RX4 TX4 10, w ∈ wsX4_oath := by decide +kernel
  refine lv_aload_n hx hb dX4_oath_0 rfl (lv_at hl 0 rfl) ?_
  refine lv_iload_n hx hb dX4_oath_1 rfl (lv_at hl 1 rfl) ?_
  obtain ⟨r_1, hc_2, hd⟩ := ob_s1 hd
  refine ob_Vi (isC := [0, 1, 2, 3, 4, 5, 6, 7]) (isR := []) (is2 := [0, 1, 2, 3, 4, 5, 6, 7]) (wc := (ob_w4 o_b a_b cI b ++ ob_w1 (a_b 2) a_y cI y)) (wr := ([] : va_W)) (w1 := (ob_w4 o_b a_b cI b ++ ob_w1 (a_b 2) a_y cI y)) (w2 := (ob_w4 o_b a_b cI b ++ ob_w1 (a_b 2) a_y cI y)) (b := o_b) (As := [.int x1]) (rest := []) ⟨hx, hb, hml, hown, hts⟩ (mt_X4_isOath l dC dI cI cZ cR cW xs _ o_b a_b a_y b y x1 r_1 hc_2) (cwV 1 hts gX4_oath_X4_isOath rfl rfl rfl (by decide +kernel) ⟨Nat.le_of_ble_eq_true rfl, Nat.le_of_ble_eq_true rfl⟩) hK hE hP hD hS hA ⟨rfl, rfl, rfl, rfl, rfl, rfl, rfl⟩ 4 0 rfl rfl rfl hl rfl rfl (Nat.le_of_ble_eq_true rfl) ⟨Nat.le_of_ble_eq_true rfl, Nat.le_of_ble_eq_true rfl⟩ dX4_oath_2 (fun H locs hP hD hS => ?_)
  refine W.widen (k := 0) (n := 0) (Nat.le_refl _) (Nat.le_refl _) ?_
  refine lv_if_ne (tgt := 11) hx hb dX4_oath_5 (by decide) (fun c_5 => ?_) (fun c_5 => ?_)
  · replace hd := ob_f c_5 hd
    refine lv_iload_n hx hb dX4_oath_11 rfl (lv_at hl 2 rfl) ?_
    by_cases c0_12 : x2 = 0
    · replace hd := ob_t c0_12 hd
      refine lv_tableIn (off := 36) (tgt := 48) hx hb dX4_oath_12 (by rw [c0_12]; decide) (by rw [c0_12]; decide) (by rw [c0_12]; decide) (by decide) ?_
      refine lv_aload_n hx hb dX4_oath_48 rfl (lv_at hl 0 rfl) ?_
      refine va_get (D := (dC, dI)) (ci := 4) (v := .ref (a_b 2)) (C := RX4) (T := TX4) (N := 10) hx hb hts hi_X4 hown hK hP 0 rfl rfl 2 (by decide) kw0 (fun _ h9 => h9) rfl dX4_oath_49 ?_
      refine va_get (D := (dC, dI)) (ci := 1) (v := .ref (a_y 8)) (C := RX1) (T := TX1) (N := 12) hx hb hts hi_X1 hown hK hP 2 rfl rfl 8 (by decide) kw1 (fun _ h9 => h9) rfl dX4_oath_52 ?_
      refine lv_iload_n hx hb dX4_oath_55 rfl (lv_at hl 1 rfl) ?_
      obtain ⟨h1_56, hd⟩ := ob_nn hd
      refine va_iald hx hb hK hP 4 0 rfl rfl h1_56 dX4_oath_56 ?_
      have e1 := Option.some.inj hd
      subst e1
      exact ob_iret hx hb hr hlocks hP hD hS dX4_oath_57
    replace hd := ob_f c0_12 hd
    by_cases c1_12 : x2 = 1
    · replace hd := ob_t c1_12 hd
      refine lv_tableIn (off := 46) (tgt := 58) hx hb dX4_oath_12 (by rw [c1_12]; decide) (by rw [c1_12]; decide) (by rw [c1_12]; decide) (by decide) ?_
      refine lv_aload_n hx hb dX4_oath_58 rfl (lv_at hl 0 rfl) ?_
      refine va_get (D := (dC, dI)) (ci := 4) (v := .ref (a_b 2)) (C := RX4) (T := TX4) (N := 10) hx hb hts hi_X4 hown hK hP 0 rfl rfl 2 (by decide) kw0 (fun _ h9 => h9) rfl dX4_oath_59 ?_
      refine va_get (D := (dC, dI)) (ci := 1) (v := .ref (a_y 9)) (C := RX1) (T := TX1) (N := 12) hx hb hts hi_X1 hown hK hP 2 rfl rfl 9 (by decide) kw2 (fun _ h9 => h9) rfl dX4_oath_62 ?_
      refine lv_iload_n hx hb dX4_oath_65 rfl (lv_at hl 1 rfl) ?_
      obtain ⟨h1_66, hd⟩ := ob_nn hd
      refine va_iald hx hb hK hP 5 0 rfl rfl h1_66 dX4_oath_66 ?_
      have e1 := Option.some.inj hd
      subst e1
      exact ob_iret hx hb hr hlocks hP hD hS dX4_oath_67
    replace hd := ob_f c1_12 hd
    by_cases c2_12 : x2 = 2
    · replace hd := ob_t c2_12 hd
      refine lv_tableIn (off := 56) (tgt := 68) hx hb dX4_oath_12 (by rw [c2_12]; decide) (by rw [c2_12]; decide) (by rw [c2_12]; decide) (by decide) ?_
      refine lv_aload_n hx hb dX4_oath_68 rfl (lv_at hl 0 rfl) ?_
      refine va_get (D := (dC, dI)) (ci := 4) (v := .ref (a_b 2)) (C := RX4) (T := TX4) (N := 10) hx hb hts hi_X4 hown hK hP 0 rfl rfl 2 (by decide) kw0 (fun _ h9 => h9) rfl dX4_oath_69 ?_
      refine va_get (D := (dC, dI)) (ci := 1) (v := .ref (a_y 10)) (C := RX1) (T := TX1) (N := 12) hx hb hts hi_X1 hown hK hP 2 rfl rfl 10 (by decide) kw3 (fun _ h9 => h9) rfl dX4_oath_72 ?_
      refine lv_iload_n hx hb dX4_oath_75 rfl (lv_at hl 1 rfl) ?_
      obtain ⟨h1_76, hd⟩ := ob_nn hd
      refine va_iald hx hb hK hP 6 0 rfl rfl h1_76 dX4_oath_76 ?_
      have e1 := Option.some.inj hd
      subst e1
      exact ob_iret hx hb hr hlocks hP hD hS dX4_oath_77
    replace hd := ob_f c2_12 hd
    by_cases c3_12 : x2 = 3
    · replace hd := ob_t c3_12 hd
      refine lv_tableIn (off := 66) (tgt := 78) hx hb dX4_oath_12 (by rw [c3_12]; decide) (by rw [c3_12]; decide) (by rw [c3_12]; decide) (by decide) ?_
      refine lv_aload_n hx hb dX4_oath_78 rfl (lv_at hl 0 rfl) ?_
      refine va_get (D := (dC, dI)) (ci := 4) (v := .ref (a_b 2)) (C := RX4) (T := TX4) (N := 10) hx hb hts hi_X4 hown hK hP 0 rfl rfl 2 (by decide) kw0 (fun _ h9 => h9) rfl dX4_oath_79 ?_
      refine va_get (D := (dC, dI)) (ci := 1) (v := .ref (a_y 11)) (C := RX1) (T := TX1) (N := 12) hx hb hts hi_X1 hown hK hP 2 rfl rfl 11 (by decide) kw4 (fun _ h9 => h9) rfl dX4_oath_82 ?_
      refine lv_iload_n hx hb dX4_oath_85 rfl (lv_at hl 1 rfl) ?_
      obtain ⟨h1_86, hd⟩ := ob_nn hd
      refine va_iald hx hb hK hP 7 0 rfl rfl h1_86 dX4_oath_86 ?_
      have e1 := Option.some.inj hd
      subst e1
      exact ob_iret hx hb hr hlocks hP hD hS dX4_oath_87
    replace hd := ob_f c3_12 hd
    by_cases c4_12 : x2 = 4
    · replace hd := ob_t c4_12 hd
      refine lv_tableIn (off := 76) (tgt := 88) hx hb dX4_oath_12 (by rw [c4_12]; decide) (by rw [c4_12]; decide) (by rw [c4_12]; decide) (by decide) ?_
      refine lv_aload_n hx hb dX4_oath_88 rfl (lv_at hl 0 rfl) ?_
      refine va_get (D := (dC, dI)) (ci := 4) (v := .ref (a_b 2)) (C := RX4) (T := TX4) (N := 10) hx hb hts hi_X4 hown hK hP 0 rfl rfl 2 (by decide) kw0 (fun _ h9 => h9) rfl dX4_oath_89 ?_
      refine lv_iload_n hx hb dX4_oath_92 rfl (lv_at hl 1 rfl) ?_
      obtain ⟨r_2, hc_93, hd⟩ := ob_s1 hd
      refine ob_Vi (isC := [2, 3, 4, 5, 6, 7]) (isR := [0, 1]) (is2 := [0, 1, 2, 3, 4, 5, 6, 7]) (wc := (ob_w1 (a_b 2) a_y cI y)) (wr := (List.filterMap (fun i => (ob_w4 o_b a_b cI b ++ ob_w1 (a_b 2) a_y cI y)[i]?) [0, 1])) (w1 := (ob_w1 (a_b 2) a_y cI y)) (w2 := (ob_w4 o_b a_b cI b ++ ob_w1 (a_b 2) a_y cI y)) (b := (a_b 2)) (As := [.int x1]) (rest := []) ⟨hx, hb, hml, hown, hts⟩ (mt_X1_pullOf l dC dI cI cZ cR cW xs _ ((a_b 2)) a_y y x1 r_2 hc_93) (cwV 1 hts gX4_oath_X1_pullOf rfl rfl rfl (by decide +kernel) ⟨Nat.le_of_ble_eq_true rfl, Nat.le_of_ble_eq_true rfl⟩) hK hE hP hD hS hA ⟨rfl, rfl, rfl, rfl, rfl, rfl, rfl⟩ 1 0 rfl rfl rfl hl rfl rfl (Nat.le_of_ble_eq_true rfl) ⟨Nat.le_of_ble_eq_true rfl, Nat.le_of_ble_eq_true rfl⟩ dX4_oath_93 (fun H locs hP hD hS => ?_)
      refine W.widen (k := 0) (n := 0) (Nat.le_refl _) (Nat.le_refl _) ?_
      have e1 := Option.some.inj hd
      subst e1
      exact ob_iret hx hb hr hlocks hP hD hS dX4_oath_96
    replace hd := ob_f c4_12 hd
    refine lv_tableOut (tgt := 97) hx hb dX4_oath_12 (by have n0 := lv_neT c0_12 (show (0 : Int32).toInt = 0 from rfl); have n1 := lv_neT c1_12 (show (1 : Int32).toInt = 1 from rfl); have n2 := lv_neT c2_12 (show (2 : Int32).toInt = 2 from rfl); have n3 := lv_neT c3_12 (show (3 : Int32).toInt = 3 from rfl); have n4 := lv_neT c4_12 (show (4 : Int32).toInt = 4 from rfl); omega) (by decide) ?_
    refine lv_ldc hx hb hown kw5 dX4_oath_97 ?_
    have e1 := Option.some.inj hd
    subst e1
    exact ob_iret hx hb hr hlocks hP hD hS dX4_oath_99
  · replace hd := ob_t c_5 hd
    refine lv_ldc hx hb hown kw5 dX4_oath_8 ?_
    have e1 := Option.some.inj hd
    subst e1
    exact ob_iret hx hb hr hlocks hP hD hS dX4_oath_10

def fd_X4_coach  (b : ob_B) (y : ob_B) (x1 : Int32) : Option (Int32) := ob_b1 (fd_X4_noRoute b y) (fun r_1 => if r_1 = 0 then (if x1 = 0 then (some (y.1 0)) else (if x1 = 1 then (ob_b1 (fd_X1_puller y 0) (fun r_2 => some (r_2))) else (if x1 = 2 then (ob_b1 (fd_X1_openBits y) (fun r_3 => some (r_3))) else (if x1 = 3 then (some (y.1 3)) else (if x1 = 4 then (some (y.1 1)) else (some ((-1000001)))))))) else (some ((-1000002))))
set_option maxHeartbeats 4000000 in
set_option maxRecDepth 100000 in
theorem mt_X4_coach (l : Launch) (dC : Nat → ClassId) (dI : Nat → Nat → Nat) (cI cZ cR cW : ClassId) (xs : Nat → Nat) (sz : Nat) (o_b : Nat) (a_b : Nat → Nat) (a_y : Nat → Nat) (b : ob_B) (y : ob_B) (x1 : Int32)  (rr : Int32) (hd : fd_X4_coach b y x1 = some (rr)) : ob_M l yX4_coach wsX4_coach ({ frames := 2, cells := 0, slots := 0, locals := 47 } : Room) (dC, dI) (ob_ty cI cZ cR cW) xs [.ref o_b, .int x1] (ob_w4 o_b a_b cI b ++ ob_w1 (a_b 2) a_y cI y) sz (ob_Qi (dC, dI) rr (ob_w4 o_b a_b cI b ++ ob_w1 (a_b 2) a_y cI y)) := by
  rw [fd_X4_coach] at hd
  refine ob_in (cc := cX4_coach) (maxL := 2) (ret := (some .int)) (own := RX4) (by decide) rfl rfl [(0, .ref o_b), (1, .int x1)] rfl (Nat.le_of_ble_eq_true rfl) ?_
  intro p e s m below meth c hx hb hr hml hown hts hlocks hnm hK A hA hE hP hD hS ls hl
  have kw0 := hts (.fieldLink RX4 25 "OathCoach" "route" "LOathCoach$Route;") (by decide +kernel)
  have kw1 := hts (.fieldLink RX4 152 "OathCoach$Route" "at" "I") (by decide +kernel)
  have kw2 := hts (.fieldLink RX4 180 "OathCoach$Route" "snow" "I") (by decide +kernel)
  have kw3 := hts (.fieldLink RX4 195 "OathCoach$Route" "home" "I") (by decide +kernel)
  have kw4 := hts (.constant RX4 62 (-1000001)) (by decide +kernel)
  have kw5 := hts (.constant RX4 137 (-1000002)) (by decide +kernel)
  have hi_X1 : ∀ w ∈ u_ws RX1 TX1 12, w ∈ wsX4_coach := by decide +kernel
  have hi_X4 : ∀ w ∈ u_ws RX4 TX4 10, w ∈ wsX4_coach := by decide +kernel
  refine lv_aload_n hx hb dX4_coach_0 rfl (lv_at hl 0 rfl) ?_
  obtain ⟨r_1, hc_1, hd⟩ := ob_s1 hd
  refine ob_Vi (isC := [0, 1, 2, 3, 4, 5, 6, 7]) (isR := []) (is2 := [0, 1, 2, 3, 4, 5, 6, 7]) (wc := (ob_w4 o_b a_b cI b ++ ob_w1 (a_b 2) a_y cI y)) (wr := ([] : va_W)) (w1 := (ob_w4 o_b a_b cI b ++ ob_w1 (a_b 2) a_y cI y)) (w2 := (ob_w4 o_b a_b cI b ++ ob_w1 (a_b 2) a_y cI y)) (b := o_b) (As := []) (rest := []) ⟨hx, hb, hml, hown, hts⟩ (mt_X4_noRoute l dC dI cI cZ cR cW xs _ o_b a_b a_y b y r_1 hc_1) (cwV 0 hts gX4_coach_X4_noRoute rfl rfl rfl (by decide +kernel) ⟨Nat.le_of_ble_eq_true rfl, Nat.le_of_ble_eq_true rfl⟩) hK hE hP hD hS hA ⟨rfl, rfl, rfl, rfl, rfl, rfl, rfl⟩ 4 0 rfl rfl rfl hl rfl rfl (Nat.le_of_ble_eq_true rfl) ⟨Nat.le_of_ble_eq_true rfl, Nat.le_of_ble_eq_true rfl⟩ dX4_coach_1 (fun H locs hP hD hS => ?_)
  refine W.widen (k := 0) (n := 0) (Nat.le_refl _) (Nat.le_refl _) ?_
  refine lv_if_eq (tgt := 10) hx hb dX4_coach_4 (by decide) (fun c_4 => ?_) (fun c_4 => ?_)
  · replace hd := ob_t c_4 hd
    refine lv_iload_n hx hb dX4_coach_10 rfl (lv_at hl 1 rfl) ?_
    by_cases c0_11 : x1 = 0
    · replace hd := ob_t c0_11 hd
      refine lv_tableIn (off := 33) (tgt := 44) hx hb dX4_coach_11 (by rw [c0_11]; decide) (by rw [c0_11]; decide) (by rw [c0_11]; decide) (by decide) ?_
      refine lv_aload_n hx hb dX4_coach_44 rfl (lv_at hl 0 rfl) ?_
      refine va_get (D := (dC, dI)) (ci := 4) (v := .ref (a_b 2)) (C := RX4) (T := TX4) (N := 10) hx hb hts hi_X4 hown hK hP 0 rfl rfl 2 (by decide) kw0 (fun _ h9 => h9) rfl dX4_coach_45 ?_
      refine va_get (D := (dC, dI)) (ci := 1) (v := .int (y.1 0)) (C := RX1) (T := TX1) (N := 12) hx hb hts hi_X1 hown hK hP 2 rfl rfl 0 (by decide) kw1 (fun _ h9 => h9) rfl dX4_coach_48 ?_
      have e1 := Option.some.inj hd
      subst e1
      exact ob_iret hx hb hr hlocks hP hD hS dX4_coach_51
    replace hd := ob_f c0_11 hd
    by_cases c1_11 : x1 = 1
    · replace hd := ob_t c1_11 hd
      refine lv_tableIn (off := 41) (tgt := 52) hx hb dX4_coach_11 (by rw [c1_11]; decide) (by rw [c1_11]; decide) (by rw [c1_11]; decide) (by decide) ?_
      refine lv_aload_n hx hb dX4_coach_52 rfl (lv_at hl 0 rfl) ?_
      refine va_get (D := (dC, dI)) (ci := 4) (v := .ref (a_b 2)) (C := RX4) (T := TX4) (N := 10) hx hb hts hi_X4 hown hK hP 0 rfl rfl 2 (by decide) kw0 (fun _ h9 => h9) rfl dX4_coach_53 ?_
      refine lv_iconst (v := 0) hx hb dX4_coach_56 (by decide) ?_
      obtain ⟨r_2, hc_57, hd⟩ := ob_s1 hd
      refine ob_Vi (isC := [2, 3, 4, 5, 6, 7]) (isR := [0, 1]) (is2 := [0, 1, 2, 3, 4, 5, 6, 7]) (wc := (ob_w1 (a_b 2) a_y cI y)) (wr := (List.filterMap (fun i => (ob_w4 o_b a_b cI b ++ ob_w1 (a_b 2) a_y cI y)[i]?) [0, 1])) (w1 := (ob_w1 (a_b 2) a_y cI y)) (w2 := (ob_w4 o_b a_b cI b ++ ob_w1 (a_b 2) a_y cI y)) (b := (a_b 2)) (As := [.int 0]) (rest := []) ⟨hx, hb, hml, hown, hts⟩ (mt_X1_puller l dC dI cI cZ cR cW xs _ ((a_b 2)) a_y y 0 r_2 hc_57) (cwV 1 hts gX4_coach_X1_puller rfl rfl rfl (by decide +kernel) ⟨Nat.le_of_ble_eq_true rfl, Nat.le_of_ble_eq_true rfl⟩) hK hE hP hD hS hA ⟨rfl, rfl, rfl, rfl, rfl, rfl, rfl⟩ 1 0 rfl rfl rfl hl rfl rfl (Nat.le_of_ble_eq_true rfl) ⟨Nat.le_of_ble_eq_true rfl, Nat.le_of_ble_eq_true rfl⟩ dX4_coach_57 (fun H locs hP hD hS => ?_)
      refine W.widen (k := 0) (n := 0) (Nat.le_refl _) (Nat.le_refl _) ?_
      have e1 := Option.some.inj hd
      subst e1
      exact ob_iret hx hb hr hlocks hP hD hS dX4_coach_60
    replace hd := ob_f c1_11 hd
    by_cases c2_11 : x1 = 2
    · replace hd := ob_t c2_11 hd
      refine lv_tableIn (off := 50) (tgt := 61) hx hb dX4_coach_11 (by rw [c2_11]; decide) (by rw [c2_11]; decide) (by rw [c2_11]; decide) (by decide) ?_
      refine lv_aload_n hx hb dX4_coach_61 rfl (lv_at hl 0 rfl) ?_
      refine va_get (D := (dC, dI)) (ci := 4) (v := .ref (a_b 2)) (C := RX4) (T := TX4) (N := 10) hx hb hts hi_X4 hown hK hP 0 rfl rfl 2 (by decide) kw0 (fun _ h9 => h9) rfl dX4_coach_62 ?_
      obtain ⟨r_3, hc_65, hd⟩ := ob_s1 hd
      refine ob_Vi (isC := [2, 3, 4, 5, 6, 7]) (isR := [0, 1]) (is2 := [0, 1, 2, 3, 4, 5, 6, 7]) (wc := (ob_w1 (a_b 2) a_y cI y)) (wr := (List.filterMap (fun i => (ob_w4 o_b a_b cI b ++ ob_w1 (a_b 2) a_y cI y)[i]?) [0, 1])) (w1 := (ob_w1 (a_b 2) a_y cI y)) (w2 := (ob_w4 o_b a_b cI b ++ ob_w1 (a_b 2) a_y cI y)) (b := (a_b 2)) (As := []) (rest := []) ⟨hx, hb, hml, hown, hts⟩ (mt_X1_openBits l dC dI cI cZ cR cW xs _ ((a_b 2)) a_y y r_3 hc_65) (cwV 0 hts gX4_coach_X1_openBits rfl rfl rfl (by decide +kernel) ⟨Nat.le_of_ble_eq_true rfl, Nat.le_of_ble_eq_true rfl⟩) hK hE hP hD hS hA ⟨rfl, rfl, rfl, rfl, rfl, rfl, rfl⟩ 1 0 rfl rfl rfl hl rfl rfl (Nat.le_of_ble_eq_true rfl) ⟨Nat.le_of_ble_eq_true rfl, Nat.le_of_ble_eq_true rfl⟩ dX4_coach_65 (fun H locs hP hD hS => ?_)
      refine W.widen (k := 0) (n := 0) (Nat.le_refl _) (Nat.le_refl _) ?_
      have e1 := Option.some.inj hd
      subst e1
      exact ob_iret hx hb hr hlocks hP hD hS dX4_coach_68
    replace hd := ob_f c2_11 hd
    by_cases c3_11 : x1 = 3
    · replace hd := ob_t c3_11 hd
      refine lv_tableIn (off := 58) (tgt := 69) hx hb dX4_coach_11 (by rw [c3_11]; decide) (by rw [c3_11]; decide) (by rw [c3_11]; decide) (by decide) ?_
      refine lv_aload_n hx hb dX4_coach_69 rfl (lv_at hl 0 rfl) ?_
      refine va_get (D := (dC, dI)) (ci := 4) (v := .ref (a_b 2)) (C := RX4) (T := TX4) (N := 10) hx hb hts hi_X4 hown hK hP 0 rfl rfl 2 (by decide) kw0 (fun _ h9 => h9) rfl dX4_coach_70 ?_
      refine va_get (D := (dC, dI)) (ci := 1) (v := .int (y.1 3)) (C := RX1) (T := TX1) (N := 12) hx hb hts hi_X1 hown hK hP 2 rfl rfl 3 (by decide) kw2 (fun _ h9 => h9) rfl dX4_coach_73 ?_
      have e1 := Option.some.inj hd
      subst e1
      exact ob_iret hx hb hr hlocks hP hD hS dX4_coach_76
    replace hd := ob_f c3_11 hd
    by_cases c4_11 : x1 = 4
    · replace hd := ob_t c4_11 hd
      refine lv_tableIn (off := 66) (tgt := 77) hx hb dX4_coach_11 (by rw [c4_11]; decide) (by rw [c4_11]; decide) (by rw [c4_11]; decide) (by decide) ?_
      refine lv_aload_n hx hb dX4_coach_77 rfl (lv_at hl 0 rfl) ?_
      refine va_get (D := (dC, dI)) (ci := 4) (v := .ref (a_b 2)) (C := RX4) (T := TX4) (N := 10) hx hb hts hi_X4 hown hK hP 0 rfl rfl 2 (by decide) kw0 (fun _ h9 => h9) rfl dX4_coach_78 ?_
      refine va_get (D := (dC, dI)) (ci := 1) (v := .int (y.1 1)) (C := RX1) (T := TX1) (N := 12) hx hb hts hi_X1 hown hK hP 2 rfl rfl 1 (by decide) kw3 (fun _ h9 => h9) rfl dX4_coach_81 ?_
      have e1 := Option.some.inj hd
      subst e1
      exact ob_iret hx hb hr hlocks hP hD hS dX4_coach_84
    replace hd := ob_f c4_11 hd
    refine lv_tableOut (tgt := 85) hx hb dX4_coach_11 (by have n0 := lv_neT c0_11 (show (0 : Int32).toInt = 0 from rfl); have n1 := lv_neT c1_11 (show (1 : Int32).toInt = 1 from rfl); have n2 := lv_neT c2_11 (show (2 : Int32).toInt = 2 from rfl); have n3 := lv_neT c3_11 (show (3 : Int32).toInt = 3 from rfl); have n4 := lv_neT c4_11 (show (4 : Int32).toInt = 4 from rfl); omega) (by decide) ?_
    refine lv_ldc hx hb hown kw4 dX4_coach_85 ?_
    have e1 := Option.some.inj hd
    subst e1
    exact ob_iret hx hb hr hlocks hP hD hS dX4_coach_87
  · replace hd := ob_f c_4 hd
    refine lv_ldc hx hb hown kw5 dX4_coach_7 ?_
    have e1 := Option.some.inj hd
    subst e1
    exact ob_iret hx hb hr hlocks hP hD hS dX4_coach_9

def fd_X4_late_L91  (b : ob_B) (y : ob_B) (x1 : Int32) (z2 : Int32) (z3 : Int32) : Option (Int32) := if x1 = 1 then (some (z2)) else (if z2 = (-1000000) then (some (z2)) else (some (z3)))
def fd_X4_late_L28  : Nat → ob_B → ob_B → Int32 → Int32 → Int32 → Int32 → Option (Int32)
  | 0, _, _, _, _, _, _ => none
  | fu + 1, b, y, x1, z2, z3, z4 => if (y.1 4) ≤ z4 then (fd_X4_late_L91 b y x1 z2 z3) else (if z4 < 0 ∨ 7 ≤ Int32.toNatClampNeg z4 then none else (ob_lt ((y.1 2) - ((y.2 10) (Int32.toNatClampNeg z4)) : Int32) (fun x_3 => if z4 < 0 ∨ 7 ≤ Int32.toNatClampNeg z4 then none else (if ((y.2 11) (Int32.toNatClampNeg z4)) = 0 then (if x_3 ≤ z3 then (ob_lt (z4 + 1 : Int32) (fun x_5 => fd_X4_late_L28 fu b y x1 z2 z3 x_5)) else (ob_lt (z4 + 1 : Int32) (fun x_6 => fd_X4_late_L28 fu b y x1 z4 x_3 x_6))) else (ob_lt (z4 + 1 : Int32) (fun x_4 => fd_X4_late_L28 fu b y x1 z2 z3 x_4))))))
def fd_X4_late  (b : ob_B) (y : ob_B) (x1 : Int32) : Option (Int32) := ob_b1 (fd_X4_noRoute b y) (fun r_1 => if r_1 = 0 then (ob_b1 (fd_X4_isEither x1) (fun r_2 => if r_2 = 0 then (some ((-1000001))) else (fd_X4_late_L28 2000 b y x1 (-1000000) 0 0))) else (some ((-1000002))))
set_option maxHeartbeats 4000000 in
set_option maxRecDepth 100000 in
theorem mt_X4_late (l : Launch) (dC : Nat → ClassId) (dI : Nat → Nat → Nat) (cI cZ cR cW : ClassId) (xs : Nat → Nat) (sz : Nat) (o_b : Nat) (a_b : Nat → Nat) (a_y : Nat → Nat) (b : ob_B) (y : ob_B) (x1 : Int32)  (rr : Int32) (hd : fd_X4_late b y x1 = some (rr)) : ob_M l yX4_late wsX4_late ({ frames := 1, cells := 0, slots := 0, locals := 20 } : Room) (dC, dI) (ob_ty cI cZ cR cW) xs [.ref o_b, .int x1] (ob_w4 o_b a_b cI b ++ ob_w1 (a_b 2) a_y cI y) sz (ob_Qi (dC, dI) rr (ob_w4 o_b a_b cI b ++ ob_w1 (a_b 2) a_y cI y)) := by
  rw [fd_X4_late] at hd
  refine ob_in (cc := cX4_late) (maxL := 6) (ret := (some .int)) (own := RX4) (by decide) rfl rfl [(0, .ref o_b), (1, .int x1)] rfl (Nat.le_of_ble_eq_true rfl) ?_
  intro p e s m below meth c hx hb hr hml hown hts hlocks hnm hK A hA hE hP hD hS ls hl
  have kw0 := hts (.constant RX4 205 (-1000000)) (by decide +kernel)
  have kw1 := hts (.constant RX4 62 (-1000001)) (by decide +kernel)
  have kw2 := hts (.constant RX4 137 (-1000002)) (by decide +kernel)
  have kw3 := hts (.fieldLink RX4 25 "OathCoach" "route" "LOathCoach$Route;") (by decide +kernel)
  have kw4 := hts (.fieldLink RX4 130 "OathCoach$Route" "oaths" "I") (by decide +kernel)
  have kw5 := hts (.fieldLink RX4 142 "OathCoach$Route" "hour" "I") (by decide +kernel)
  have kw6 := hts (.fieldLink RX4 189 "OathCoach$Route" "due" "[I") (by decide +kernel)
  have kw7 := hts (.fieldLink RX4 166 "OathCoach$Route" "came" "[I") (by decide +kernel)
  have hi_X1 : ∀ w ∈ u_ws RX1 TX1 12, w ∈ wsX4_late := by decide +kernel
  have hi_X4 : ∀ w ∈ u_ws RX4 TX4 10, w ∈ wsX4_late := by decide +kernel
  have L91 : ∀ (H : Heap) (locs : List Loc)  (z2 : Int32) (z3 : Int32) (ls : Array Slot), va_P (dC, dI) vwCl (ob_w4 o_b a_b cI b ++ ob_w1 (a_b 2) a_y cI y) H → va_D A (ob_w4 o_b a_b cI b ++ ob_w1 (a_b 2) a_y cI y) → va_S A s.heap H locs → lv_has ls 6 [(1, .int x1), (2, .int z2), (3, .int z3)] → fd_X4_late_L91 b y x1 z2 z3 = some (rr) → W p l e ({ frames := 1, cells := 0, slots := 0, locals := 20 } : Room) s m (List.toArray [.ref o_b, .int x1]) below meth c H locs 0 0 (MQ below ((ob_Qi (dC, dI) rr (ob_w4 o_b a_b cI b ++ ob_w1 (a_b 2) a_y cI y)) A) (List.toArray [.ref o_b, .int x1]) s 0 0 A) (F0 m 91 ls []) := by
    intro  H locs z2 z3 ls hP hD hS hl hd
    rw [fd_X4_late_L91] at hd
    refine lv_iload_n hx hb dX4_late_91 rfl (lv_at hl 0 rfl) ?_
    refine lv_iconst (v := 1) hx hb dX4_late_92 (by decide) ?_
    refine lv_icmp_eq (tgt := 102) hx hb dX4_late_93 (by decide) (fun c_93 => ?_) (fun c_93 => ?_)
    · replace hd := ob_t c_93 hd
      refine lv_iload_n hx hb dX4_late_102 rfl (lv_at hl 1 rfl) ?_
      refine lv_goto (tgt := 107) hx hb dX4_late_103 (by decide) ?_
      have e1 := Option.some.inj hd
      subst e1
      exact ob_iret hx hb hr hlocks hP hD hS dX4_late_107
    · replace hd := ob_f c_93 hd
      refine lv_iload_n hx hb dX4_late_96 rfl (lv_at hl 1 rfl) ?_
      refine lv_ldc hx hb hown kw0 dX4_late_97 ?_
      refine lv_icmp_ne (tgt := 106) hx hb dX4_late_99 (by decide) (fun c_99 => ?_) (fun c_99 => ?_)
      · replace hd := ob_f c_99 hd
        refine lv_iload_n hx hb dX4_late_106 rfl (lv_at hl 2 rfl) ?_
        have e1 := Option.some.inj hd
        subst e1
        exact ob_iret hx hb hr hlocks hP hD hS dX4_late_107
      · replace hd := ob_t c_99 hd
        refine lv_iload_n hx hb dX4_late_102 rfl (lv_at hl 1 rfl) ?_
        refine lv_goto (tgt := 107) hx hb dX4_late_103 (by decide) ?_
        have e1 := Option.some.inj hd
        subst e1
        exact ob_iret hx hb hr hlocks hP hD hS dX4_late_107
  have L28 : ∀  (fu : Nat), ∀ (H : Heap) (locs : List Loc)  (z2 : Int32) (z3 : Int32) (z4 : Int32) (ls : Array Slot), va_P (dC, dI) vwCl (ob_w4 o_b a_b cI b ++ ob_w1 (a_b 2) a_y cI y) H → va_D A (ob_w4 o_b a_b cI b ++ ob_w1 (a_b 2) a_y cI y) → va_S A s.heap H locs → lv_has ls 6 [(0, .ref o_b), (1, .int x1), (2, .int z2), (3, .int z3), (4, .int z4)] → fd_X4_late_L28 fu b y x1 z2 z3 z4 = some (rr) → W p l e ({ frames := 1, cells := 0, slots := 0, locals := 20 } : Room) s m (List.toArray [.ref o_b, .int x1]) below meth c H locs 0 0 (MQ below ((ob_Qi (dC, dI) rr (ob_w4 o_b a_b cI b ++ ob_w1 (a_b 2) a_y cI y)) A) (List.toArray [.ref o_b, .int x1]) s 0 0 A) (F0 m 28 ls []) := by
    intro  fu
    induction fu with
    | zero =>
      intro H locs z2 z3 z4 ls hP hD hS hl hd
      rw [fd_X4_late_L28] at hd
      cases hd
    | succ fu ih =>
      intro H locs z2 z3 z4 ls hP hD hS hl hd
      rw [fd_X4_late_L28] at hd
      refine lv_iload hx hb dX4_late_28 (lv_at hl 4 rfl) ?_
      refine lv_aload_n hx hb dX4_late_30 rfl (lv_at hl 0 rfl) ?_
      refine va_get (D := (dC, dI)) (ci := 4) (v := .ref (a_b 2)) (C := RX4) (T := TX4) (N := 10) hx hb hts hi_X4 hown hK hP 0 rfl rfl 2 (by decide) kw3 (fun _ h9 => h9) rfl dX4_late_31 ?_
      refine va_get (D := (dC, dI)) (ci := 1) (v := .int (y.1 4)) (C := RX1) (T := TX1) (N := 12) hx hb hts hi_X1 hown hK hP 2 rfl rfl 4 (by decide) kw4 (fun _ h9 => h9) rfl dX4_late_34 ?_
      refine lv_icmp_ge (tgt := 91) hx hb dX4_late_37 (by decide) (fun c_37 => ?_) (fun c_37 => ?_)
      · replace hd := ob_t c_37 hd
        exact L91   _ _ z2 z3 _ hP hD hS (lv_sub hl [1, 2, 3] rfl) hd
      · replace hd := ob_f c_37 hd
        refine lv_aload_n hx hb dX4_late_40 rfl (lv_at hl 0 rfl) ?_
        refine va_get (D := (dC, dI)) (ci := 4) (v := .ref (a_b 2)) (C := RX4) (T := TX4) (N := 10) hx hb hts hi_X4 hown hK hP 0 rfl rfl 2 (by decide) kw3 (fun _ h9 => h9) rfl dX4_late_41 ?_
        refine va_get (D := (dC, dI)) (ci := 1) (v := .int (y.1 2)) (C := RX1) (T := TX1) (N := 12) hx hb hts hi_X1 hown hK hP 2 rfl rfl 2 (by decide) kw5 (fun _ h9 => h9) rfl dX4_late_44 ?_
        refine lv_aload_n hx hb dX4_late_47 rfl (lv_at hl 0 rfl) ?_
        refine va_get (D := (dC, dI)) (ci := 4) (v := .ref (a_b 2)) (C := RX4) (T := TX4) (N := 10) hx hb hts hi_X4 hown hK hP 0 rfl rfl 2 (by decide) kw3 (fun _ h9 => h9) rfl dX4_late_48 ?_
        refine va_get (D := (dC, dI)) (ci := 1) (v := .ref (a_y 10)) (C := RX1) (T := TX1) (N := 12) hx hb hts hi_X1 hown hK hP 2 rfl rfl 10 (by decide) kw6 (fun _ h9 => h9) rfl dX4_late_51 ?_
        refine lv_iload hx hb dX4_late_54 (lv_at hl 4 rfl) ?_
        obtain ⟨h1_56, hd⟩ := ob_nn hd
        refine va_iald hx hb hK hP 6 0 rfl rfl h1_56 dX4_late_56 ?_
        refine lv_isub hx hb dX4_late_57 ?_
        refine lv_topi (fun x_3 ex_3 => ?_)
        replace hd := ob_lx ex_3 hd
        clear ex_3
        refine lv_istore (lv' := [(5, .int x_3), (0, .ref o_b), (1, .int x1), (2, .int z2), (3, .int z3), (4, .int z4)]) hx hb dX4_late_58 hl (by decide) rfl (fun ls hl => ?_)
        refine lv_aload_n hx hb dX4_late_60 rfl (lv_at hl 1 rfl) ?_
        refine va_get (D := (dC, dI)) (ci := 4) (v := .ref (a_b 2)) (C := RX4) (T := TX4) (N := 10) hx hb hts hi_X4 hown hK hP 0 rfl rfl 2 (by decide) kw3 (fun _ h9 => h9) rfl dX4_late_61 ?_
        refine va_get (D := (dC, dI)) (ci := 1) (v := .ref (a_y 11)) (C := RX1) (T := TX1) (N := 12) hx hb hts hi_X1 hown hK hP 2 rfl rfl 11 (by decide) kw7 (fun _ h9 => h9) rfl dX4_late_64 ?_
        refine lv_iload hx hb dX4_late_67 (lv_at hl 5 rfl) ?_
        obtain ⟨h1_69, hd⟩ := ob_nn hd
        refine va_iald hx hb hK hP 7 0 rfl rfl h1_69 dX4_late_69 ?_
        refine lv_if_ne (tgt := 85) hx hb dX4_late_70 (by decide) (fun c_70 => ?_) (fun c_70 => ?_)
        · replace hd := ob_f c_70 hd
          obtain ⟨x_4, ex_4⟩ : ∃ z : Int32, z = z4 + 1 := ⟨_, rfl⟩
          replace hd := ob_lx ex_4 hd
          refine lv_iinc (v := x_4) (lv' := [(4, .int x_4), (5, .int x_3), (0, .ref o_b), (1, .int x1), (2, .int z2), (3, .int z3)]) hx hb dX4_late_85 hl (k := 5) rfl (by rw [ex_4]; rfl) (by decide) rfl (fun ls hl => ?_)
          clear ex_4
          refine lv_goto (tgt := 28) hx hb dX4_late_88 (by decide) ?_
          exact ih _ _ z2 z3 x_4 _ hP hD hS (lv_sub hl [2, 3, 4, 5, 0] rfl) hd
        · replace hd := ob_t c_70 hd
          refine lv_iload hx hb dX4_late_73 (lv_at hl 0 rfl) ?_
          refine lv_iload_n hx hb dX4_late_75 rfl (lv_at hl 4 rfl) ?_
          refine lv_icmp_le (tgt := 85) hx hb dX4_late_76 (by decide) (fun c_76 => ?_) (fun c_76 => ?_)
          · replace hd := ob_t c_76 hd
            obtain ⟨x_5, ex_5⟩ : ∃ z : Int32, z = z4 + 1 := ⟨_, rfl⟩
            replace hd := ob_lx ex_5 hd
            refine lv_iinc (v := x_5) (lv' := [(4, .int x_5), (5, .int x_3), (0, .ref o_b), (1, .int x1), (2, .int z2), (3, .int z3)]) hx hb dX4_late_85 hl (k := 5) rfl (by rw [ex_5]; rfl) (by decide) rfl (fun ls hl => ?_)
            clear ex_5
            refine lv_goto (tgt := 28) hx hb dX4_late_88 (by decide) ?_
            exact ih _ _ z2 z3 x_5 _ hP hD hS (lv_sub hl [2, 3, 4, 5, 0] rfl) hd
          · replace hd := ob_f c_76 hd
            refine lv_iload hx hb dX4_late_79 (lv_at hl 5 rfl) ?_
            refine lv_istore_n (lv' := [(2, .int z4), (5, .int x_3), (0, .ref o_b), (1, .int x1), (3, .int z3), (4, .int z4)]) hx hb dX4_late_81 rfl hl (by decide) rfl (fun ls hl => ?_)
            refine lv_iload hx hb dX4_late_82 (lv_at hl 1 rfl) ?_
            refine lv_istore_n (lv' := [(3, .int x_3), (2, .int z4), (5, .int x_3), (0, .ref o_b), (1, .int x1), (4, .int z4)]) hx hb dX4_late_84 rfl hl (by decide) rfl (fun ls hl => ?_)
            obtain ⟨x_6, ex_6⟩ : ∃ z : Int32, z = z4 + 1 := ⟨_, rfl⟩
            replace hd := ob_lx ex_6 hd
            refine lv_iinc (v := x_6) (lv' := [(4, .int x_6), (3, .int x_3), (2, .int z4), (5, .int x_3), (0, .ref o_b), (1, .int x1)]) hx hb dX4_late_85 hl (k := 5) rfl (by rw [ex_6]; rfl) (by decide) rfl (fun ls hl => ?_)
            clear ex_6
            refine lv_goto (tgt := 28) hx hb dX4_late_88 (by decide) ?_
            exact ih _ _ z4 x_3 x_6 _ hP hD hS (lv_sub hl [4, 5, 2, 1, 0] rfl) hd
  refine lv_aload_n hx hb dX4_late_0 rfl (lv_at hl 0 rfl) ?_
  obtain ⟨r_1, hc_1, hd⟩ := ob_s1 hd
  refine ob_Vi (isC := [0, 1, 2, 3, 4, 5, 6, 7]) (isR := []) (is2 := [0, 1, 2, 3, 4, 5, 6, 7]) (wc := (ob_w4 o_b a_b cI b ++ ob_w1 (a_b 2) a_y cI y)) (wr := ([] : va_W)) (w1 := (ob_w4 o_b a_b cI b ++ ob_w1 (a_b 2) a_y cI y)) (w2 := (ob_w4 o_b a_b cI b ++ ob_w1 (a_b 2) a_y cI y)) (b := o_b) (As := []) (rest := []) ⟨hx, hb, hml, hown, hts⟩ (mt_X4_noRoute l dC dI cI cZ cR cW xs _ o_b a_b a_y b y r_1 hc_1) (cwV 0 hts gX4_late_X4_noRoute rfl rfl rfl (by decide +kernel) ⟨Nat.le_of_ble_eq_true rfl, Nat.le_of_ble_eq_true rfl⟩) hK hE hP hD hS hA ⟨rfl, rfl, rfl, rfl, rfl, rfl, rfl⟩ 4 0 rfl rfl rfl hl rfl rfl (Nat.le_of_ble_eq_true rfl) ⟨Nat.le_of_ble_eq_true rfl, Nat.le_of_ble_eq_true rfl⟩ dX4_late_1 (fun H locs hP hD hS => ?_)
  refine W.widen (k := 0) (n := 0) (Nat.le_refl _) (Nat.le_refl _) ?_
  refine lv_if_eq (tgt := 10) hx hb dX4_late_4 (by decide) (fun c_4 => ?_) (fun c_4 => ?_)
  · replace hd := ob_t c_4 hd
    refine lv_iload_n hx hb dX4_late_10 rfl (lv_at hl 1 rfl) ?_
    obtain ⟨r_2, hc_11, hd⟩ := ob_s1 hd
    refine ob_Si (isC := []) (isR := [0, 1, 2, 3, 4, 5, 6, 7]) (is2 := [0, 1, 2, 3, 4, 5, 6, 7]) (wc := ([] : va_W)) (wr := (List.filterMap (fun i => (ob_w4 o_b a_b cI b ++ ob_w1 (a_b 2) a_y cI y)[i]?) [0, 1, 2, 3, 4, 5, 6, 7])) (w1 := ([] : va_W)) (w2 := (ob_w4 o_b a_b cI b ++ ob_w1 (a_b 2) a_y cI y)) (As := [.int x1]) (rest := []) ⟨hx, hb, hml, hown, hts⟩ (mt_X4_isEither l dC dI cI cZ cR cW xs _ x1 r_2 hc_11) (va_cwS 1 hts gX4_late_X4_isEither rfl rfl rfl (by decide +kernel) ⟨Nat.le_of_ble_eq_true rfl, Nat.le_of_ble_eq_true rfl⟩) hK hE hP hD hS hA ⟨rfl, rfl, rfl, rfl, rfl, rfl, rfl⟩ hl rfl rfl (Nat.le_of_ble_eq_true rfl) ⟨Nat.le_of_ble_eq_true rfl, Nat.le_of_ble_eq_true rfl⟩ dX4_late_11 (fun H locs hP hD hS => ?_)
    refine W.widen (k := 0) (n := 0) (Nat.le_refl _) (Nat.le_refl _) ?_
    refine lv_if_ne (tgt := 20) hx hb dX4_late_14 (by decide) (fun c_14 => ?_) (fun c_14 => ?_)
    · replace hd := ob_f c_14 hd
      refine lv_ldc hx hb hown kw0 dX4_late_20 ?_
      refine lv_istore_n (lv' := [(2, .int (-1000000)), (0, .ref o_b), (1, .int x1)]) hx hb dX4_late_22 rfl hl (by decide) rfl (fun ls hl => ?_)
      refine lv_iconst (v := 0) hx hb dX4_late_23 (by decide) ?_
      refine lv_istore_n (lv' := [(3, .int 0), (2, .int (-1000000)), (0, .ref o_b), (1, .int x1)]) hx hb dX4_late_24 rfl hl (by decide) rfl (fun ls hl => ?_)
      refine lv_iconst (v := 0) hx hb dX4_late_25 (by decide) ?_
      refine lv_istore (lv' := [(4, .int 0), (3, .int 0), (2, .int (-1000000)), (0, .ref o_b), (1, .int x1)]) hx hb dX4_late_26 hl (by decide) rfl (fun ls hl => ?_)
      exact L28  2000 _ _ (-1000000) 0 0 _ hP hD hS (lv_sub hl [3, 4, 2, 1, 0] rfl) hd
    · replace hd := ob_t c_14 hd
      refine lv_ldc hx hb hown kw1 dX4_late_17 ?_
      have e1 := Option.some.inj hd
      subst e1
      exact ob_iret hx hb hr hlocks hP hD hS dX4_late_19
  · replace hd := ob_f c_4 hd
    refine lv_ldc hx hb hown kw2 dX4_late_7 ?_
    have e1 := Option.some.inj hd
    subst e1
    exact ob_iret hx hb hr hlocks hP hD hS dX4_late_9

def fd_X4_kind  (b : ob_B) (y : ob_B) (x1 : Int32) : Option (Int32) := ob_b1 (fd_X4_isOath b y x1) (fun r_1 => if r_1 = 0 then (some ((-1000001))) else (if x1 < 0 ∨ 7 ≤ Int32.toNatClampNeg x1 then none else (some ((y.2 7) (Int32.toNatClampNeg x1)))))
set_option maxHeartbeats 4000000 in
set_option maxRecDepth 100000 in
theorem mt_X4_kind (l : Launch) (dC : Nat → ClassId) (dI : Nat → Nat → Nat) (cI cZ cR cW : ClassId) (xs : Nat → Nat) (sz : Nat) (o_b : Nat) (a_b : Nat → Nat) (a_y : Nat → Nat) (b : ob_B) (y : ob_B) (x1 : Int32)  (rr : Int32) (hd : fd_X4_kind b y x1 = some (rr)) : ob_M l yX4_kind wsX4_kind ({ frames := 1, cells := 0, slots := 0, locals := 21 } : Room) (dC, dI) (ob_ty cI cZ cR cW) xs [.ref o_b, .int x1] (ob_w4 o_b a_b cI b ++ ob_w1 (a_b 2) a_y cI y) sz (ob_Qi (dC, dI) rr (ob_w4 o_b a_b cI b ++ ob_w1 (a_b 2) a_y cI y)) := by
  rw [fd_X4_kind] at hd
  refine ob_in (cc := cX4_kind) (maxL := 2) (ret := (some .int)) (own := RX4) (by decide) rfl rfl [(0, .ref o_b), (1, .int x1)] rfl (Nat.le_of_ble_eq_true rfl) ?_
  intro p e s m below meth c hx hb hr hml hown hts hlocks hnm hK A hA hE hP hD hS ls hl
  have kw0 := hts (.constant RX4 62 (-1000001)) (by decide +kernel)
  have kw1 := hts (.fieldLink RX4 25 "OathCoach" "route" "LOathCoach$Route;") (by decide +kernel)
  have kw2 := hts (.fieldLink RX4 213 "OathCoach$Route" "kind" "[I") (by decide +kernel)
  have hi_X1 : ∀ w ∈ u_ws RX1 TX1 12, w ∈ wsX4_kind := by decide +kernel
  have hi_X4 : ∀ w ∈ u_ws RX4 TX4 10, w ∈ wsX4_kind := by decide +kernel
  refine lv_aload_n hx hb dX4_kind_0 rfl (lv_at hl 0 rfl) ?_
  refine lv_iload_n hx hb dX4_kind_1 rfl (lv_at hl 1 rfl) ?_
  obtain ⟨r_1, hc_2, hd⟩ := ob_s1 hd
  refine ob_Vi (isC := [0, 1, 2, 3, 4, 5, 6, 7]) (isR := []) (is2 := [0, 1, 2, 3, 4, 5, 6, 7]) (wc := (ob_w4 o_b a_b cI b ++ ob_w1 (a_b 2) a_y cI y)) (wr := ([] : va_W)) (w1 := (ob_w4 o_b a_b cI b ++ ob_w1 (a_b 2) a_y cI y)) (w2 := (ob_w4 o_b a_b cI b ++ ob_w1 (a_b 2) a_y cI y)) (b := o_b) (As := [.int x1]) (rest := []) ⟨hx, hb, hml, hown, hts⟩ (mt_X4_isOath l dC dI cI cZ cR cW xs _ o_b a_b a_y b y x1 r_1 hc_2) (cwV 1 hts gX4_kind_X4_isOath rfl rfl rfl (by decide +kernel) ⟨Nat.le_of_ble_eq_true rfl, Nat.le_of_ble_eq_true rfl⟩) hK hE hP hD hS hA ⟨rfl, rfl, rfl, rfl, rfl, rfl, rfl⟩ 4 0 rfl rfl rfl hl rfl rfl (Nat.le_of_ble_eq_true rfl) ⟨Nat.le_of_ble_eq_true rfl, Nat.le_of_ble_eq_true rfl⟩ dX4_kind_2 (fun H locs hP hD hS => ?_)
  refine W.widen (k := 0) (n := 0) (Nat.le_refl _) (Nat.le_refl _) ?_
  refine lv_if_eq (tgt := 20) hx hb dX4_kind_5 (by decide) (fun c_5 => ?_) (fun c_5 => ?_)
  · replace hd := ob_t c_5 hd
    refine lv_ldc hx hb hown kw0 dX4_kind_20 ?_
    have e1 := Option.some.inj hd
    subst e1
    exact ob_iret hx hb hr hlocks hP hD hS dX4_kind_22
  · replace hd := ob_f c_5 hd
    refine lv_aload_n hx hb dX4_kind_8 rfl (lv_at hl 0 rfl) ?_
    refine va_get (D := (dC, dI)) (ci := 4) (v := .ref (a_b 2)) (C := RX4) (T := TX4) (N := 10) hx hb hts hi_X4 hown hK hP 0 rfl rfl 2 (by decide) kw1 (fun _ h9 => h9) rfl dX4_kind_9 ?_
    refine va_get (D := (dC, dI)) (ci := 1) (v := .ref (a_y 7)) (C := RX1) (T := TX1) (N := 12) hx hb hts hi_X1 hown hK hP 2 rfl rfl 7 (by decide) kw2 (fun _ h9 => h9) rfl dX4_kind_12 ?_
    refine lv_iload_n hx hb dX4_kind_15 rfl (lv_at hl 1 rfl) ?_
    obtain ⟨h1_16, hd⟩ := ob_nn hd
    refine va_iald hx hb hK hP 3 0 rfl rfl h1_16 dX4_kind_16 ?_
    refine lv_goto (tgt := 22) hx hb dX4_kind_17 (by decide) ?_
    have e1 := Option.some.inj hd
    subst e1
    exact ob_iret hx hb hr hlocks hP hD hS dX4_kind_22

def fd_X4_lies_L128  (b : ob_B) (y : ob_B) (x3 : Int32) (z5 : Int32) (z6 : Int64) : Option (Int64) := ob_b1 (fd_X4_power 10 z5) (fun r_15 => ob_b1 (fd_X4_commonDivisor r_15 z6) (fun r_16 => if 0 ≤ (lg_cmp r_16 1) then (if x3 = 0 then (if r_16 = 0 then none else (some (z6 / r_16))) else (if r_16 = 0 then none else (some (r_15 / r_16)))) else (some ((-1000001)))))
def fd_X4_lies_L61  : Nat → ob_B → ob_B → Int32 → Int32 → Int32 → Int32 → Int32 → Int64 → Int32 → Option (Int64)
  | 0, _, _, _, _, _, _, _, _, _ => none
  | fu + 1, b, y, x1, x2, x3, z4, z5, z6, z8 => if z4 < z8 then (fd_X4_lies_L128 b y x3 z5 z6) else (if (z8 &&& z4) = z8 then (ob_b1 (fd_X1_placeNext y z8) (fun r_8 => if r_8 = x1 then (ob_b1 (fd_J6_bitCount_0f7a4 z8) (fun r_10 => ob_b1 (fd_X4_power x2 r_10) (fun r_11 => ob_b1 (fd_X4_power (10 - x2) (z5 - r_10)) (fun r_12 => ob_lt (z6 + (r_11 * r_12) : Int64) (fun x_13 => ob_lt (z8 + 1 : Int32) (fun x_14 => fd_X4_lies_L61 fu b y x1 x2 x3 z4 z5 x_13 x_14)))))) else (ob_lt (z8 + 1 : Int32) (fun x_9 => fd_X4_lies_L61 fu b y x1 x2 x3 z4 z5 z6 x_9)))) else (ob_lt (z8 + 1 : Int32) (fun x_7 => fd_X4_lies_L61 fu b y x1 x2 x3 z4 z5 z6 x_7)))
def fd_X4_lies  (b : ob_B) (y : ob_B) (x1 : Int32) (x2 : Int32) (x3 : Int32) : Option (Int64) := ob_b1 (fd_X4_noRoute b y) (fun r_1 => if r_1 = 0 then (ob_b1 (fd_X4_isPlace x1) (fun r_2 => if r_2 = 0 then (some ((-1000001))) else (ob_b1 (fd_X4_isWithin x2 0 10) (fun r_3 => if r_3 = 0 then (some ((-1000001))) else (ob_b1 (fd_X4_isEither x3) (fun r_4 => if r_4 = 0 then (some ((-1000001))) else (ob_b1 (fd_X1_openBits y) (fun r_5 => ob_b1 (fd_J6_bitCount_0f7a4 r_5) (fun r_6 => fd_X4_lies_L61 2000 b y x1 x2 x3 r_5 r_6 0 0))))))))) else (some ((-1000002))))
set_option maxHeartbeats 4000000 in
set_option maxRecDepth 100000 in
theorem mt_X4_lies (l : Launch) (dC : Nat → ClassId) (dI : Nat → Nat → Nat) (cI cZ cR cW : ClassId) (xs : Nat → Nat) (sz : Nat) (o_b : Nat) (a_b : Nat → Nat) (a_y : Nat → Nat) (b : ob_B) (y : ob_B) (x1 : Int32) (x2 : Int32) (x3 : Int32)  (rr : Int64) (hd : fd_X4_lies b y x1 x2 x3 = some (rr)) : ob_M l yX4_lies wsX4_lies ({ frames := 3, cells := 0, slots := 0, locals := 69 } : Room) (dC, dI) (ob_ty cI cZ cR cW) xs [.ref o_b, .int x1, .int x2, .int x3] (ob_w4 o_b a_b cI b ++ ob_w1 (a_b 2) a_y cI y) sz (ob_Ql (dC, dI) rr (ob_w4 o_b a_b cI b ++ ob_w1 (a_b 2) a_y cI y)) := by
  rw [fd_X4_lies] at hd
  refine ob_in (cc := cX4_lies) (maxL := 12) (ret := (some .long)) (own := RX4) (by decide) rfl rfl [(0, .ref o_b), (1, .int x1), (2, .int x2), (3, .int x3)] rfl (Nat.le_of_ble_eq_true rfl) ?_
  intro p e s m below meth c hx hb hr hml hown hts hlocks hnm hK A hA hE hP hD hS ls hl
  have kw0 := hts (.constantLong RX4 218 (-1000001)) (by decide +kernel)
  have kw1 := hts (.fieldLink RX4 25 "OathCoach" "route" "LOathCoach$Route;") (by decide +kernel)
  have kw2 := hts (.constantLong RX4 216 (-1000002)) (by decide +kernel)
  have hi_X4 : ∀ w ∈ u_ws RX4 TX4 10, w ∈ wsX4_lies := by decide +kernel
  have L128 : ∀ (H : Heap) (locs : List Loc)  (z5 : Int32) (z6 : Int64) (ls : Array Slot), va_P (dC, dI) vwCl (ob_w4 o_b a_b cI b ++ ob_w1 (a_b 2) a_y cI y) H → va_D A (ob_w4 o_b a_b cI b ++ ob_w1 (a_b 2) a_y cI y) → va_S A s.heap H locs → lv_has ls 12 [(3, .int x3), (5, .int z5), (6, .long z6)] → fd_X4_lies_L128 b y x3 z5 z6 = some (rr) → W p l e ({ frames := 3, cells := 0, slots := 0, locals := 69 } : Room) s m (List.toArray [.ref o_b, .int x1, .int x2, .int x3]) below meth c H locs 0 0 (MQ below ((ob_Ql (dC, dI) rr (ob_w4 o_b a_b cI b ++ ob_w1 (a_b 2) a_y cI y)) A) (List.toArray [.ref o_b, .int x1, .int x2, .int x3]) s 0 0 A) (F0 m 128 ls []) := by
    intro  H locs z5 z6 ls hP hD hS hl hd
    rw [fd_X4_lies_L128] at hd
    refine lv_bipush (v := 10) hx hb dX4_lies_128 (by decide) ?_
    refine lv_iload hx hb dX4_lies_130 (lv_at hl 1 rfl) ?_
    obtain ⟨r_15, hc_132, hd⟩ := ob_s1 hd
    refine ob_Sl (isC := []) (isR := [0, 1, 2, 3, 4, 5, 6, 7]) (is2 := [0, 1, 2, 3, 4, 5, 6, 7]) (wc := ([] : va_W)) (wr := (List.filterMap (fun i => (ob_w4 o_b a_b cI b ++ ob_w1 (a_b 2) a_y cI y)[i]?) [0, 1, 2, 3, 4, 5, 6, 7])) (w1 := ([] : va_W)) (w2 := (ob_w4 o_b a_b cI b ++ ob_w1 (a_b 2) a_y cI y)) (As := [.int 10, .int z5]) (rest := []) ⟨hx, hb, hml, hown, hts⟩ (mt_X4_power l dC dI cI cZ cR cW xs _ 10 z5 r_15 hc_132) (va_cwS 2 hts gX4_lies_X4_power rfl rfl rfl (by decide +kernel) ⟨Nat.le_of_ble_eq_true rfl, Nat.le_of_ble_eq_true rfl⟩) hK hE hP hD hS hA ⟨rfl, rfl, rfl, rfl, rfl, rfl, rfl⟩ hl rfl rfl (Nat.le_of_ble_eq_true rfl) ⟨Nat.le_of_ble_eq_true rfl, Nat.le_of_ble_eq_true rfl⟩ dX4_lies_132 (fun H locs hP hD hS => ?_)
    refine W.widen (k := 0) (n := 0) (Nat.le_refl _) (Nat.le_refl _) ?_
    refine lv_lstore (lv' := [(8, .long r_15), (3, .int x3), (5, .int z5), (6, .long z6)]) hx hb dX4_lies_135 hl (by decide) rfl (fun ls hl => ?_)
    refine lv_lload hx hb dX4_lies_137 (lv_at hl 0 rfl) ?_
    refine lv_lload hx hb dX4_lies_139 (lv_at hl 3 rfl) ?_
    obtain ⟨r_16, hc_141, hd⟩ := ob_s1 hd
    refine ob_Sl (isC := []) (isR := [0, 1, 2, 3, 4, 5, 6, 7]) (is2 := [0, 1, 2, 3, 4, 5, 6, 7]) (wc := ([] : va_W)) (wr := (List.filterMap (fun i => (ob_w4 o_b a_b cI b ++ ob_w1 (a_b 2) a_y cI y)[i]?) [0, 1, 2, 3, 4, 5, 6, 7])) (w1 := ([] : va_W)) (w2 := (ob_w4 o_b a_b cI b ++ ob_w1 (a_b 2) a_y cI y)) (As := [.long r_15, .long z6]) (rest := []) ⟨hx, hb, hml, hown, hts⟩ (mt_X4_commonDivisor l dC dI cI cZ cR cW xs _ r_15 z6 r_16 hc_141) (va_cwS 2 hts gX4_lies_X4_commonDivisor rfl rfl rfl (by decide +kernel) ⟨Nat.le_of_ble_eq_true rfl, Nat.le_of_ble_eq_true rfl⟩) hK hE hP hD hS hA ⟨rfl, rfl, rfl, rfl, rfl, rfl, rfl⟩ hl rfl rfl (Nat.le_of_ble_eq_true rfl) ⟨Nat.le_of_ble_eq_true rfl, Nat.le_of_ble_eq_true rfl⟩ dX4_lies_141 (fun H locs hP hD hS => ?_)
    refine W.widen (k := 0) (n := 0) (Nat.le_refl _) (Nat.le_refl _) ?_
    refine lv_lstore (lv' := [(10, .long r_16), (8, .long r_15), (3, .int x3), (5, .int z5), (6, .long z6)]) hx hb dX4_lies_144 hl (by decide) rfl (fun ls hl => ?_)
    refine lv_lload hx hb dX4_lies_146 (lv_at hl 0 rfl) ?_
    refine lv_lconst (v := 1) hx hb dX4_lies_148 (by decide) ?_
    refine W.lcmp hx hb dX4_lies_149 ?_
    refine lv_if_ge (tgt := 157) hx hb dX4_lies_150 (by decide) (fun c_150 => ?_) (fun c_150 => ?_)
    · replace hd := ob_t c_150 hd
      refine lv_iload_n hx hb dX4_lies_157 rfl (lv_at hl 2 rfl) ?_
      refine lv_if_ne (tgt := 169) hx hb dX4_lies_158 (by decide) (fun c_158 => ?_) (fun c_158 => ?_)
      · replace hd := ob_f c_158 hd
        refine lv_lload hx hb dX4_lies_169 (lv_at hl 1 rfl) ?_
        refine lv_lload hx hb dX4_lies_171 (lv_at hl 0 rfl) ?_
        obtain ⟨h0_173, hd⟩ := ob_nn hd
        refine lv_ldiv hx hb dX4_lies_173 h0_173 ?_
        have e1 := Option.some.inj hd
        subst e1
        exact ob_lret hx hb hr hlocks hP hD hS dX4_lies_174
      · replace hd := ob_t c_158 hd
        refine lv_lload hx hb dX4_lies_161 (lv_at hl 4 rfl) ?_
        refine lv_lload hx hb dX4_lies_163 (lv_at hl 0 rfl) ?_
        obtain ⟨h0_165, hd⟩ := ob_nn hd
        refine lv_ldiv hx hb dX4_lies_165 h0_165 ?_
        refine lv_goto (tgt := 174) hx hb dX4_lies_166 (by decide) ?_
        have e1 := Option.some.inj hd
        subst e1
        exact ob_lret hx hb hr hlocks hP hD hS dX4_lies_174
    · replace hd := ob_f c_150 hd
      refine lv_ldc2 hx hb hown kw0 dX4_lies_153 ?_
      have e1 := Option.some.inj hd
      subst e1
      exact ob_lret hx hb hr hlocks hP hD hS dX4_lies_156
  have L61 : ∀  (fu : Nat), ∀ (H : Heap) (locs : List Loc)  (z4 : Int32) (z5 : Int32) (z6 : Int64) (z8 : Int32) (ls : Array Slot), va_P (dC, dI) vwCl (ob_w4 o_b a_b cI b ++ ob_w1 (a_b 2) a_y cI y) H → va_D A (ob_w4 o_b a_b cI b ++ ob_w1 (a_b 2) a_y cI y) → va_S A s.heap H locs → lv_has ls 12 [(0, .ref o_b), (1, .int x1), (2, .int x2), (3, .int x3), (4, .int z4), (5, .int z5), (6, .long z6), (8, .int z8)] → fd_X4_lies_L61 fu b y x1 x2 x3 z4 z5 z6 z8 = some (rr) → W p l e ({ frames := 3, cells := 0, slots := 0, locals := 69 } : Room) s m (List.toArray [.ref o_b, .int x1, .int x2, .int x3]) below meth c H locs 0 0 (MQ below ((ob_Ql (dC, dI) rr (ob_w4 o_b a_b cI b ++ ob_w1 (a_b 2) a_y cI y)) A) (List.toArray [.ref o_b, .int x1, .int x2, .int x3]) s 0 0 A) (F0 m 61 ls []) := by
    intro  fu
    induction fu with
    | zero =>
      intro H locs z4 z5 z6 z8 ls hP hD hS hl hd
      rw [fd_X4_lies_L61] at hd
      cases hd
    | succ fu ih =>
      intro H locs z4 z5 z6 z8 ls hP hD hS hl hd
      rw [fd_X4_lies_L61] at hd
      refine lv_iload hx hb dX4_lies_61 (lv_at hl 7 rfl) ?_
      refine lv_iload hx hb dX4_lies_63 (lv_at hl 4 rfl) ?_
      refine lv_icmp_gt (tgt := 128) hx hb dX4_lies_65 (by decide) (fun c_65 => ?_) (fun c_65 => ?_)
      · replace hd := ob_t c_65 hd
        exact L128   _ _ z5 z6 _ hP hD hS (lv_sub hl [3, 5, 6] rfl) hd
      · replace hd := ob_f c_65 hd
        refine lv_iload hx hb dX4_lies_68 (lv_at hl 7 rfl) ?_
        refine lv_iload hx hb dX4_lies_70 (lv_at hl 4 rfl) ?_
        refine lv_iand hx hb dX4_lies_72 ?_
        refine lv_iload hx hb dX4_lies_73 (lv_at hl 7 rfl) ?_
        refine lv_icmp_ne (tgt := 122) hx hb dX4_lies_75 (by decide) (fun c_75 => ?_) (fun c_75 => ?_)
        · replace hd := ob_f c_75 hd
          obtain ⟨x_7, ex_7⟩ : ∃ z : Int32, z = z8 + 1 := ⟨_, rfl⟩
          replace hd := ob_lx ex_7 hd
          refine lv_iinc (v := x_7) (lv' := [(8, .int x_7), (0, .ref o_b), (1, .int x1), (2, .int x2), (3, .int x3), (4, .int z4), (5, .int z5), (6, .long z6)]) hx hb dX4_lies_122 hl (k := 7) rfl (by rw [ex_7]; rfl) (by decide) rfl (fun ls hl => ?_)
          clear ex_7
          refine lv_goto (tgt := 61) hx hb dX4_lies_125 (by decide) ?_
          exact ih _ _ z4 z5 z6 x_7 _ hP hD hS (lv_sub hl [1, 2, 3, 4, 5, 6, 7, 0] rfl) hd
        · replace hd := ob_t c_75 hd
          refine lv_aload_n hx hb dX4_lies_78 rfl (lv_at hl 0 rfl) ?_
          refine va_get (D := (dC, dI)) (ci := 4) (v := .ref (a_b 2)) (C := RX4) (T := TX4) (N := 10) hx hb hts hi_X4 hown hK hP 0 rfl rfl 2 (by decide) kw1 (fun _ h9 => h9) rfl dX4_lies_79 ?_
          refine lv_iload hx hb dX4_lies_82 (lv_at hl 7 rfl) ?_
          obtain ⟨r_8, hc_84, hd⟩ := ob_s1 hd
          refine ob_Vi (isC := [2, 3, 4, 5, 6, 7]) (isR := [0, 1]) (is2 := [0, 1, 2, 3, 4, 5, 6, 7]) (wc := (ob_w1 (a_b 2) a_y cI y)) (wr := (List.filterMap (fun i => (ob_w4 o_b a_b cI b ++ ob_w1 (a_b 2) a_y cI y)[i]?) [0, 1])) (w1 := (ob_w1 (a_b 2) a_y cI y)) (w2 := (ob_w4 o_b a_b cI b ++ ob_w1 (a_b 2) a_y cI y)) (b := (a_b 2)) (As := [.int z8]) (rest := []) ⟨hx, hb, hml, hown, hts⟩ (mt_X1_placeNext l dC dI cI cZ cR cW xs _ ((a_b 2)) a_y y z8 r_8 hc_84) (cwV 1 hts gX4_lies_X1_placeNext rfl rfl rfl (by decide +kernel) ⟨Nat.le_of_ble_eq_true rfl, Nat.le_of_ble_eq_true rfl⟩) hK hE hP hD hS hA ⟨rfl, rfl, rfl, rfl, rfl, rfl, rfl⟩ 1 0 rfl rfl rfl hl rfl rfl (Nat.le_of_ble_eq_true rfl) ⟨Nat.le_of_ble_eq_true rfl, Nat.le_of_ble_eq_true rfl⟩ dX4_lies_84 (fun H locs hP hD hS => ?_)
          refine W.widen (k := 0) (n := 0) (Nat.le_refl _) (Nat.le_refl _) ?_
          refine lv_iload_n hx hb dX4_lies_87 rfl (lv_at hl 1 rfl) ?_
          refine lv_icmp_ne (tgt := 122) hx hb dX4_lies_88 (by decide) (fun c_88 => ?_) (fun c_88 => ?_)
          · replace hd := ob_f c_88 hd
            obtain ⟨x_9, ex_9⟩ : ∃ z : Int32, z = z8 + 1 := ⟨_, rfl⟩
            replace hd := ob_lx ex_9 hd
            refine lv_iinc (v := x_9) (lv' := [(8, .int x_9), (0, .ref o_b), (1, .int x1), (2, .int x2), (3, .int x3), (4, .int z4), (5, .int z5), (6, .long z6)]) hx hb dX4_lies_122 hl (k := 7) rfl (by rw [ex_9]; rfl) (by decide) rfl (fun ls hl => ?_)
            clear ex_9
            refine lv_goto (tgt := 61) hx hb dX4_lies_125 (by decide) ?_
            exact ih _ _ z4 z5 z6 x_9 _ hP hD hS (lv_sub hl [1, 2, 3, 4, 5, 6, 7, 0] rfl) hd
          · replace hd := ob_t c_88 hd
            refine lv_iload hx hb dX4_lies_91 (lv_at hl 7 rfl) ?_
            obtain ⟨r_10, hc_93, hd⟩ := ob_s1 hd
            refine ob_Si (isC := []) (isR := [0, 1, 2, 3, 4, 5, 6, 7]) (is2 := [0, 1, 2, 3, 4, 5, 6, 7]) (wc := ([] : va_W)) (wr := (List.filterMap (fun i => (ob_w4 o_b a_b cI b ++ ob_w1 (a_b 2) a_y cI y)[i]?) [0, 1, 2, 3, 4, 5, 6, 7])) (w1 := ([] : va_W)) (w2 := (ob_w4 o_b a_b cI b ++ ob_w1 (a_b 2) a_y cI y)) (As := [.int z8]) (rest := []) ⟨hx, hb, hml, hown, hts⟩ (mt_J6_bitCount_0f7a4 l dC dI cI cZ cR cW xs _ z8 r_10 hc_93) (va_cwS 1 hts gX4_lies_J6_bitCount_0f7a4 rfl rfl rfl (by decide +kernel) ⟨Nat.le_of_ble_eq_true rfl, Nat.le_of_ble_eq_true rfl⟩) hK hE hP hD hS hA ⟨rfl, rfl, rfl, rfl, rfl, rfl, rfl⟩ hl rfl rfl (Nat.le_of_ble_eq_true rfl) ⟨Nat.le_of_ble_eq_true rfl, Nat.le_of_ble_eq_true rfl⟩ dX4_lies_93 (fun H locs hP hD hS => ?_)
            refine W.widen (k := 0) (n := 0) (Nat.le_refl _) (Nat.le_refl _) ?_
            refine lv_istore (lv' := [(9, .int r_10), (0, .ref o_b), (1, .int x1), (2, .int x2), (3, .int x3), (4, .int z4), (5, .int z5), (6, .long z6), (8, .int z8)]) hx hb dX4_lies_96 hl (by decide) rfl (fun ls hl => ?_)
            refine lv_lload hx hb dX4_lies_98 (lv_at hl 7 rfl) ?_
            refine lv_iload_n hx hb dX4_lies_100 rfl (lv_at hl 3 rfl) ?_
            refine lv_iload hx hb dX4_lies_101 (lv_at hl 0 rfl) ?_
            obtain ⟨r_11, hc_103, hd⟩ := ob_s1 hd
            refine ob_Sl (isC := []) (isR := [0, 1, 2, 3, 4, 5, 6, 7]) (is2 := [0, 1, 2, 3, 4, 5, 6, 7]) (wc := ([] : va_W)) (wr := (List.filterMap (fun i => (ob_w4 o_b a_b cI b ++ ob_w1 (a_b 2) a_y cI y)[i]?) [0, 1, 2, 3, 4, 5, 6, 7])) (w1 := ([] : va_W)) (w2 := (ob_w4 o_b a_b cI b ++ ob_w1 (a_b 2) a_y cI y)) (As := [.int x2, .int r_10]) (rest := [.long z6]) ⟨hx, hb, hml, hown, hts⟩ (mt_X4_power l dC dI cI cZ cR cW xs _ x2 r_10 r_11 hc_103) (va_cwS 2 hts gX4_lies_X4_power rfl rfl rfl (by decide +kernel) ⟨Nat.le_of_ble_eq_true rfl, Nat.le_of_ble_eq_true rfl⟩) hK hE hP hD hS hA ⟨rfl, rfl, rfl, rfl, rfl, rfl, rfl⟩ hl rfl rfl (Nat.le_of_ble_eq_true rfl) ⟨Nat.le_of_ble_eq_true rfl, Nat.le_of_ble_eq_true rfl⟩ dX4_lies_103 (fun H locs hP hD hS => ?_)
            refine W.widen (k := 0) (n := 0) (Nat.le_refl _) (Nat.le_refl _) ?_
            refine lv_bipush (v := 10) hx hb dX4_lies_106 (by decide) ?_
            refine lv_iload_n hx hb dX4_lies_108 rfl (lv_at hl 3 rfl) ?_
            refine lv_isub hx hb dX4_lies_109 ?_
            refine lv_iload hx hb dX4_lies_110 (lv_at hl 6 rfl) ?_
            refine lv_iload hx hb dX4_lies_112 (lv_at hl 0 rfl) ?_
            refine lv_isub hx hb dX4_lies_114 ?_
            obtain ⟨r_12, hc_115, hd⟩ := ob_s1 hd
            refine ob_Sl (isC := []) (isR := [0, 1, 2, 3, 4, 5, 6, 7]) (is2 := [0, 1, 2, 3, 4, 5, 6, 7]) (wc := ([] : va_W)) (wr := (List.filterMap (fun i => (ob_w4 o_b a_b cI b ++ ob_w1 (a_b 2) a_y cI y)[i]?) [0, 1, 2, 3, 4, 5, 6, 7])) (w1 := ([] : va_W)) (w2 := (ob_w4 o_b a_b cI b ++ ob_w1 (a_b 2) a_y cI y)) (As := [.int (10 - x2), .int (z5 - r_10)]) (rest := [.long r_11, .long z6]) ⟨hx, hb, hml, hown, hts⟩ (mt_X4_power l dC dI cI cZ cR cW xs _ (10 - x2) (z5 - r_10) r_12 hc_115) (va_cwS 2 hts gX4_lies_X4_power rfl rfl rfl (by decide +kernel) ⟨Nat.le_of_ble_eq_true rfl, Nat.le_of_ble_eq_true rfl⟩) hK hE hP hD hS hA ⟨rfl, rfl, rfl, rfl, rfl, rfl, rfl⟩ hl rfl rfl (Nat.le_of_ble_eq_true rfl) ⟨Nat.le_of_ble_eq_true rfl, Nat.le_of_ble_eq_true rfl⟩ dX4_lies_115 (fun H locs hP hD hS => ?_)
            refine W.widen (k := 0) (n := 0) (Nat.le_refl _) (Nat.le_refl _) ?_
            refine lv_lmul hx hb dX4_lies_118 ?_
            refine lv_ladd hx hb dX4_lies_119 ?_
            refine lv_topl (fun x_13 ex_13 => ?_)
            replace hd := ob_lx ex_13 hd
            clear ex_13
            refine lv_lstore (lv' := [(6, .long x_13), (9, .int r_10), (0, .ref o_b), (1, .int x1), (2, .int x2), (3, .int x3), (4, .int z4), (5, .int z5), (8, .int z8)]) hx hb dX4_lies_120 hl (by decide) rfl (fun ls hl => ?_)
            obtain ⟨x_14, ex_14⟩ : ∃ z : Int32, z = z8 + 1 := ⟨_, rfl⟩
            replace hd := ob_lx ex_14 hd
            refine lv_iinc (v := x_14) (lv' := [(8, .int x_14), (6, .long x_13), (9, .int r_10), (0, .ref o_b), (1, .int x1), (2, .int x2), (3, .int x3), (4, .int z4), (5, .int z5)]) hx hb dX4_lies_122 hl (k := 8) rfl (by rw [ex_14]; rfl) (by decide) rfl (fun ls hl => ?_)
            clear ex_14
            refine lv_goto (tgt := 61) hx hb dX4_lies_125 (by decide) ?_
            exact ih _ _ z4 z5 x_13 x_14 _ hP hD hS (lv_sub hl [3, 4, 5, 6, 7, 8, 1, 0] rfl) hd
  refine lv_aload_n hx hb dX4_lies_0 rfl (lv_at hl 0 rfl) ?_
  obtain ⟨r_1, hc_1, hd⟩ := ob_s1 hd
  refine ob_Vi (isC := [0, 1, 2, 3, 4, 5, 6, 7]) (isR := []) (is2 := [0, 1, 2, 3, 4, 5, 6, 7]) (wc := (ob_w4 o_b a_b cI b ++ ob_w1 (a_b 2) a_y cI y)) (wr := ([] : va_W)) (w1 := (ob_w4 o_b a_b cI b ++ ob_w1 (a_b 2) a_y cI y)) (w2 := (ob_w4 o_b a_b cI b ++ ob_w1 (a_b 2) a_y cI y)) (b := o_b) (As := []) (rest := []) ⟨hx, hb, hml, hown, hts⟩ (mt_X4_noRoute l dC dI cI cZ cR cW xs _ o_b a_b a_y b y r_1 hc_1) (cwV 0 hts gX4_lies_X4_noRoute rfl rfl rfl (by decide +kernel) ⟨Nat.le_of_ble_eq_true rfl, Nat.le_of_ble_eq_true rfl⟩) hK hE hP hD hS hA ⟨rfl, rfl, rfl, rfl, rfl, rfl, rfl⟩ 4 0 rfl rfl rfl hl rfl rfl (Nat.le_of_ble_eq_true rfl) ⟨Nat.le_of_ble_eq_true rfl, Nat.le_of_ble_eq_true rfl⟩ dX4_lies_1 (fun H locs hP hD hS => ?_)
  refine W.widen (k := 0) (n := 0) (Nat.le_refl _) (Nat.le_refl _) ?_
  refine lv_if_eq (tgt := 11) hx hb dX4_lies_4 (by decide) (fun c_4 => ?_) (fun c_4 => ?_)
  · replace hd := ob_t c_4 hd
    refine lv_iload_n hx hb dX4_lies_11 rfl (lv_at hl 1 rfl) ?_
    obtain ⟨r_2, hc_12, hd⟩ := ob_s1 hd
    refine ob_Si (isC := []) (isR := [0, 1, 2, 3, 4, 5, 6, 7]) (is2 := [0, 1, 2, 3, 4, 5, 6, 7]) (wc := ([] : va_W)) (wr := (List.filterMap (fun i => (ob_w4 o_b a_b cI b ++ ob_w1 (a_b 2) a_y cI y)[i]?) [0, 1, 2, 3, 4, 5, 6, 7])) (w1 := ([] : va_W)) (w2 := (ob_w4 o_b a_b cI b ++ ob_w1 (a_b 2) a_y cI y)) (As := [.int x1]) (rest := []) ⟨hx, hb, hml, hown, hts⟩ (mt_X4_isPlace l dC dI cI cZ cR cW xs _ x1 r_2 hc_12) (va_cwS 1 hts gX4_lies_X4_isPlace rfl rfl rfl (by decide +kernel) ⟨Nat.le_of_ble_eq_true rfl, Nat.le_of_ble_eq_true rfl⟩) hK hE hP hD hS hA ⟨rfl, rfl, rfl, rfl, rfl, rfl, rfl⟩ hl rfl rfl (Nat.le_of_ble_eq_true rfl) ⟨Nat.le_of_ble_eq_true rfl, Nat.le_of_ble_eq_true rfl⟩ dX4_lies_12 (fun H locs hP hD hS => ?_)
    refine W.widen (k := 0) (n := 0) (Nat.le_refl _) (Nat.le_refl _) ?_
    refine lv_if_eq (tgt := 35) hx hb dX4_lies_15 (by decide) (fun c_15 => ?_) (fun c_15 => ?_)
    · replace hd := ob_t c_15 hd
      refine lv_ldc2 hx hb hown kw0 dX4_lies_35 ?_
      have e1 := Option.some.inj hd
      subst e1
      exact ob_lret hx hb hr hlocks hP hD hS dX4_lies_38
    · replace hd := ob_f c_15 hd
      refine lv_iload_n hx hb dX4_lies_18 rfl (lv_at hl 2 rfl) ?_
      refine lv_iconst (v := 0) hx hb dX4_lies_19 (by decide) ?_
      refine lv_bipush (v := 10) hx hb dX4_lies_20 (by decide) ?_
      obtain ⟨r_3, hc_22, hd⟩ := ob_s1 hd
      refine ob_Si (isC := []) (isR := [0, 1, 2, 3, 4, 5, 6, 7]) (is2 := [0, 1, 2, 3, 4, 5, 6, 7]) (wc := ([] : va_W)) (wr := (List.filterMap (fun i => (ob_w4 o_b a_b cI b ++ ob_w1 (a_b 2) a_y cI y)[i]?) [0, 1, 2, 3, 4, 5, 6, 7])) (w1 := ([] : va_W)) (w2 := (ob_w4 o_b a_b cI b ++ ob_w1 (a_b 2) a_y cI y)) (As := [.int x2, .int 0, .int 10]) (rest := []) ⟨hx, hb, hml, hown, hts⟩ (mt_X4_isWithin l dC dI cI cZ cR cW xs _ x2 0 10 r_3 hc_22) (va_cwS 3 hts gX4_lies_X4_isWithin rfl rfl rfl (by decide +kernel) ⟨Nat.le_of_ble_eq_true rfl, Nat.le_of_ble_eq_true rfl⟩) hK hE hP hD hS hA ⟨rfl, rfl, rfl, rfl, rfl, rfl, rfl⟩ hl rfl rfl (Nat.le_of_ble_eq_true rfl) ⟨Nat.le_of_ble_eq_true rfl, Nat.le_of_ble_eq_true rfl⟩ dX4_lies_22 (fun H locs hP hD hS => ?_)
      refine W.widen (k := 0) (n := 0) (Nat.le_refl _) (Nat.le_refl _) ?_
      refine lv_if_eq (tgt := 35) hx hb dX4_lies_25 (by decide) (fun c_25 => ?_) (fun c_25 => ?_)
      · replace hd := ob_t c_25 hd
        refine lv_ldc2 hx hb hown kw0 dX4_lies_35 ?_
        have e1 := Option.some.inj hd
        subst e1
        exact ob_lret hx hb hr hlocks hP hD hS dX4_lies_38
      · replace hd := ob_f c_25 hd
        refine lv_iload_n hx hb dX4_lies_28 rfl (lv_at hl 3 rfl) ?_
        obtain ⟨r_4, hc_29, hd⟩ := ob_s1 hd
        refine ob_Si (isC := []) (isR := [0, 1, 2, 3, 4, 5, 6, 7]) (is2 := [0, 1, 2, 3, 4, 5, 6, 7]) (wc := ([] : va_W)) (wr := (List.filterMap (fun i => (ob_w4 o_b a_b cI b ++ ob_w1 (a_b 2) a_y cI y)[i]?) [0, 1, 2, 3, 4, 5, 6, 7])) (w1 := ([] : va_W)) (w2 := (ob_w4 o_b a_b cI b ++ ob_w1 (a_b 2) a_y cI y)) (As := [.int x3]) (rest := []) ⟨hx, hb, hml, hown, hts⟩ (mt_X4_isEither l dC dI cI cZ cR cW xs _ x3 r_4 hc_29) (va_cwS 1 hts gX4_lies_X4_isEither rfl rfl rfl (by decide +kernel) ⟨Nat.le_of_ble_eq_true rfl, Nat.le_of_ble_eq_true rfl⟩) hK hE hP hD hS hA ⟨rfl, rfl, rfl, rfl, rfl, rfl, rfl⟩ hl rfl rfl (Nat.le_of_ble_eq_true rfl) ⟨Nat.le_of_ble_eq_true rfl, Nat.le_of_ble_eq_true rfl⟩ dX4_lies_29 (fun H locs hP hD hS => ?_)
        refine W.widen (k := 0) (n := 0) (Nat.le_refl _) (Nat.le_refl _) ?_
        refine lv_if_ne (tgt := 39) hx hb dX4_lies_32 (by decide) (fun c_32 => ?_) (fun c_32 => ?_)
        · replace hd := ob_f c_32 hd
          refine lv_aload_n hx hb dX4_lies_39 rfl (lv_at hl 0 rfl) ?_
          refine va_get (D := (dC, dI)) (ci := 4) (v := .ref (a_b 2)) (C := RX4) (T := TX4) (N := 10) hx hb hts hi_X4 hown hK hP 0 rfl rfl 2 (by decide) kw1 (fun _ h9 => h9) rfl dX4_lies_40 ?_
          obtain ⟨r_5, hc_43, hd⟩ := ob_s1 hd
          refine ob_Vi (isC := [2, 3, 4, 5, 6, 7]) (isR := [0, 1]) (is2 := [0, 1, 2, 3, 4, 5, 6, 7]) (wc := (ob_w1 (a_b 2) a_y cI y)) (wr := (List.filterMap (fun i => (ob_w4 o_b a_b cI b ++ ob_w1 (a_b 2) a_y cI y)[i]?) [0, 1])) (w1 := (ob_w1 (a_b 2) a_y cI y)) (w2 := (ob_w4 o_b a_b cI b ++ ob_w1 (a_b 2) a_y cI y)) (b := (a_b 2)) (As := []) (rest := []) ⟨hx, hb, hml, hown, hts⟩ (mt_X1_openBits l dC dI cI cZ cR cW xs _ ((a_b 2)) a_y y r_5 hc_43) (cwV 0 hts gX4_lies_X1_openBits rfl rfl rfl (by decide +kernel) ⟨Nat.le_of_ble_eq_true rfl, Nat.le_of_ble_eq_true rfl⟩) hK hE hP hD hS hA ⟨rfl, rfl, rfl, rfl, rfl, rfl, rfl⟩ 1 0 rfl rfl rfl hl rfl rfl (Nat.le_of_ble_eq_true rfl) ⟨Nat.le_of_ble_eq_true rfl, Nat.le_of_ble_eq_true rfl⟩ dX4_lies_43 (fun H locs hP hD hS => ?_)
          refine W.widen (k := 0) (n := 0) (Nat.le_refl _) (Nat.le_refl _) ?_
          refine lv_istore (lv' := [(4, .int r_5), (0, .ref o_b), (1, .int x1), (2, .int x2), (3, .int x3)]) hx hb dX4_lies_46 hl (by decide) rfl (fun ls hl => ?_)
          refine lv_iload hx hb dX4_lies_48 (lv_at hl 0 rfl) ?_
          obtain ⟨r_6, hc_50, hd⟩ := ob_s1 hd
          refine ob_Si (isC := []) (isR := [0, 1, 2, 3, 4, 5, 6, 7]) (is2 := [0, 1, 2, 3, 4, 5, 6, 7]) (wc := ([] : va_W)) (wr := (List.filterMap (fun i => (ob_w4 o_b a_b cI b ++ ob_w1 (a_b 2) a_y cI y)[i]?) [0, 1, 2, 3, 4, 5, 6, 7])) (w1 := ([] : va_W)) (w2 := (ob_w4 o_b a_b cI b ++ ob_w1 (a_b 2) a_y cI y)) (As := [.int r_5]) (rest := []) ⟨hx, hb, hml, hown, hts⟩ (mt_J6_bitCount_0f7a4 l dC dI cI cZ cR cW xs _ r_5 r_6 hc_50) (va_cwS 1 hts gX4_lies_J6_bitCount_0f7a4 rfl rfl rfl (by decide +kernel) ⟨Nat.le_of_ble_eq_true rfl, Nat.le_of_ble_eq_true rfl⟩) hK hE hP hD hS hA ⟨rfl, rfl, rfl, rfl, rfl, rfl, rfl⟩ hl rfl rfl (Nat.le_of_ble_eq_true rfl) ⟨Nat.le_of_ble_eq_true rfl, Nat.le_of_ble_eq_true rfl⟩ dX4_lies_50 (fun H locs hP hD hS => ?_)
          refine W.widen (k := 0) (n := 0) (Nat.le_refl _) (Nat.le_refl _) ?_
          refine lv_istore (lv' := [(5, .int r_6), (4, .int r_5), (0, .ref o_b), (1, .int x1), (2, .int x2), (3, .int x3)]) hx hb dX4_lies_53 hl (by decide) rfl (fun ls hl => ?_)
          refine lv_lconst (v := 0) hx hb dX4_lies_55 (by decide) ?_
          refine lv_lstore (lv' := [(6, .long 0), (5, .int r_6), (4, .int r_5), (0, .ref o_b), (1, .int x1), (2, .int x2), (3, .int x3)]) hx hb dX4_lies_56 hl (by decide) rfl (fun ls hl => ?_)
          refine lv_iconst (v := 0) hx hb dX4_lies_58 (by decide) ?_
          refine lv_istore (lv' := [(8, .int 0), (6, .long 0), (5, .int r_6), (4, .int r_5), (0, .ref o_b), (1, .int x1), (2, .int x2), (3, .int x3)]) hx hb dX4_lies_59 hl (by decide) rfl (fun ls hl => ?_)
          exact L61  2000 _ _ r_5 r_6 0 0 _ hP hD hS (lv_sub hl [4, 5, 6, 7, 3, 2, 1, 0] rfl) hd
        · replace hd := ob_t c_32 hd
          refine lv_ldc2 hx hb hown kw0 dX4_lies_35 ?_
          have e1 := Option.some.inj hd
          subst e1
          exact ob_lret hx hb hr hlocks hP hD hS dX4_lies_38
  · replace hd := ob_f c_4 hd
    refine lv_ldc2 hx hb hown kw2 dX4_lies_7 ?_
    have e1 := Option.some.inj hd
    subst e1
    exact ob_lret hx hb hr hlocks hP hD hS dX4_lies_10
