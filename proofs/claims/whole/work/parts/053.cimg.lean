def fd_X4_imgOld  (b : ob_B) (y : ob_B) (w : ob_B) (x1 : Int32) : Option (Int32 × ob_B) := ob_b1 (fd_X4_isWithin x1 0 1) (fun r_1 => if r_1 = 0 then (some ((-1000001), w)) else (ob_b1 (fd_X4_noRoute b y) (fun r_2 => if r_2 = 0 then (if x1 < 0 ∨ 2 ≤ Int32.toNatClampNeg x1 then none else (if x1 < 0 ∨ 2 ≤ Int32.toNatClampNeg x1 then none else (ob_b1 (fd_X1_become w y) (fun w_3 => some (1, w_3))))) else (some ((-1000002), w)))))
set_option maxHeartbeats 4000000 in
set_option maxRecDepth 100000 in
theorem mt_X4_imgOld (l : Launch) (dC : Nat → ClassId) (dI : Nat → Nat → Nat) (cI cZ cR cW : ClassId) (xs : Nat → Nat) (sz : Nat) (o_b : Nat) (a_b : Nat → Nat) (g_i : Nat → Option Nat) (a_y : Nat → Nat) (o_w : Nat) (a_w : Nat → Nat) (b : ob_B) (y : ob_B) (w : ob_B) (x1 : Int32) (hi : ¬ (x1 < 0 ∨ 2 ≤ Int32.toNatClampNeg x1) → g_i (Int32.toNatClampNeg x1) = some o_w) (rr : Int32) (w' : ob_B) (hd : fd_X4_imgOld b y w x1 = some (rr, w')) : ob_M l yX4_image wsX4_image ({ frames := 2, cells := 6, slots := 47, locals := 81 } : Room) (dC, dI) (ob_ty cI cZ cR cW) xs [.ref o_b, .int x1] (ob_w4 o_b a_b cI b ++ ob_wr (a_b 5) cR 2 g_i ++ ob_w1 (a_b 2) a_y cI y ++ ob_w1 o_w a_w cI w) sz (ob_Qi (dC, dI) rr (ob_w4 o_b a_b cI b ++ ob_wr (a_b 5) cR 2 g_i ++ ob_w1 (a_b 2) a_y cI y ++ ob_w1 o_w a_w cI w')) := by
  rw [fd_X4_imgOld] at hd
  refine ob_in (cc := cX4_image) (maxL := 2) (ret := (some .int)) (own := RX4) (by decide) rfl rfl [(0, .ref o_b), (1, .int x1)] rfl (Nat.le_of_ble_eq_true rfl) ?_
  intro p e s m below meth c hx hb hr hml hown hts hlocks hnm hK A hA hE hP hD hS ls hl
  have kw0 := hts (.fieldLink RX4 39 "OathCoach" "images" "[LOathCoach$Route;") (by decide +kernel)
  have kw1 := hts (.fieldLink RX4 25 "OathCoach" "route" "LOathCoach$Route;") (by decide +kernel)
  have kw2 := hts (.constant RX4 137 (-1000002)) (by decide +kernel)
  have kw3 := hts (.constant RX4 62 (-1000001)) (by decide +kernel)
  have hi_X4 : ∀ w ∈ u_ws RX4 TX4 10, w ∈ wsX4_image := by decide +kernel
  refine W.widen (k := 6) (n := 47) (Nat.zero_le _) (Nat.zero_le _) ?_
  refine lv_iload_n hx hb dX4_image_0 rfl (lv_at hl 1 rfl) ?_
  refine lv_iconst (v := 0) hx hb dX4_image_1 (by decide) ?_
  refine lv_iconst (v := 1) hx hb dX4_image_2 (by decide) ?_
  obtain ⟨r_1, hc_3, hd⟩ := ob_s1 hd
  refine ob_Si (isC := []) (isR := [0, 1, 2, 3, 4, 5, 6, 7, 8, 9, 10, 11, 12, 13, 14]) (is2 := [0, 1, 2, 3, 4, 5, 6, 7, 8, 9, 10, 11, 12, 13, 14]) (wc := ([] : va_W)) (wr := (List.filterMap (fun i => (ob_w4 o_b a_b cI b ++ ob_wr (a_b 5) cR 2 g_i ++ ob_w1 (a_b 2) a_y cI y ++ ob_w1 o_w a_w cI w)[i]?) [0, 1, 2, 3, 4, 5, 6, 7, 8, 9, 10, 11, 12, 13, 14])) (w1 := ([] : va_W)) (w2 := (ob_w4 o_b a_b cI b ++ ob_wr (a_b 5) cR 2 g_i ++ ob_w1 (a_b 2) a_y cI y ++ ob_w1 o_w a_w cI w)) (As := [.int x1, .int 0, .int 1]) (rest := []) ⟨hx, hb, hml, hown, hts⟩ (mt_X4_isWithin l dC dI cI cZ cR cW xs _ x1 0 1 r_1 hc_3) (va_cwS 3 hts gX4_image_X4_isWithin rfl rfl rfl (by decide +kernel) ⟨Nat.le_of_ble_eq_true rfl, Nat.le_of_ble_eq_true rfl⟩) hK hE hP hD hS hA ⟨rfl, rfl, rfl, rfl, rfl, rfl, rfl⟩ hl rfl rfl (Nat.le_of_ble_eq_true rfl) ⟨Nat.le_of_ble_eq_true rfl, Nat.le_of_ble_eq_true rfl⟩ dX4_image_3 (fun H locs hP hD hS => ?_)
  refine W.widen (k := 6) (n := 47) (Nat.le_refl _) (Nat.le_refl _) ?_
  refine lv_if_ne (tgt := 12) hx hb dX4_image_6 (by decide) (fun c_6 => ?_) (fun c_6 => ?_)
  · replace hd := ob_f c_6 hd
    refine lv_aload_n hx hb dX4_image_12 rfl (lv_at hl 0 rfl) ?_
    obtain ⟨r_2, hc_13, hd⟩ := ob_s1 hd
    refine ob_Vi (isC := [0, 1, 3, 4, 5, 6, 7, 8]) (isR := [2, 9, 10, 11, 12, 13, 14]) (is2 := [7, 8, 0, 9, 10, 11, 12, 13, 14, 1, 2, 3, 4, 5, 6]) (wc := (ob_w4 o_b a_b cI b ++ ob_w1 (a_b 2) a_y cI y)) (wr := (List.filterMap (fun i => (ob_w4 o_b a_b cI b ++ ob_wr (a_b 5) cR 2 g_i ++ ob_w1 (a_b 2) a_y cI y ++ ob_w1 o_w a_w cI w)[i]?) [2, 9, 10, 11, 12, 13, 14])) (w1 := (ob_w4 o_b a_b cI b ++ ob_w1 (a_b 2) a_y cI y)) (w2 := (ob_w4 o_b a_b cI b ++ ob_wr (a_b 5) cR 2 g_i ++ ob_w1 (a_b 2) a_y cI y ++ ob_w1 o_w a_w cI w)) (b := o_b) (As := []) (rest := []) ⟨hx, hb, hml, hown, hts⟩ (mt_X4_noRoute l dC dI cI cZ cR cW xs _ o_b a_b a_y b y r_2 hc_13) (cwV 0 hts gX4_image_X4_noRoute rfl rfl rfl (by decide +kernel) ⟨Nat.le_of_ble_eq_true rfl, Nat.le_of_ble_eq_true rfl⟩) hK hE hP hD hS hA ⟨rfl, rfl, rfl, rfl, rfl, rfl, rfl⟩ 4 0 rfl rfl rfl hl rfl rfl (Nat.le_of_ble_eq_true rfl) ⟨Nat.le_of_ble_eq_true rfl, Nat.le_of_ble_eq_true rfl⟩ dX4_image_13 (fun H locs hP hD hS => ?_)
    refine W.widen (k := 6) (n := 47) (Nat.le_refl _) (Nat.le_refl _) ?_
    refine lv_if_eq (tgt := 22) hx hb dX4_image_16 (by decide) (fun c_16 => ?_) (fun c_16 => ?_)
    · replace hd := ob_t c_16 hd
      refine lv_aload_n hx hb dX4_image_22 rfl (lv_at hl 0 rfl) ?_
      refine va_get (D := (dC, dI)) (ci := 4) (v := .ref (a_b 5)) (C := RX4) (T := TX4) (N := 10) hx hb hts hi_X4 hown hK hP 0 rfl rfl 5 (by decide) kw0 (fun _ h9 => h9) rfl dX4_image_23 ?_
      refine lv_iload_n hx hb dX4_image_26 rfl (lv_at hl 1 rfl) ?_
      obtain ⟨h1_27, hd⟩ := ob_nn hd
      refine va_aldq hx hb hK hP 2 2 rfl rfl h1_27 dX4_image_27 ?_
      refine ob_rf (hi h1_27) ?_
      refine lv_ifnonnull (tgt := 44) hx hb dX4_image_28 (by decide) ?_
      refine lv_aload_n hx hb dX4_image_44 rfl (lv_at hl 0 rfl) ?_
      refine va_get (D := (dC, dI)) (ci := 4) (v := .ref (a_b 5)) (C := RX4) (T := TX4) (N := 10) hx hb hts hi_X4 hown hK hP 0 rfl rfl 5 (by decide) kw0 (fun _ h9 => h9) rfl dX4_image_45 ?_
      refine lv_iload_n hx hb dX4_image_48 rfl (lv_at hl 1 rfl) ?_
      obtain ⟨h1_49, hd⟩ := ob_nn hd
      refine va_aldq hx hb hK hP 2 2 rfl rfl h1_49 dX4_image_49 ?_
      refine ob_rf (hi h1_49) ?_
      refine lv_aload_n hx hb dX4_image_50 rfl (lv_at hl 0 rfl) ?_
      refine va_get (D := (dC, dI)) (ci := 4) (v := .ref (a_b 2)) (C := RX4) (T := TX4) (N := 10) hx hb hts hi_X4 hown hK hP 0 rfl rfl 2 (by decide) kw1 (fun _ h9 => h9) rfl dX4_image_51 ?_
      obtain ⟨w_3, hc_54, hd⟩ := ob_s1 hd
      refine ob_Vv (isC := [9, 10, 11, 12, 13, 14, 3, 4, 5, 6, 7, 8]) (isR := [0, 1, 2]) (is2 := [0, 1, 2, 9, 10, 11, 12, 13, 14, 3, 4, 5, 6, 7, 8]) (wc := (ob_w1 o_w a_w cI w ++ ob_w1 (a_b 2) a_y cI y)) (wr := (List.filterMap (fun i => (ob_w4 o_b a_b cI b ++ ob_wr (a_b 5) cR 2 g_i ++ ob_w1 (a_b 2) a_y cI y ++ ob_w1 o_w a_w cI w)[i]?) [0, 1, 2])) (w1 := (ob_w1 o_w a_w cI w_3 ++ ob_w1 (a_b 2) a_y cI y)) (w2 := (ob_w4 o_b a_b cI b ++ ob_wr (a_b 5) cR 2 g_i ++ ob_w1 (a_b 2) a_y cI y ++ ob_w1 o_w a_w cI w_3)) (b := o_w) (As := [.ref (a_b 2)]) (rest := []) ⟨hx, hb, hml, hown, hts⟩ (mt_X1_become l dC dI cI cZ cR cW xs _ o_w a_w ((a_b 2)) a_y w y w_3 hc_54) (cwV 1 hts gX4_image_X1_become rfl rfl rfl (by decide +kernel) ⟨Nat.le_of_ble_eq_true rfl, Nat.le_of_ble_eq_true rfl⟩) hK hE hP hD hS hA ⟨rfl, rfl, rfl, rfl, rfl, rfl, rfl⟩ 1 0 rfl rfl rfl hl rfl rfl (Nat.le_of_ble_eq_true rfl) ⟨Nat.le_of_ble_eq_true rfl, Nat.le_of_ble_eq_true rfl⟩ dX4_image_54 (fun H locs hP hD hS => ?_)
      refine W.widen (k := 6) (n := 47) (Nat.le_refl _) (Nat.le_refl _) ?_
      refine lv_iconst (v := 1) hx hb dX4_image_57 (by decide) ?_
      obtain ⟨e1, e2⟩ := ob_pp hd
      subst e1
      subst e2
      exact ob_iret hx hb hr hlocks hP hD hS dX4_image_58
    · replace hd := ob_f c_16 hd
      refine lv_ldc hx hb hown kw2 dX4_image_19 ?_
      obtain ⟨e1, e2⟩ := ob_pp hd
      subst e1
      subst e2
      exact ob_iret hx hb hr hlocks hP hD hS dX4_image_21
  · replace hd := ob_t c_6 hd
    refine lv_ldc hx hb hown kw3 dX4_image_9 ?_
    obtain ⟨e1, e2⟩ := ob_pp hd
    subst e1
    subst e2
    exact ob_iret hx hb hr hlocks hP hD hS dX4_image_11

def fd_X4_imgNew  (b : ob_B) (y : ob_B) (x1 : Int32) : Option (Int32 × ob_B) := ob_b1 (fd_X4_isWithin x1 0 1) (fun r_1 => if r_1 = 0 then (none) else (ob_b1 (fd_X4_noRoute b y) (fun r_2 => if r_2 = 0 then (if x1 < 0 ∨ 2 ≤ Int32.toNatClampNeg x1 then none else (if x1 < 0 ∨ 2 ≤ Int32.toNatClampNeg x1 then none else (if x1 < 0 ∨ 2 ≤ Int32.toNatClampNeg x1 then none else (ob_b1 (fd_X1_become ob_z y) (fun n_3 => some (1, n_3)))))) else (none))))
set_option maxHeartbeats 4000000 in
set_option maxRecDepth 100000 in
theorem mt_X4_imgNew (l : Launch) (dC : Nat → ClassId) (dI : Nat → Nat → Nat) (cI cZ cR cW : ClassId) (xs : Nat → Nat) (sz : Nat) (o_b : Nat) (a_b : Nat → Nat) (g_i : Nat → Option Nat) (a_y : Nat → Nat) (b : ob_B) (y : ob_B) (x1 : Int32) (hi : ¬ (x1 < 0 ∨ 2 ≤ Int32.toNatClampNeg x1) → g_i (Int32.toNatClampNeg x1) = none) (rr : Int32) (n' : ob_B) (hd : fd_X4_imgNew b y x1 = some (rr, n')) : ob_M l yX4_image wsX4_image ({ frames := 2, cells := 6, slots := 47, locals := 81 } : Room) (dC, dI) (ob_ty cI cZ cR cW) xs [.ref o_b, .int x1] (ob_w4 o_b a_b cI b ++ ob_wr (a_b 5) cR 2 g_i ++ ob_w1 (a_b 2) a_y cI y) sz (ob_QiE (dC, dI) (fun (r' : Int32) (u : (Nat → Option Nat) × Nat × (Nat → Nat)) => r' = rr ∧ u.1 = va_up g_i (Int32.toNatClampNeg x1) (some u.2.1)) (fun u => (ob_w4 o_b a_b cI b ++ ob_wr (a_b 5) cR 2 u.1 ++ ob_w1 (a_b 2) a_y cI y ++ ob_w1 u.2.1 u.2.2 cI n'))) := by
  rw [fd_X4_imgNew] at hd
  refine ob_in (cc := cX4_image) (maxL := 2) (ret := (some .int)) (own := RX4) (by decide) rfl rfl [(0, .ref o_b), (1, .int x1)] rfl (Nat.le_of_ble_eq_true rfl) ?_
  intro p e s m below meth c hx hb hr hml hown hts hlocks hnm hK A hA hE hP hD hS ls hl
  have kw0 := hts (.fieldLink RX4 39 "OathCoach" "images" "[LOathCoach$Route;") (by decide +kernel)
  have kw1 := hts (.classLink RX4 22 RX1) (by decide +kernel)
  have kw2 := hts (.instantiable RX1 12) (by decide +kernel)
  have kw3 := hts (.initialized RX1) (by decide +kernel)
  have kw4 := hts (.instanceMethod yX1_init) (by decide +kernel)
  have kw5 := hts (.fieldLink RX4 25 "OathCoach" "route" "LOathCoach$Route;") (by decide +kernel)
  have hi_X1 : ∀ w ∈ u_ws RX1 TX1 12, w ∈ wsX4_image := by decide +kernel
  have hi_X4 : ∀ w ∈ u_ws RX4 TX4 10, w ∈ wsX4_image := by decide +kernel
  obtain ⟨-, -, -, -, -, -, -, -, -, hn1, hn2, hn3, hn4, hn5, ho1, ho2⟩ := id hE
  refine lv_iload_n hx hb dX4_image_0 rfl (lv_at hl 1 rfl) ?_
  refine lv_iconst (v := 0) hx hb dX4_image_1 (by decide) ?_
  refine lv_iconst (v := 1) hx hb dX4_image_2 (by decide) ?_
  obtain ⟨r_1, hc_3, hd⟩ := ob_s1 hd
  refine ob_Si (isC := []) (isR := [0, 1, 2, 3, 4, 5, 6, 7, 8]) (is2 := [0, 1, 2, 3, 4, 5, 6, 7, 8]) (wc := ([] : va_W)) (wr := (List.filterMap (fun i => (ob_w4 o_b a_b cI b ++ ob_wr (a_b 5) cR 2 g_i ++ ob_w1 (a_b 2) a_y cI y)[i]?) [0, 1, 2, 3, 4, 5, 6, 7, 8])) (w1 := ([] : va_W)) (w2 := (ob_w4 o_b a_b cI b ++ ob_wr (a_b 5) cR 2 g_i ++ ob_w1 (a_b 2) a_y cI y)) (As := [.int x1, .int 0, .int 1]) (rest := []) ⟨hx, hb, hml, hown, hts⟩ (mt_X4_isWithin l dC dI cI cZ cR cW xs _ x1 0 1 r_1 hc_3) (va_cwS 3 hts gX4_image_X4_isWithin rfl rfl rfl (by decide +kernel) ⟨Nat.le_of_ble_eq_true rfl, Nat.le_of_ble_eq_true rfl⟩) hK hE hP hD hS hA ⟨rfl, rfl, rfl, rfl, rfl, rfl, rfl⟩ hl rfl rfl (Nat.le_of_ble_eq_true rfl) ⟨Nat.le_of_ble_eq_true rfl, Nat.le_of_ble_eq_true rfl⟩ dX4_image_3 (fun H locs hP hD hS => ?_)
  refine W.widen (k := 0) (n := 0) (Nat.le_refl _) (Nat.le_refl _) ?_
  refine lv_if_ne (tgt := 12) hx hb dX4_image_6 (by decide) (fun c_6 => ?_) (fun c_6 => ?_)
  · replace hd := ob_f c_6 hd
    refine lv_aload_n hx hb dX4_image_12 rfl (lv_at hl 0 rfl) ?_
    obtain ⟨r_2, hc_13, hd⟩ := ob_s1 hd
    refine ob_Vi (isC := [0, 1, 3, 4, 5, 6, 7, 8]) (isR := [2]) (is2 := [1, 2, 0, 3, 4, 5, 6, 7, 8]) (wc := (ob_w4 o_b a_b cI b ++ ob_w1 (a_b 2) a_y cI y)) (wr := (List.filterMap (fun i => (ob_w4 o_b a_b cI b ++ ob_wr (a_b 5) cR 2 g_i ++ ob_w1 (a_b 2) a_y cI y)[i]?) [2])) (w1 := (ob_w4 o_b a_b cI b ++ ob_w1 (a_b 2) a_y cI y)) (w2 := (ob_w4 o_b a_b cI b ++ ob_wr (a_b 5) cR 2 g_i ++ ob_w1 (a_b 2) a_y cI y)) (b := o_b) (As := []) (rest := []) ⟨hx, hb, hml, hown, hts⟩ (mt_X4_noRoute l dC dI cI cZ cR cW xs _ o_b a_b a_y b y r_2 hc_13) (cwV 0 hts gX4_image_X4_noRoute rfl rfl rfl (by decide +kernel) ⟨Nat.le_of_ble_eq_true rfl, Nat.le_of_ble_eq_true rfl⟩) hK hE hP hD hS hA ⟨rfl, rfl, rfl, rfl, rfl, rfl, rfl⟩ 4 0 rfl rfl rfl hl rfl rfl (Nat.le_of_ble_eq_true rfl) ⟨Nat.le_of_ble_eq_true rfl, Nat.le_of_ble_eq_true rfl⟩ dX4_image_13 (fun H locs hP hD hS => ?_)
    refine W.widen (k := 0) (n := 0) (Nat.le_refl _) (Nat.le_refl _) ?_
    refine lv_if_eq (tgt := 22) hx hb dX4_image_16 (by decide) (fun c_16 => ?_) (fun c_16 => ?_)
    · replace hd := ob_t c_16 hd
      refine lv_aload_n hx hb dX4_image_22 rfl (lv_at hl 0 rfl) ?_
      refine va_get (D := (dC, dI)) (ci := 4) (v := .ref (a_b 5)) (C := RX4) (T := TX4) (N := 10) hx hb hts hi_X4 hown hK hP 0 rfl rfl 5 (by decide) kw0 (fun _ h9 => h9) rfl dX4_image_23 ?_
      refine lv_iload_n hx hb dX4_image_26 rfl (lv_at hl 1 rfl) ?_
      obtain ⟨h1_27, hd⟩ := ob_nn hd
      refine va_aldq hx hb hK hP 2 2 rfl rfl h1_27 dX4_image_27 ?_
      refine ob_rn (hi h1_27) ?_
      refine lv_ifnonnullN hx hb dX4_image_28 ?_
      refine lv_aload_n hx hb dX4_image_31 rfl (lv_at hl 0 rfl) ?_
      refine va_get (D := (dC, dI)) (ci := 4) (v := .ref (a_b 5)) (C := RX4) (T := TX4) (N := 10) hx hb hts hi_X4 hown hK hP 0 rfl rfl 5 (by decide) kw0 (fun _ h9 => h9) rfl dX4_image_32 ?_
      refine lv_iload_n hx hb dX4_image_35 rfl (lv_at hl 1 rfl) ?_
      refine va_new (ci := 1) (fs := [.int 0, .int 0, .int 0, .int 0, .int 0, .int 0, .int 0, .null, .null, .null, .null, .null]) (C := RX1) (T := TX1) (N := 12) hx hb hts hi_X1 tyX1 tyX1_ok hown kw1 kw2 kw3 hK hP hD hS hA rfl (fun j hj => by rcases (show j = 0 ∨ j = 1 ∨ j = 2 ∨ j = 3 ∨ j = 4 ∨ j = 5 ∨ j = 6 ∨ j = 7 ∨ j = 8 ∨ j = 9 ∨ j = 10 ∨ j = 11 by omega) with rfl | rfl | rfl | rfl | rfl | rfl | rfl | rfl | rfl | rfl | rfl | rfl <;> rfl) (Nat.le_of_ble_eq_true rfl) (Nat.le_of_ble_eq_true rfl) dX4_image_36 (fun q_n H hP hD hS => ?_)
      refine W.widen (k := 1) (n := 12) (Nat.le_refl _) (Nat.le_refl _) ?_
      replace hP : va_P (dC, dI) vwCl (ob_w4 o_b a_b cI b ++ ob_wr (a_b 5) cR 2 g_i ++ ob_w1 (a_b 2) a_y cI y ++ [(q_n, .inr (1, [.int 0, .int 0, .int 0, .int 0, .int 0, .int 0, .int 0, .null, .null, .null, .null, .null]))]) H := hP
      replace hD : va_D A (ob_w4 o_b a_b cI b ++ ob_wr (a_b 5) cR 2 g_i ++ ob_w1 (a_b 2) a_y cI y ++ [(q_n, .inr (1, [.int 0, .int 0, .int 0, .int 0, .int 0, .int 0, .int 0, .null, .null, .null, .null, .null]))]) := hD
      refine lv_dup hx hb dX4_image_39 rfl ?_
      refine ob_Nv (wc := [(q_n, .inr (1, [.int 0, .int 0, .int 0, .int 0, .int 0, .int 0, .int 0, .null, .null, .null, .null, .null]))]) (wr := (ob_w4 o_b a_b cI b ++ ob_wr (a_b 5) cR 2 g_i ++ ob_w1 (a_b 2) a_y cI y)) (b := q_n) (As := []) (rest := [.ref q_n, .int x1, .ref (a_b 5)]) ⟨hx, hb, hml, hown, hts⟩ (mt_X1_init l dC dI cI cZ cR cW xs _ q_n) (va_cnB 0 hts gX4_image_X1_init_n24 rfl rfl rfl hn2 kw3 (by decide +kernel) ⟨Nat.le_of_ble_eq_true rfl, Nat.le_of_ble_eq_true rfl⟩) rfl kw4 hK hE hP hD hS hA (ob_ix [9] [0, 1, 2, 3, 4, 5, 6, 7, 8] rfl rfl rfl) hl rfl rfl (Nat.le_of_ble_eq_true rfl) ⟨Nat.le_of_ble_eq_true rfl, Nat.le_of_ble_eq_true rfl⟩ dX4_image_40 (fun a_n H locs hq hP hD hS => ?_)
      refine W.widen (k := 6) (n := 47) (Nat.le_refl _) (Nat.le_refl _) ?_
      replace hP : va_P (dC, dI) vwCl (ob_w4 o_b a_b cI b ++ ob_wr (a_b 5) cR 2 g_i ++ ob_w1 (a_b 2) a_y cI y ++ ob_w1 q_n a_n cI ob_z) H := hP
      replace hD : va_D A (ob_w4 o_b a_b cI b ++ ob_wr (a_b 5) cR 2 g_i ++ ob_w1 (a_b 2) a_y cI y ++ ob_w1 q_n a_n cI ob_z) := hD
      obtain ⟨h1_43, hd⟩ := ob_nn hd
      refine va_astq hx hb hK hP hD hS 2 2 9 1 rfl rfl rfl rfl h1_43 dX4_image_43 (fun H locs hP hD hS => ?_)
      replace hP : va_P (dC, dI) vwCl (ob_w4 o_b a_b cI b ++ ob_wr (a_b 5) cR 2 (va_up g_i (Int32.toNatClampNeg x1) (some q_n)) ++ ob_w1 (a_b 2) a_y cI y ++ ob_w1 q_n a_n cI ob_z) H := hP
      replace hD : va_D A (ob_w4 o_b a_b cI b ++ ob_wr (a_b 5) cR 2 (va_up g_i (Int32.toNatClampNeg x1) (some q_n)) ++ ob_w1 (a_b 2) a_y cI y ++ ob_w1 q_n a_n cI ob_z) := hD
      refine lv_aload_n hx hb dX4_image_44 rfl (lv_at hl 0 rfl) ?_
      refine va_get (D := (dC, dI)) (ci := 4) (v := .ref (a_b 5)) (C := RX4) (T := TX4) (N := 10) hx hb hts hi_X4 hown hK hP 0 rfl rfl 5 (by decide) kw0 (fun _ h9 => h9) rfl dX4_image_45 ?_
      refine lv_iload_n hx hb dX4_image_48 rfl (lv_at hl 1 rfl) ?_
      obtain ⟨h1_49, hd⟩ := ob_nn hd
      refine va_aldq hx hb hK hP 2 2 rfl rfl h1_49 dX4_image_49 ?_
      refine ob_rf (va_up_self _ _ _) ?_
      refine lv_aload_n hx hb dX4_image_50 rfl (lv_at hl 0 rfl) ?_
      refine va_get (D := (dC, dI)) (ci := 4) (v := .ref (a_b 2)) (C := RX4) (T := TX4) (N := 10) hx hb hts hi_X4 hown hK hP 0 rfl rfl 2 (by decide) kw5 (fun _ h9 => h9) rfl dX4_image_51 ?_
      obtain ⟨n_3, hc_54, hd⟩ := ob_s1 hd
      refine ob_Vv (isC := [9, 10, 11, 12, 13, 14, 3, 4, 5, 6, 7, 8]) (isR := [0, 1, 2]) (is2 := [0, 1, 2, 9, 10, 11, 12, 13, 14, 3, 4, 5, 6, 7, 8]) (wc := (ob_w1 q_n a_n cI ob_z ++ ob_w1 (a_b 2) a_y cI y)) (wr := (List.filterMap (fun i => (ob_w4 o_b a_b cI b ++ ob_wr (a_b 5) cR 2 (va_up g_i (Int32.toNatClampNeg x1) (some q_n)) ++ ob_w1 (a_b 2) a_y cI y ++ ob_w1 q_n a_n cI ob_z)[i]?) [0, 1, 2])) (w1 := (ob_w1 q_n a_n cI n_3 ++ ob_w1 (a_b 2) a_y cI y)) (w2 := (ob_w4 o_b a_b cI b ++ ob_wr (a_b 5) cR 2 (va_up g_i (Int32.toNatClampNeg x1) (some q_n)) ++ ob_w1 (a_b 2) a_y cI y ++ ob_w1 q_n a_n cI n_3)) (b := q_n) (As := [.ref (a_b 2)]) (rest := []) ⟨hx, hb, hml, hown, hts⟩ (mt_X1_become l dC dI cI cZ cR cW xs _ q_n a_n ((a_b 2)) a_y ob_z y n_3 hc_54) (cwV 1 hts gX4_image_X1_become rfl rfl rfl (by decide +kernel) ⟨Nat.le_of_ble_eq_true rfl, Nat.le_of_ble_eq_true rfl⟩) hK hE hP hD hS hA ⟨rfl, rfl, rfl, rfl, rfl, rfl, rfl⟩ 1 0 rfl rfl rfl hl rfl rfl (Nat.le_of_ble_eq_true rfl) ⟨Nat.le_of_ble_eq_true rfl, Nat.le_of_ble_eq_true rfl⟩ dX4_image_54 (fun H locs hP hD hS => ?_)
      refine W.widen (k := 6) (n := 47) (Nat.le_refl _) (Nat.le_refl _) ?_
      refine lv_iconst (v := 1) hx hb dX4_image_57 (by decide) ?_
      obtain ⟨e1, e2⟩ := ob_pp hd
      subst e1
      subst e2
      exact ob_iretE (post := fun (r' : Int32) (u : (Nat → Option Nat) × Nat × (Nat → Nat)) => r' = 1 ∧ u.1 = va_up g_i (Int32.toNatClampNeg x1) (some u.2.1)) (w' := fun u => (ob_w4 o_b a_b cI b ++ ob_wr (a_b 5) cR 2 u.1 ++ ob_w1 (a_b 2) a_y cI y ++ ob_w1 u.2.1 u.2.2 cI n_3)) ((va_up g_i (Int32.toNatClampNeg x1) (some q_n)), q_n, a_n) hx hb hr hlocks ⟨rfl, rfl⟩ hP hD hS dX4_image_58
    · replace hd := ob_f c_16 hd
      cases hd
  · replace hd := ob_t c_6 hd
    cases hd

def fd_X4_imgBad  (b : ob_B) (y : ob_B) (x1 : Int32) : Option (Int32) := ob_b1 (fd_X4_isWithin x1 0 1) (fun r_1 => if r_1 = 0 then (some ((-1000001))) else (ob_b1 (fd_X4_noRoute b y) (fun r_2 => if r_2 = 0 then (none) else (some ((-1000002))))))
set_option maxHeartbeats 4000000 in
set_option maxRecDepth 100000 in
theorem mt_X4_imgBad (l : Launch) (dC : Nat → ClassId) (dI : Nat → Nat → Nat) (cI cZ cR cW : ClassId) (xs : Nat → Nat) (sz : Nat) (o_b : Nat) (a_b : Nat → Nat) (g_i : Nat → Option Nat) (a_y : Nat → Nat) (b : ob_B) (y : ob_B) (x1 : Int32)  (rr : Int32) (hd : fd_X4_imgBad b y x1 = some (rr)) : ob_M l yX4_image wsX4_image ({ frames := 1, cells := 6, slots := 47, locals := 22 } : Room) (dC, dI) (ob_ty cI cZ cR cW) xs [.ref o_b, .int x1] (ob_w4 o_b a_b cI b ++ ob_wr (a_b 5) cR 2 g_i ++ ob_w1 (a_b 2) a_y cI y) sz (ob_Qi (dC, dI) rr (ob_w4 o_b a_b cI b ++ ob_wr (a_b 5) cR 2 g_i ++ ob_w1 (a_b 2) a_y cI y)) := by
  rw [fd_X4_imgBad] at hd
  refine ob_in (cc := cX4_image) (maxL := 2) (ret := (some .int)) (own := RX4) (by decide) rfl rfl [(0, .ref o_b), (1, .int x1)] rfl (Nat.le_of_ble_eq_true rfl) ?_
  intro p e s m below meth c hx hb hr hml hown hts hlocks hnm hK A hA hE hP hD hS ls hl
  have kw0 := hts (.constant RX4 137 (-1000002)) (by decide +kernel)
  have kw1 := hts (.constant RX4 62 (-1000001)) (by decide +kernel)
  refine W.widen (k := 6) (n := 47) (Nat.zero_le _) (Nat.zero_le _) ?_
  refine lv_iload_n hx hb dX4_image_0 rfl (lv_at hl 1 rfl) ?_
  refine lv_iconst (v := 0) hx hb dX4_image_1 (by decide) ?_
  refine lv_iconst (v := 1) hx hb dX4_image_2 (by decide) ?_
  obtain ⟨r_1, hc_3, hd⟩ := ob_s1 hd
  refine ob_Si (isC := []) (isR := [0, 1, 2, 3, 4, 5, 6, 7, 8]) (is2 := [0, 1, 2, 3, 4, 5, 6, 7, 8]) (wc := ([] : va_W)) (wr := (List.filterMap (fun i => (ob_w4 o_b a_b cI b ++ ob_wr (a_b 5) cR 2 g_i ++ ob_w1 (a_b 2) a_y cI y)[i]?) [0, 1, 2, 3, 4, 5, 6, 7, 8])) (w1 := ([] : va_W)) (w2 := (ob_w4 o_b a_b cI b ++ ob_wr (a_b 5) cR 2 g_i ++ ob_w1 (a_b 2) a_y cI y)) (As := [.int x1, .int 0, .int 1]) (rest := []) ⟨hx, hb, hml, hown, hts⟩ (mt_X4_isWithin l dC dI cI cZ cR cW xs _ x1 0 1 r_1 hc_3) (va_cwS 3 hts gX4_image_X4_isWithin rfl rfl rfl (by decide +kernel) ⟨Nat.le_of_ble_eq_true rfl, Nat.le_of_ble_eq_true rfl⟩) hK hE hP hD hS hA ⟨rfl, rfl, rfl, rfl, rfl, rfl, rfl⟩ hl rfl rfl (Nat.le_of_ble_eq_true rfl) ⟨Nat.le_of_ble_eq_true rfl, Nat.le_of_ble_eq_true rfl⟩ dX4_image_3 (fun H locs hP hD hS => ?_)
  refine W.widen (k := 6) (n := 47) (Nat.le_refl _) (Nat.le_refl _) ?_
  refine lv_if_ne (tgt := 12) hx hb dX4_image_6 (by decide) (fun c_6 => ?_) (fun c_6 => ?_)
  · replace hd := ob_f c_6 hd
    refine lv_aload_n hx hb dX4_image_12 rfl (lv_at hl 0 rfl) ?_
    obtain ⟨r_2, hc_13, hd⟩ := ob_s1 hd
    refine ob_Vi (isC := [0, 1, 3, 4, 5, 6, 7, 8]) (isR := [2]) (is2 := [1, 2, 0, 3, 4, 5, 6, 7, 8]) (wc := (ob_w4 o_b a_b cI b ++ ob_w1 (a_b 2) a_y cI y)) (wr := (List.filterMap (fun i => (ob_w4 o_b a_b cI b ++ ob_wr (a_b 5) cR 2 g_i ++ ob_w1 (a_b 2) a_y cI y)[i]?) [2])) (w1 := (ob_w4 o_b a_b cI b ++ ob_w1 (a_b 2) a_y cI y)) (w2 := (ob_w4 o_b a_b cI b ++ ob_wr (a_b 5) cR 2 g_i ++ ob_w1 (a_b 2) a_y cI y)) (b := o_b) (As := []) (rest := []) ⟨hx, hb, hml, hown, hts⟩ (mt_X4_noRoute l dC dI cI cZ cR cW xs _ o_b a_b a_y b y r_2 hc_13) (cwV 0 hts gX4_image_X4_noRoute rfl rfl rfl (by decide +kernel) ⟨Nat.le_of_ble_eq_true rfl, Nat.le_of_ble_eq_true rfl⟩) hK hE hP hD hS hA ⟨rfl, rfl, rfl, rfl, rfl, rfl, rfl⟩ 4 0 rfl rfl rfl hl rfl rfl (Nat.le_of_ble_eq_true rfl) ⟨Nat.le_of_ble_eq_true rfl, Nat.le_of_ble_eq_true rfl⟩ dX4_image_13 (fun H locs hP hD hS => ?_)
    refine W.widen (k := 6) (n := 47) (Nat.le_refl _) (Nat.le_refl _) ?_
    refine lv_if_eq (tgt := 22) hx hb dX4_image_16 (by decide) (fun c_16 => ?_) (fun c_16 => ?_)
    · replace hd := ob_t c_16 hd
      cases hd
    · replace hd := ob_f c_16 hd
      refine lv_ldc hx hb hown kw0 dX4_image_19 ?_
      have e1 := Option.some.inj hd
      subst e1
      exact ob_iret hx hb hr hlocks hP hD hS dX4_image_21
  · replace hd := ob_t c_6 hd
    refine lv_ldc hx hb hown kw1 dX4_image_9 ?_
    have e1 := Option.some.inj hd
    subst e1
    exact ob_iret hx hb hr hlocks hP hD hS dX4_image_11

def fd_X4_resOld  (b : ob_B) (y : ob_B) (w : ob_B) (h : ob_B) (x1 : Int32) : Option (Int32 × ob_B × ob_B) := ob_b1 (fd_X4_isWithin x1 0 1) (fun r_1 => if r_1 = 0 then (some ((-1000001), y, h)) else (if x1 < 0 ∨ 2 ≤ Int32.toNatClampNeg x1 then none else (if x1 < 0 ∨ 2 ≤ Int32.toNatClampNeg x1 then none else (ob_b1 (fd_X1_become y w) (fun y_2 => ob_b1 (fd_X0_forgetAll h) (fun h_3 => some (1, y_2, h_3)))))))
set_option maxHeartbeats 4000000 in
set_option maxRecDepth 100000 in
theorem mt_X4_resOld (l : Launch) (dC : Nat → ClassId) (dI : Nat → Nat → Nat) (cI cZ cR cW : ClassId) (xs : Nat → Nat) (sz : Nat) (o_b : Nat) (a_b : Nat → Nat) (g_i : Nat → Option Nat) (a_y : Nat → Nat) (o_w : Nat) (a_w : Nat → Nat) (a_h : Nat → Nat) (b : ob_B) (y : ob_B) (w : ob_B) (h : ob_B) (x1 : Int32) (hi : ¬ (x1 < 0 ∨ 2 ≤ Int32.toNatClampNeg x1) → g_i (Int32.toNatClampNeg x1) = some o_w) (rr : Int32) (y' : ob_B) (h' : ob_B) (hd : fd_X4_resOld b y w h x1 = some (rr, y', h')) : ob_M l yX4_restore wsX4_restore ({ frames := 2, cells := 0, slots := 0, locals := 81 } : Room) (dC, dI) (ob_ty cI cZ cR cW) xs [.ref o_b, .int x1] (ob_w4 o_b a_b cI b ++ ob_wr (a_b 5) cR 2 g_i ++ ob_w1 (a_b 2) a_y cI y ++ ob_w1 o_w a_w cI w ++ ob_w0 (a_b 4) a_h h) sz (ob_Qi (dC, dI) rr (ob_w4 o_b a_b cI b ++ ob_wr (a_b 5) cR 2 g_i ++ ob_w1 (a_b 2) a_y cI y' ++ ob_w1 o_w a_w cI w ++ ob_w0 (a_b 4) a_h h')) := by
  rw [fd_X4_resOld] at hd
  refine ob_in (cc := cX4_restore) (maxL := 2) (ret := (some .int)) (own := RX4) (by decide) rfl rfl [(0, .ref o_b), (1, .int x1)] rfl (Nat.le_of_ble_eq_true rfl) ?_
  intro p e s m below meth c hx hb hr hml hown hts hlocks hnm hK A hA hE hP hD hS ls hl
  have kw0 := hts (.fieldLink RX4 39 "OathCoach" "images" "[LOathCoach$Route;") (by decide +kernel)
  have kw1 := hts (.fieldLink RX4 25 "OathCoach" "route" "LOathCoach$Route;") (by decide +kernel)
  have kw2 := hts (.fieldLink RX4 35 "OathCoach" "history" "LOathCoach$History;") (by decide +kernel)
  have kw3 := hts (.constant RX4 62 (-1000001)) (by decide +kernel)
  have hi_X4 : ∀ w ∈ u_ws RX4 TX4 10, w ∈ wsX4_restore := by decide +kernel
  refine lv_iload_n hx hb dX4_restore_0 rfl (lv_at hl 1 rfl) ?_
  refine lv_iconst (v := 0) hx hb dX4_restore_1 (by decide) ?_
  refine lv_iconst (v := 1) hx hb dX4_restore_2 (by decide) ?_
  obtain ⟨r_1, hc_3, hd⟩ := ob_s1 hd
  refine ob_Si (isC := []) (isR := [0, 1, 2, 3, 4, 5, 6, 7, 8, 9, 10, 11, 12, 13, 14, 15]) (is2 := [0, 1, 2, 3, 4, 5, 6, 7, 8, 9, 10, 11, 12, 13, 14, 15]) (wc := ([] : va_W)) (wr := (List.filterMap (fun i => (ob_w4 o_b a_b cI b ++ ob_wr (a_b 5) cR 2 g_i ++ ob_w1 (a_b 2) a_y cI y ++ ob_w1 o_w a_w cI w ++ ob_w0 (a_b 4) a_h h)[i]?) [0, 1, 2, 3, 4, 5, 6, 7, 8, 9, 10, 11, 12, 13, 14, 15])) (w1 := ([] : va_W)) (w2 := (ob_w4 o_b a_b cI b ++ ob_wr (a_b 5) cR 2 g_i ++ ob_w1 (a_b 2) a_y cI y ++ ob_w1 o_w a_w cI w ++ ob_w0 (a_b 4) a_h h)) (As := [.int x1, .int 0, .int 1]) (rest := []) ⟨hx, hb, hml, hown, hts⟩ (mt_X4_isWithin l dC dI cI cZ cR cW xs _ x1 0 1 r_1 hc_3) (va_cwS 3 hts gX4_restore_X4_isWithin rfl rfl rfl (by decide +kernel) ⟨Nat.le_of_ble_eq_true rfl, Nat.le_of_ble_eq_true rfl⟩) hK hE hP hD hS hA ⟨rfl, rfl, rfl, rfl, rfl, rfl, rfl⟩ hl rfl rfl (Nat.le_of_ble_eq_true rfl) ⟨Nat.le_of_ble_eq_true rfl, Nat.le_of_ble_eq_true rfl⟩ dX4_restore_3 (fun H locs hP hD hS => ?_)
  refine W.widen (k := 0) (n := 0) (Nat.le_refl _) (Nat.le_refl _) ?_
  refine lv_if_ne (tgt := 12) hx hb dX4_restore_6 (by decide) (fun c_6 => ?_) (fun c_6 => ?_)
  · replace hd := ob_f c_6 hd
    refine lv_aload_n hx hb dX4_restore_12 rfl (lv_at hl 0 rfl) ?_
    refine va_get (D := (dC, dI)) (ci := 4) (v := .ref (a_b 5)) (C := RX4) (T := TX4) (N := 10) hx hb hts hi_X4 hown hK hP 0 rfl rfl 5 (by decide) kw0 (fun _ h9 => h9) rfl dX4_restore_13 ?_
    refine lv_iload_n hx hb dX4_restore_16 rfl (lv_at hl 1 rfl) ?_
    obtain ⟨h1_17, hd⟩ := ob_nn hd
    refine va_aldq hx hb hK hP 2 2 rfl rfl h1_17 dX4_restore_17 ?_
    refine ob_rf (hi h1_17) ?_
    refine lv_ifnonnull (tgt := 24) hx hb dX4_restore_18 (by decide) ?_
    refine lv_aload_n hx hb dX4_restore_24 rfl (lv_at hl 0 rfl) ?_
    refine va_get (D := (dC, dI)) (ci := 4) (v := .ref (a_b 2)) (C := RX4) (T := TX4) (N := 10) hx hb hts hi_X4 hown hK hP 0 rfl rfl 2 (by decide) kw1 (fun _ h9 => h9) rfl dX4_restore_25 ?_
    refine lv_aload_n hx hb dX4_restore_28 rfl (lv_at hl 0 rfl) ?_
    refine va_get (D := (dC, dI)) (ci := 4) (v := .ref (a_b 5)) (C := RX4) (T := TX4) (N := 10) hx hb hts hi_X4 hown hK hP 0 rfl rfl 5 (by decide) kw0 (fun _ h9 => h9) rfl dX4_restore_29 ?_
    refine lv_iload_n hx hb dX4_restore_32 rfl (lv_at hl 1 rfl) ?_
    obtain ⟨h1_33, hd⟩ := ob_nn hd
    refine va_aldq hx hb hK hP 2 2 rfl rfl h1_33 dX4_restore_33 ?_
    refine ob_rf (hi h1_33) ?_
    obtain ⟨y_2, hc_34, hd⟩ := ob_s1 hd
    refine ob_Vv (isC := [3, 4, 5, 6, 7, 8, 9, 10, 11, 12, 13, 14]) (isR := [0, 1, 2, 15]) (is2 := [0, 1, 2, 4, 5, 6, 7, 8, 9, 10, 11, 12, 13, 14, 15, 3]) (wc := (ob_w1 (a_b 2) a_y cI y ++ ob_w1 o_w a_w cI w)) (wr := (List.filterMap (fun i => (ob_w4 o_b a_b cI b ++ ob_wr (a_b 5) cR 2 g_i ++ ob_w1 (a_b 2) a_y cI y ++ ob_w1 o_w a_w cI w ++ ob_w0 (a_b 4) a_h h)[i]?) [0, 1, 2, 15])) (w1 := (ob_w1 (a_b 2) a_y cI y_2 ++ ob_w1 o_w a_w cI w)) (w2 := (ob_w4 o_b a_b cI b ++ ob_wr (a_b 5) cR 2 g_i ++ ob_w1 (a_b 2) a_y cI y_2 ++ ob_w1 o_w a_w cI w ++ ob_w0 (a_b 4) a_h h)) (b := (a_b 2)) (As := [.ref o_w]) (rest := []) ⟨hx, hb, hml, hown, hts⟩ (mt_X1_become l dC dI cI cZ cR cW xs _ ((a_b 2)) a_y o_w a_w y w y_2 hc_34) (cwV 1 hts gX4_restore_X1_become rfl rfl rfl (by decide +kernel) ⟨Nat.le_of_ble_eq_true rfl, Nat.le_of_ble_eq_true rfl⟩) hK hE hP hD hS hA ⟨rfl, rfl, rfl, rfl, rfl, rfl, rfl⟩ 1 0 rfl rfl rfl hl rfl rfl (Nat.le_of_ble_eq_true rfl) ⟨Nat.le_of_ble_eq_true rfl, Nat.le_of_ble_eq_true rfl⟩ dX4_restore_34 (fun H locs hP hD hS => ?_)
    refine W.widen (k := 0) (n := 0) (Nat.le_refl _) (Nat.le_refl _) ?_
    refine lv_aload_n hx hb dX4_restore_37 rfl (lv_at hl 0 rfl) ?_
    refine va_get (D := (dC, dI)) (ci := 4) (v := .ref (a_b 4)) (C := RX4) (T := TX4) (N := 10) hx hb hts hi_X4 hown hK hP 0 rfl rfl 4 (by decide) kw2 (fun _ h9 => h9) rfl dX4_restore_38 ?_
    obtain ⟨h_3, hc_41, hd⟩ := ob_s1 hd
    refine ob_Vv (isC := [15]) (isR := [0, 1, 2, 3, 4, 5, 6, 7, 8, 9, 10, 11, 12, 13, 14]) (is2 := [0, 1, 2, 3, 4, 5, 6, 7, 8, 9, 10, 11, 12, 13, 14, 15]) (wc := (ob_w0 (a_b 4) a_h h)) (wr := (List.filterMap (fun i => (ob_w4 o_b a_b cI b ++ ob_wr (a_b 5) cR 2 g_i ++ ob_w1 (a_b 2) a_y cI y_2 ++ ob_w1 o_w a_w cI w ++ ob_w0 (a_b 4) a_h h)[i]?) [0, 1, 2, 3, 4, 5, 6, 7, 8, 9, 10, 11, 12, 13, 14])) (w1 := (ob_w0 (a_b 4) a_h h_3)) (w2 := (ob_w4 o_b a_b cI b ++ ob_wr (a_b 5) cR 2 g_i ++ ob_w1 (a_b 2) a_y cI y_2 ++ ob_w1 o_w a_w cI w ++ ob_w0 (a_b 4) a_h h_3)) (b := (a_b 4)) (As := []) (rest := []) ⟨hx, hb, hml, hown, hts⟩ (mt_X0_forgetAll l dC dI cI cZ cR cW xs _ ((a_b 4)) a_h h h_3 hc_41) (cwV 0 hts gX4_restore_X0_forgetAll rfl rfl rfl (by decide +kernel) ⟨Nat.le_of_ble_eq_true rfl, Nat.le_of_ble_eq_true rfl⟩) hK hE hP hD hS hA ⟨rfl, rfl, rfl, rfl, rfl, rfl, rfl⟩ 0 0 rfl rfl rfl hl rfl rfl (Nat.le_of_ble_eq_true rfl) ⟨Nat.le_of_ble_eq_true rfl, Nat.le_of_ble_eq_true rfl⟩ dX4_restore_41 (fun H locs hP hD hS => ?_)
    refine W.widen (k := 0) (n := 0) (Nat.le_refl _) (Nat.le_refl _) ?_
    refine lv_iconst (v := 1) hx hb dX4_restore_44 (by decide) ?_
    obtain ⟨e1, e2, e3⟩ := ob_pq hd
    subst e1
    subst e2
    subst e3
    exact ob_iret hx hb hr hlocks hP hD hS dX4_restore_45
  · replace hd := ob_t c_6 hd
    refine lv_ldc hx hb hown kw3 dX4_restore_9 ?_
    obtain ⟨e1, e2, e3⟩ := ob_pq hd
    subst e1
    subst e2
    subst e3
    exact ob_iret hx hb hr hlocks hP hD hS dX4_restore_11

def fd_X4_resNone  (b : ob_B) (x1 : Int32) : Option (Int32) := ob_b1 (fd_X4_isWithin x1 0 1) (fun r_1 => if r_1 = 0 then (some ((-1000001))) else (if x1 < 0 ∨ 2 ≤ Int32.toNatClampNeg x1 then none else (some ((-1000002)))))
set_option maxHeartbeats 4000000 in
set_option maxRecDepth 100000 in
theorem mt_X4_resNone (l : Launch) (dC : Nat → ClassId) (dI : Nat → Nat → Nat) (cI cZ cR cW : ClassId) (xs : Nat → Nat) (sz : Nat) (o_b : Nat) (a_b : Nat → Nat) (g_i : Nat → Option Nat) (b : ob_B) (x1 : Int32) (hi : ¬ (x1 < 0 ∨ 2 ≤ Int32.toNatClampNeg x1) → g_i (Int32.toNatClampNeg x1) = none) (rr : Int32) (hd : fd_X4_resNone b x1 = some (rr)) : ob_M l yX4_restore wsX4_restore ({ frames := 1, cells := 0, slots := 0, locals := 22 } : Room) (dC, dI) (ob_ty cI cZ cR cW) xs [.ref o_b, .int x1] (ob_w4 o_b a_b cI b ++ ob_wr (a_b 5) cR 2 g_i) sz (ob_Qi (dC, dI) rr (ob_w4 o_b a_b cI b ++ ob_wr (a_b 5) cR 2 g_i)) := by
  rw [fd_X4_resNone] at hd
  refine ob_in (cc := cX4_restore) (maxL := 2) (ret := (some .int)) (own := RX4) (by decide) rfl rfl [(0, .ref o_b), (1, .int x1)] rfl (Nat.le_of_ble_eq_true rfl) ?_
  intro p e s m below meth c hx hb hr hml hown hts hlocks hnm hK A hA hE hP hD hS ls hl
  have kw0 := hts (.fieldLink RX4 39 "OathCoach" "images" "[LOathCoach$Route;") (by decide +kernel)
  have kw1 := hts (.constant RX4 137 (-1000002)) (by decide +kernel)
  have kw2 := hts (.constant RX4 62 (-1000001)) (by decide +kernel)
  have hi_X4 : ∀ w ∈ u_ws RX4 TX4 10, w ∈ wsX4_restore := by decide +kernel
  refine lv_iload_n hx hb dX4_restore_0 rfl (lv_at hl 1 rfl) ?_
  refine lv_iconst (v := 0) hx hb dX4_restore_1 (by decide) ?_
  refine lv_iconst (v := 1) hx hb dX4_restore_2 (by decide) ?_
  obtain ⟨r_1, hc_3, hd⟩ := ob_s1 hd
  refine ob_Si (isC := []) (isR := [0, 1, 2]) (is2 := [0, 1, 2]) (wc := ([] : va_W)) (wr := (List.filterMap (fun i => (ob_w4 o_b a_b cI b ++ ob_wr (a_b 5) cR 2 g_i)[i]?) [0, 1, 2])) (w1 := ([] : va_W)) (w2 := (ob_w4 o_b a_b cI b ++ ob_wr (a_b 5) cR 2 g_i)) (As := [.int x1, .int 0, .int 1]) (rest := []) ⟨hx, hb, hml, hown, hts⟩ (mt_X4_isWithin l dC dI cI cZ cR cW xs _ x1 0 1 r_1 hc_3) (va_cwS 3 hts gX4_restore_X4_isWithin rfl rfl rfl (by decide +kernel) ⟨Nat.le_of_ble_eq_true rfl, Nat.le_of_ble_eq_true rfl⟩) hK hE hP hD hS hA ⟨rfl, rfl, rfl, rfl, rfl, rfl, rfl⟩ hl rfl rfl (Nat.le_of_ble_eq_true rfl) ⟨Nat.le_of_ble_eq_true rfl, Nat.le_of_ble_eq_true rfl⟩ dX4_restore_3 (fun H locs hP hD hS => ?_)
  refine W.widen (k := 0) (n := 0) (Nat.le_refl _) (Nat.le_refl _) ?_
  refine lv_if_ne (tgt := 12) hx hb dX4_restore_6 (by decide) (fun c_6 => ?_) (fun c_6 => ?_)
  · replace hd := ob_f c_6 hd
    refine lv_aload_n hx hb dX4_restore_12 rfl (lv_at hl 0 rfl) ?_
    refine va_get (D := (dC, dI)) (ci := 4) (v := .ref (a_b 5)) (C := RX4) (T := TX4) (N := 10) hx hb hts hi_X4 hown hK hP 0 rfl rfl 5 (by decide) kw0 (fun _ h9 => h9) rfl dX4_restore_13 ?_
    refine lv_iload_n hx hb dX4_restore_16 rfl (lv_at hl 1 rfl) ?_
    obtain ⟨h1_17, hd⟩ := ob_nn hd
    refine va_aldq hx hb hK hP 2 2 rfl rfl h1_17 dX4_restore_17 ?_
    refine ob_rn (hi h1_17) ?_
    refine lv_ifnonnullN hx hb dX4_restore_18 ?_
    refine lv_ldc hx hb hown kw1 dX4_restore_21 ?_
    have e1 := Option.some.inj hd
    subst e1
    exact ob_iret hx hb hr hlocks hP hD hS dX4_restore_23
  · replace hd := ob_t c_6 hd
    refine lv_ldc hx hb hown kw2 dX4_restore_9 ?_
    have e1 := Option.some.inj hd
    subst e1
    exact ob_iret hx hb hr hlocks hP hD hS dX4_restore_11
