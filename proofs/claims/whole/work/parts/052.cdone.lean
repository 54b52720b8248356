def fd_X4_swear  (b : ob_B) (y : ob_B) (h : ob_H) (x1 : Int32) (x2 : Int32) (x3 : Int32) : Option (Int32 × ob_B × ob_H) := ob_b1 (fd_X4_isOath b y x1) (fun r_1 => if r_1 = 0 then (some ((-1000001), y, h)) else (ob_b1 (fd_X4_isPlace x2) (fun r_2 => if r_2 = 0 then (some ((-1000001), y, h)) else (if x3 < 1 then (some ((-1000001), y, h)) else (if x3 ≤ 20 then (ob_b1 (fd_X0_rem h y) (fun h_3 => ob_b1 (fd_X1_openTo y x1 x2 x3) (fun y_5 => ob_b1 (fd_X1_pullOf y_5 x1) (fun r_6 => some (r_6, y_5, h_3))))) else (some ((-1000001), y, h)))))))
set_option maxHeartbeats 4000000 in
set_option maxRecDepth 100000 in
theorem mt_X4_swear (l : Launch) (dC : Nat → ClassId) (dI : Nat → Nat → Nat) (cI cZ cR cW : ClassId) (xs : Nat → Nat) (sz : Nat) (o_b : Nat) (a_b : Nat → Nat) (a_y : Nat → Nat) (a_h : Nat → Nat) (ad_h : ob_AH) (b : ob_B) (y : ob_B) (h : ob_H) (x1 : Int32) (x2 : Int32) (x3 : Int32)  (rr : Int32) (y' : ob_B) (h' : ob_H) (hd : fd_X4_swear b y h x1 x2 x3 = some (rr, y', h')) : ob_M l yX4_swear wsX4_swear ({ frames := 3, cells := 6, slots := 47, locals := 103 } : Room) (dC, dI) (ob_ty cI cZ cR cW) xs [.ref o_b, .int x1, .int x2, .int x3] (ob_w4 o_b a_b cI b ++ ob_w1 (a_b 2) a_y cI y ++ ob_hw (a_b 4) a_h cI cR h ad_h) sz (ob_QiE (dC, dI) (fun (r' : Int32) (_ : ob_AH) => r' = rr) (fun ad' => (ob_w4 o_b a_b cI b ++ ob_w1 (a_b 2) a_y cI y' ++ ob_hw (a_b 4) a_h cI cR h' ad'))) := by
  rw [fd_X4_swear] at hd
  refine ob_in (cc := cX4_swear) (maxL := 4) (ret := (some .int)) (own := RX4) (by decide) rfl rfl [(0, .ref o_b), (1, .int x1), (2, .int x2), (3, .int x3)] rfl (Nat.le_of_ble_eq_true rfl) ?_
  intro p e s m below meth c hx hb hr hml hown hts hlocks hnm hK A hA hE hP hD hS ls hl
  have kw0 := hts (.constant RX4 62 (-1000001)) (by decide +kernel)
  have kw1 := hts (.fieldLink RX4 35 "OathCoach" "history" "LOathCoach$History;") (by decide +kernel)
  have kw2 := hts (.fieldLink RX4 25 "OathCoach" "route" "LOathCoach$Route;") (by decide +kernel)
  have hi_X4 : ∀ w ∈ u_ws RX4 TX4 10, w ∈ wsX4_swear := by decide +kernel
  refine lv_aload_n hx hb dX4_swear_0 rfl (lv_at hl 0 rfl) ?_
  refine lv_iload_n hx hb dX4_swear_1 rfl (lv_at hl 1 rfl) ?_
  obtain ⟨r_1, hc_2, hd⟩ := ob_s1 hd
  refine ob_PVi (wc := (ob_w4 o_b a_b cI b ++ ob_w1 (a_b 2) a_y cI y)) (wr := (([] : va_W) ++ ob_hw (a_b 4) a_h cI cR h ad_h)) (b := o_b) (As := [.int x1]) (rest := []) ⟨hx, hb, hml, hown, hts⟩ (ob_MiE (mt_X4_isOath l dC dI cI cZ cR cW xs _ o_b a_b a_y b y x1 r_1 hc_2)) (cwV 1 hts gX4_swear_X4_isOath rfl rfl rfl (by decide +kernel) ⟨Nat.le_of_ble_eq_true rfl, Nat.le_of_ble_eq_true rfl⟩) hK hE hP hD hS hA (ob_h3 (ob_ix [0, 1, 2, 3, 4, 5, 6, 7] [] rfl rfl rfl)) 4 0 rfl rfl rfl hl rfl rfl (Nat.le_of_ble_eq_true rfl) ⟨(Nat.le_of_ble_eq_true rfl), (Nat.le_of_ble_eq_true rfl)⟩ dX4_swear_2 (fun rq uq H locs hq hP hD hS => ?_)
  obtain rfl : r_1 = rq := hq.symm
  refine W.widen (k := 0) (n := 0) (Nat.le_refl _) (Nat.le_refl _) ?_
  replace hP : va_P (dC, dI) vwCl ((ob_w4 o_b a_b cI b ++ ob_w1 (a_b 2) a_y cI y) ++ ob_hw (a_b 4) a_h cI cR h ad_h) H := ob_Pp hP (ob_h4 (ob_ix [0, 1, 2, 3, 4, 5, 6, 7] [] rfl rfl rfl))
  replace hD : va_D A ((ob_w4 o_b a_b cI b ++ ob_w1 (a_b 2) a_y cI y) ++ ob_hw (a_b 4) a_h cI cR h ad_h) := ob_Dp hD (ob_h4 (ob_ix [0, 1, 2, 3, 4, 5, 6, 7] [] rfl rfl rfl))
  replace hP : va_P (dC, dI) vwCl (ob_w4 o_b a_b cI b ++ ob_w1 (a_b 2) a_y cI y ++ ob_hw (a_b 4) a_h cI cR h ad_h) H := hP
  replace hD : va_D A (ob_w4 o_b a_b cI b ++ ob_w1 (a_b 2) a_y cI y ++ ob_hw (a_b 4) a_h cI cR h ad_h) := hD
  refine lv_if_eq (tgt := 26) hx hb dX4_swear_5 (by decide) (fun c_5 => ?_) (fun c_5 => ?_)
  · replace hd := ob_t c_5 hd
    refine lv_ldc hx hb hown kw0 dX4_swear_26 ?_
    obtain ⟨e1, e2, e3⟩ := ob_pq hd
    subst e1
    subst e2
    subst e3
    refine W.widen (k := 6) (n := 47) (by omega) (by omega) ?_
    exact ob_iretE (w' := fun ad' => (ob_w4 o_b a_b cI b ++ ob_w1 (a_b 2) a_y cI y ++ ob_hw (a_b 4) a_h cI cR h ad')) ad_h hx hb hr hlocks rfl hP hD hS dX4_swear_28
  · replace hd := ob_f c_5 hd
    refine lv_iload_n hx hb dX4_swear_8 rfl (lv_at hl 2 rfl) ?_
    obtain ⟨r_2, hc_9, hd⟩ := ob_s1 hd
    refine ob_PSi (wc := ([] : va_W)) (wr := ((List.filterMap (fun i => (ob_w4 o_b a_b cI b ++ ob_w1 (a_b 2) a_y cI y)[i]?) [0, 1, 2, 3, 4, 5, 6, 7]) ++ ob_hw (a_b 4) a_h cI cR h ad_h)) (As := [.int x2]) (rest := []) ⟨hx, hb, hml, hown, hts⟩ (ob_MiE (mt_X4_isPlace l dC dI cI cZ cR cW xs _ x2 r_2 hc_9)) (va_cwS 1 hts gX4_swear_X4_isPlace rfl rfl rfl (by decide +kernel) ⟨Nat.le_of_ble_eq_true rfl, Nat.le_of_ble_eq_true rfl⟩) hK hE hP hD hS hA (ob_h3 (ob_ix [] [0, 1, 2, 3, 4, 5, 6, 7] rfl rfl rfl)) hl rfl rfl (Nat.le_of_ble_eq_true rfl) ⟨(Nat.le_of_ble_eq_true rfl), (Nat.le_of_ble_eq_true rfl)⟩ dX4_swear_9 (fun rq uq H locs hq hP hD hS => ?_)
    obtain rfl : r_2 = rq := hq.symm
    refine W.widen (k := 0) (n := 0) (Nat.le_refl _) (Nat.le_refl _) ?_
    replace hP : va_P (dC, dI) vwCl ((ob_w4 o_b a_b cI b ++ ob_w1 (a_b 2) a_y cI y) ++ ob_hw (a_b 4) a_h cI cR h ad_h) H := ob_Pp hP (ob_h4 (ob_ix [] [0, 1, 2, 3, 4, 5, 6, 7] rfl rfl rfl))
    replace hD : va_D A ((ob_w4 o_b a_b cI b ++ ob_w1 (a_b 2) a_y cI y) ++ ob_hw (a_b 4) a_h cI cR h ad_h) := ob_Dp hD (ob_h4 (ob_ix [] [0, 1, 2, 3, 4, 5, 6, 7] rfl rfl rfl))
    replace hP : va_P (dC, dI) vwCl (ob_w4 o_b a_b cI b ++ ob_w1 (a_b 2) a_y cI y ++ ob_hw (a_b 4) a_h cI cR h ad_h) H := hP
    replace hD : va_D A (ob_w4 o_b a_b cI b ++ ob_w1 (a_b 2) a_y cI y ++ ob_hw (a_b 4) a_h cI cR h ad_h) := hD
    refine lv_if_eq (tgt := 26) hx hb dX4_swear_12 (by decide) (fun c_12 => ?_) (fun c_12 => ?_)
    · replace hd := ob_t c_12 hd
      refine lv_ldc hx hb hown kw0 dX4_swear_26 ?_
      obtain ⟨e1, e2, e3⟩ := ob_pq hd
      subst e1
      subst e2
      subst e3
      refine W.widen (k := 6) (n := 47) (by omega) (by omega) ?_
      exact ob_iretE (w' := fun ad' => (ob_w4 o_b a_b cI b ++ ob_w1 (a_b 2) a_y cI y ++ ob_hw (a_b 4) a_h cI cR h ad')) ad_h hx hb hr hlocks rfl hP hD hS dX4_swear_28
    · replace hd := ob_f c_12 hd
      refine lv_iload_n hx hb dX4_swear_15 rfl (lv_at hl 3 rfl) ?_
      refine lv_iconst (v := 1) hx hb dX4_swear_16 (by decide) ?_
      refine lv_icmp_lt (tgt := 26) hx hb dX4_swear_17 (by decide) (fun c_17 => ?_) (fun c_17 => ?_)
      · replace hd := ob_t c_17 hd
        refine lv_ldc hx hb hown kw0 dX4_swear_26 ?_
        obtain ⟨e1, e2, e3⟩ := ob_pq hd
        subst e1
        subst e2
        subst e3
        refine W.widen (k := 6) (n := 47) (by omega) (by omega) ?_
        exact ob_iretE (w' := fun ad' => (ob_w4 o_b a_b cI b ++ ob_w1 (a_b 2) a_y cI y ++ ob_hw (a_b 4) a_h cI cR h ad')) ad_h hx hb hr hlocks rfl hP hD hS dX4_swear_28
      · replace hd := ob_f c_17 hd
        refine lv_iload_n hx hb dX4_swear_20 rfl (lv_at hl 3 rfl) ?_
        refine lv_bipush (v := 20) hx hb dX4_swear_21 (by decide) ?_
        refine lv_icmp_le (tgt := 29) hx hb dX4_swear_23 (by decide) (fun c_23 => ?_) (fun c_23 => ?_)
        · replace hd := ob_t c_23 hd
          refine lv_aload_n hx hb dX4_swear_29 rfl (lv_at hl 0 rfl) ?_
          refine va_get (D := (dC, dI)) (ci := 4) (v := .ref (a_b 4)) (C := RX4) (T := TX4) (N := 10) hx hb hts hi_X4 hown hK hP 0 rfl rfl 4 (by decide) kw1 (fun _ h9 => h9) rfl dX4_swear_30 ?_
          refine lv_aload_n hx hb dX4_swear_33 rfl (lv_at hl 0 rfl) ?_
          refine va_get (D := (dC, dI)) (ci := 4) (v := .ref (a_b 2)) (C := RX4) (T := TX4) (N := 10) hx hb hts hi_X4 hown hK hP 0 rfl rfl 2 (by decide) kw2 (fun _ h9 => h9) rfl dX4_swear_34 ?_
          obtain ⟨h_3, hc_37, hd⟩ := ob_s1 hd
          refine ob_PVv (wc := (ob_hw (a_b 4) a_h cI cR h ad_h ++ ob_w1 (a_b 2) a_y cI y)) (wr := (List.filterMap (fun i => (ob_w4 o_b a_b cI b ++ ob_w1 (a_b 2) a_y cI y)[i]?) [0, 1])) (b := (a_b 4)) (As := [.ref (a_b 2)]) (rest := []) ⟨hx, hb, hml, hown, hts⟩ (mt_X0_rem l dC dI cI cZ cR cW xs _ ((a_b 4)) a_h ad_h ((a_b 2)) a_y h y h_3 hc_37) (cwV 1 hts gX4_swear_X0_remember rfl rfl rfl (by decide +kernel) ⟨Nat.le_of_ble_eq_true rfl, Nat.le_of_ble_eq_true rfl⟩) hK hE hP hD hS hA (ob_h1 (ob_ix [2, 3, 4, 5, 6, 7] [0, 1] rfl rfl rfl)) 0 0 rfl rfl rfl hl rfl rfl (Nat.le_of_ble_eq_true rfl) ⟨(Nat.le_of_ble_eq_true rfl), (Nat.le_of_ble_eq_true rfl)⟩ dX4_swear_37 (fun ad_4 H locs hq hP hD hS => ?_)
          refine W.widen (k := 6) (n := 47) (Nat.le_refl _) (Nat.le_refl _) ?_
          replace hP : va_P (dC, dI) vwCl ((ob_w4 o_b a_b cI b ++ ob_w1 (a_b 2) a_y cI y) ++ ob_hw (a_b 4) a_h cI cR h_3 ad_4) H := ob_Pp hP (ob_h2 (ob_ix [2, 3, 4, 5, 6, 7] [0, 1] rfl rfl rfl))
          replace hD : va_D A ((ob_w4 o_b a_b cI b ++ ob_w1 (a_b 2) a_y cI y) ++ ob_hw (a_b 4) a_h cI cR h_3 ad_4) := ob_Dp hD (ob_h2 (ob_ix [2, 3, 4, 5, 6, 7] [0, 1] rfl rfl rfl))
          replace hP : va_P (dC, dI) vwCl (ob_w4 o_b a_b cI b ++ ob_w1 (a_b 2) a_y cI y ++ ob_hw (a_b 4) a_h cI cR h_3 ad_4) H := hP
          replace hD : va_D A (ob_w4 o_b a_b cI b ++ ob_w1 (a_b 2) a_y cI y ++ ob_hw (a_b 4) a_h cI cR h_3 ad_4) := hD
          refine lv_aload_n hx hb dX4_swear_40 rfl (lv_at hl 0 rfl) ?_
          refine va_get (D := (dC, dI)) (ci := 4) (v := .ref (a_b 2)) (C := RX4) (T := TX4) (N := 10) hx hb hts hi_X4 hown hK hP 0 rfl rfl 2 (by decide) kw2 (fun _ h9 => h9) rfl dX4_swear_41 ?_
          refine lv_iload_n hx hb dX4_swear_44 rfl (lv_at hl 1 rfl) ?_
          refine lv_iload_n hx hb dX4_swear_45 rfl (lv_at hl 2 rfl) ?_
          refine lv_iload_n hx hb dX4_swear_46 rfl (lv_at hl 3 rfl) ?_
          obtain ⟨y_5, hc_47, hd⟩ := ob_s1 hd
          refine ob_PVv (wc := (ob_w1 (a_b 2) a_y cI y)) (wr := ((List.filterMap (fun i => (ob_w4 o_b a_b cI b ++ ob_w1 (a_b 2) a_y cI y)[i]?) [0, 1]) ++ ob_hw (a_b 4) a_h cI cR h_3 ad_4)) (b := (a_b 2)) (As := [.int x1, .int x2, .int x3]) (rest := []) ⟨hx, hb, hml, hown, hts⟩ (ob_MvE (mt_X1_openTo l dC dI cI cZ cR cW xs _ ((a_b 2)) a_y y x1 x2 x3 y_5 hc_47)) (cwV 3 hts gX4_swear_X1_openTo rfl rfl rfl (by decide +kernel) ⟨Nat.le_of_ble_eq_true rfl, Nat.le_of_ble_eq_true rfl⟩) hK hE hP hD hS hA (ob_h3 (ob_ix [2, 3, 4, 5, 6, 7] [0, 1] rfl rfl rfl)) 1 0 rfl rfl rfl hl rfl rfl (Nat.le_of_ble_eq_true rfl) ⟨(Nat.le_of_ble_eq_true rfl), (Nat.le_of_ble_eq_true rfl)⟩ dX4_swear_47 (fun uq H locs hq hP hD hS => ?_)
          refine W.widen (k := 6) (n := 47) (Nat.le_refl _) (Nat.le_refl _) ?_
          replace hP : va_P (dC, dI) vwCl ((ob_w4 o_b a_b cI b ++ ob_w1 (a_b 2) a_y cI y_5) ++ ob_hw (a_b 4) a_h cI cR h_3 ad_4) H := ob_Pp hP (ob_h4 (ob_ix [2, 3, 4, 5, 6, 7] [0, 1] rfl rfl rfl))
          replace hD : va_D A ((ob_w4 o_b a_b cI b ++ ob_w1 (a_b 2) a_y cI y_5) ++ ob_hw (a_b 4) a_h cI cR h_3 ad_4) := ob_Dp hD (ob_h4 (ob_ix [2, 3, 4, 5, 6, 7] [0, 1] rfl rfl rfl))
          replace hP : va_P (dC, dI) vwCl (ob_w4 o_b a_b cI b ++ ob_w1 (a_b 2) a_y cI y_5 ++ ob_hw (a_b 4) a_h cI cR h_3 ad_4) H := hP
          replace hD : va_D A (ob_w4 o_b a_b cI b ++ ob_w1 (a_b 2) a_y cI y_5 ++ ob_hw (a_b 4) a_h cI cR h_3 ad_4) := hD
          refine lv_aload_n hx hb dX4_swear_50 rfl (lv_at hl 0 rfl) ?_
          refine va_get (D := (dC, dI)) (ci := 4) (v := .ref (a_b 2)) (C := RX4) (T := TX4) (N := 10) hx hb hts hi_X4 hown hK hP 0 rfl rfl 2 (by decide) kw2 (fun _ h9 => h9) rfl dX4_swear_51 ?_
          refine lv_iload_n hx hb dX4_swear_54 rfl (lv_at hl 1 rfl) ?_
          obtain ⟨r_6, hc_55, hd⟩ := ob_s1 hd
          refine ob_PVi (wc := (ob_w1 (a_b 2) a_y cI y_5)) (wr := ((List.filterMap (fun i => (ob_w4 o_b a_b cI b ++ ob_w1 (a_b 2) a_y cI y_5)[i]?) [0, 1]) ++ ob_hw (a_b 4) a_h cI cR h_3 ad_4)) (b := (a_b 2)) (As := [.int x1]) (rest := []) ⟨hx, hb, hml, hown, hts⟩ (ob_MiE (mt_X1_pullOf l dC dI cI cZ cR cW xs _ ((a_b 2)) a_y y_5 x1 r_6 hc_55)) (cwV 1 hts gX4_swear_X1_pullOf rfl rfl rfl (by decide +kernel) ⟨Nat.le_of_ble_eq_true rfl, Nat.le_of_ble_eq_true rfl⟩) hK hE hP hD hS hA (ob_h3 (ob_ix [2, 3, 4, 5, 6, 7] [0, 1] rfl rfl rfl)) 1 0 rfl rfl rfl hl rfl rfl (Nat.le_of_ble_eq_true rfl) ⟨(Nat.le_of_ble_eq_true rfl), (Nat.le_of_ble_eq_true rfl)⟩ dX4_swear_55 (fun rq uq H locs hq hP hD hS => ?_)
          obtain rfl : r_6 = rq := hq.symm
          refine W.widen (k := 6) (n := 47) (Nat.le_refl _) (Nat.le_refl _) ?_
          replace hP : va_P (dC, dI) vwCl ((ob_w4 o_b a_b cI b ++ ob_w1 (a_b 2) a_y cI y_5) ++ ob_hw (a_b 4) a_h cI cR h_3 ad_4) H := ob_Pp hP (ob_h4 (ob_ix [2, 3, 4, 5, 6, 7] [0, 1] rfl rfl rfl))
          replace hD : va_D A ((ob_w4 o_b a_b cI b ++ ob_w1 (a_b 2) a_y cI y_5) ++ ob_hw (a_b 4) a_h cI cR h_3 ad_4) := ob_Dp hD (ob_h4 (ob_ix [2, 3, 4, 5, 6, 7] [0, 1] rfl rfl rfl))
          replace hP : va_P (dC, dI) vwCl (ob_w4 o_b a_b cI b ++ ob_w1 (a_b 2) a_y cI y_5 ++ ob_hw (a_b 4) a_h cI cR h_3 ad_4) H := hP
          replace hD : va_D A (ob_w4 o_b a_b cI b ++ ob_w1 (a_b 2) a_y cI y_5 ++ ob_hw (a_b 4) a_h cI cR h_3 ad_4) := hD
          obtain ⟨e1, e2, e3⟩ := ob_pq hd
          subst e1
          subst e2
          subst e3
          exact ob_iretE (w' := fun ad' => (ob_w4 o_b a_b cI b ++ ob_w1 (a_b 2) a_y cI y_5 ++ ob_hw (a_b 4) a_h cI cR h_3 ad')) ad_4 hx hb hr hlocks rfl hP hD hS dX4_swear_58
        · replace hd := ob_f c_23 hd
          refine lv_ldc hx hb hown kw0 dX4_swear_26 ?_
          obtain ⟨e1, e2, e3⟩ := ob_pq hd
          subst e1
          subst e2
          subst e3
          refine W.widen (k := 6) (n := 47) (by omega) (by omega) ?_
          exact ob_iretE (w' := fun ad' => (ob_w4 o_b a_b cI b ++ ob_w1 (a_b 2) a_y cI y ++ ob_hw (a_b 4) a_h cI cR h ad')) ad_h hx hb hr hlocks rfl hP hD hS dX4_swear_28

def fd_X4_buy  (b : ob_B) (y : ob_B) (h : ob_H) (x1 : Int32) : Option (Int32 × ob_B × ob_H) := ob_b1 (fd_X4_isOath b y x1) (fun r_1 => if r_1 = 0 then (some ((-1000001), y, h)) else (if x1 < 0 ∨ 7 ≤ Int32.toNatClampNeg x1 then none else (if ((y.2 11) (Int32.toNatClampNeg x1)) = 0 then (ob_b1 (fd_X0_rem h y) (fun h_2 => if x1 < 0 ∨ 7 ≤ Int32.toNatClampNeg x1 then none else (ob_lt (ob_A y 11 (upd (y.2 11) (Int32.toNatClampNeg x1) 3) : ob_B) (fun y_4 => ob_b1 (fd_X1_openBits y_4) (fun r_5 => ob_b1 (fd_J6_bitCount_0f7a4 r_5) (fun r_6 => some (r_6, y_4, h_2))))))) else (some ((-1000002), y, h)))))
set_option maxHeartbeats 4000000 in
set_option maxRecDepth 100000 in
theorem mt_X4_buy (l : Launch) (dC : Nat → ClassId) (dI : Nat → Nat → Nat) (cI cZ cR cW : ClassId) (xs : Nat → Nat) (sz : Nat) (o_b : Nat) (a_b : Nat → Nat) (a_y : Nat → Nat) (a_h : Nat → Nat) (ad_h : ob_AH) (b : ob_B) (y : ob_B) (h : ob_H) (x1 : Int32)  (rr : Int32) (y' : ob_B) (h' : ob_H) (hd : fd_X4_buy b y h x1 = some (rr, y', h')) : ob_M l yX4_buy wsX4_buy ({ frames := 3, cells := 6, slots := 47, locals := 103 } : Room) (dC, dI) (ob_ty cI cZ cR cW) xs [.ref o_b, .int x1] (ob_w4 o_b a_b cI b ++ ob_w1 (a_b 2) a_y cI y ++ ob_hw (a_b 4) a_h cI cR h ad_h) sz (ob_QiE (dC, dI) (fun (r' : Int32) (_ : ob_AH) => r' = rr) (fun ad' => (ob_w4 o_b a_b cI b ++ ob_w1 (a_b 2) a_y cI y' ++ ob_hw (a_b 4) a_h cI cR h' ad'))) := by
  rw [fd_X4_buy] at hd
  refine ob_in (cc := cX4_buy) (maxL := 2) (ret := (some .int)) (own := RX4) (by decide) rfl rfl [(0, .ref o_b), (1, .int x1)] rfl (Nat.le_of_ble_eq_true rfl) ?_
  intro p e s m below meth c hx hb hr hml hown hts hlocks hnm hK A hA hE hP hD hS ls hl
  have kw0 := hts (.fieldLink RX4 25 "OathCoach" "route" "LOathCoach$Route;") (by decide +kernel)
  have kw1 := hts (.fieldLink RX4 166 "OathCoach$Route" "came" "[I") (by decide +kernel)
  have kw2 := hts (.fieldLink RX4 35 "OathCoach" "history" "LOathCoach$History;") (by decide +kernel)
  have kw3 := hts (.constant RX4 137 (-1000002)) (by decide +kernel)
  have kw4 := hts (.constant RX4 62 (-1000001)) (by decide +kernel)
  have hi_X1 : ∀ w ∈ u_ws RX1 TX1 12, w ∈ wsX4_buy := by decide +kernel
  have hi_X4 : ∀ w ∈ u_ws RX4 TX4 10, w ∈ wsX4_buy := by decide +kernel
  refine lv_aload_n hx hb dX4_buy_0 rfl (lv_at hl 0 rfl) ?_
  refine lv_iload_n hx hb dX4_buy_1 rfl (lv_at hl 1 rfl) ?_
  obtain ⟨r_1, hc_2, hd⟩ := ob_s1 hd
  refine ob_PVi (wc := (ob_w4 o_b a_b cI b ++ ob_w1 (a_b 2) a_y cI y)) (wr := (([] : va_W) ++ ob_hw (a_b 4) a_h cI cR h ad_h)) (b := o_b) (As := [.int x1]) (rest := []) ⟨hx, hb, hml, hown, hts⟩ (ob_MiE (mt_X4_isOath l dC dI cI cZ cR cW xs _ o_b a_b a_y b y x1 r_1 hc_2)) (cwV 1 hts gX4_buy_X4_isOath rfl rfl rfl (by decide +kernel) ⟨Nat.le_of_ble_eq_true rfl, Nat.le_of_ble_eq_true rfl⟩) hK hE hP hD hS hA (ob_h3 (ob_ix [0, 1, 2, 3, 4, 5, 6, 7] [] rfl rfl rfl)) 4 0 rfl rfl rfl hl rfl rfl (Nat.le_of_ble_eq_true rfl) ⟨(Nat.le_of_ble_eq_true rfl), (Nat.le_of_ble_eq_true rfl)⟩ dX4_buy_2 (fun rq uq H locs hq hP hD hS => ?_)
  obtain rfl : r_1 = rq := hq.symm
  refine W.widen (k := 0) (n := 0) (Nat.le_refl _) (Nat.le_refl _) ?_
  replace hP : va_P (dC, dI) vwCl ((ob_w4 o_b a_b cI b ++ ob_w1 (a_b 2) a_y cI y) ++ ob_hw (a_b 4) a_h cI cR h ad_h) H := ob_Pp hP (ob_h4 (ob_ix [0, 1, 2, 3, 4, 5, 6, 7] [] rfl rfl rfl))
  replace hD : va_D A ((ob_w4 o_b a_b cI b ++ ob_w1 (a_b 2) a_y cI y) ++ ob_hw (a_b 4) a_h cI cR h ad_h) := ob_Dp hD (ob_h4 (ob_ix [0, 1, 2, 3, 4, 5, 6, 7] [] rfl rfl rfl))
  replace hP : va_P (dC, dI) vwCl (ob_w4 o_b a_b cI b ++ ob_w1 (a_b 2) a_y cI y ++ ob_hw (a_b 4) a_h cI cR h ad_h) H := hP
  replace hD : va_D A (ob_w4 o_b a_b cI b ++ ob_w1 (a_b 2) a_y cI y ++ ob_hw (a_b 4) a_h cI cR h ad_h) := hD
  refine lv_if_ne (tgt := 11) hx hb dX4_buy_5 (by decide) (fun c_5 => ?_) (fun c_5 => ?_)
  · replace hd := ob_f c_5 hd
    refine lv_aload_n hx hb dX4_buy_11 rfl (lv_at hl 0 rfl) ?_
    refine va_get (D := (dC, dI)) (ci := 4) (v := .ref (a_b 2)) (C := RX4) (T := TX4) (N := 10) hx hb hts hi_X4 hown hK hP 0 rfl rfl 2 (by decide) kw0 (fun _ h9 => h9) rfl dX4_buy_12 ?_
    refine va_get (D := (dC, dI)) (ci := 1) (v := .ref (a_y 11)) (C := RX1) (T := TX1) (N := 12) hx hb hts hi_X1 hown hK hP 2 rfl rfl 11 (by decide) kw1 (fun _ h9 => h9) rfl dX4_buy_15 ?_
    refine lv_iload_n hx hb dX4_buy_18 rfl (lv_at hl 1 rfl) ?_
    obtain ⟨h1_19, hd⟩ := ob_nn hd
    refine va_iald hx hb hK hP 7 0 rfl rfl h1_19 dX4_buy_19 ?_
    refine lv_if_eq (tgt := 26) hx hb dX4_buy_20 (by decide) (fun c_20 => ?_) (fun c_20 => ?_)
    · replace hd := ob_t c_20 hd
      refine lv_aload_n hx hb dX4_buy_26 rfl (lv_at hl 0 rfl) ?_
      refine va_get (D := (dC, dI)) (ci := 4) (v := .ref (a_b 4)) (C := RX4) (T := TX4) (N := 10) hx hb hts hi_X4 hown hK hP 0 rfl rfl 4 (by decide) kw2 (fun _ h9 => h9) rfl dX4_buy_27 ?_
      refine lv_aload_n hx hb dX4_buy_30 rfl (lv_at hl 0 rfl) ?_
      refine va_get (D := (dC, dI)) (ci := 4) (v := .ref (a_b 2)) (C := RX4) (T := TX4) (N := 10) hx hb hts hi_X4 hown hK hP 0 rfl rfl 2 (by decide) kw0 (fun _ h9 => h9) rfl dX4_buy_31 ?_
      obtain ⟨h_2, hc_34, hd⟩ := ob_s1 hd
      refine ob_PVv (wc := (ob_hw (a_b 4) a_h cI cR h ad_h ++ ob_w1 (a_b 2) a_y cI y)) (wr := (List.filterMap (fun i => (ob_w4 o_b a_b cI b ++ ob_w1 (a_b 2) a_y cI y)[i]?) [0, 1])) (b := (a_b 4)) (As := [.ref (a_b 2)]) (rest := []) ⟨hx, hb, hml, hown, hts⟩ (mt_X0_rem l dC dI cI cZ cR cW xs _ ((a_b 4)) a_h ad_h ((a_b 2)) a_y h y h_2 hc_34) (cwV 1 hts gX4_buy_X0_remember rfl rfl rfl (by decide +kernel) ⟨Nat.le_of_ble_eq_true rfl, Nat.le_of_ble_eq_true rfl⟩) hK hE hP hD hS hA (ob_h1 (ob_ix [2, 3, 4, 5, 6, 7] [0, 1] rfl rfl rfl)) 0 0 rfl rfl rfl hl rfl rfl (Nat.le_of_ble_eq_true rfl) ⟨(Nat.le_of_ble_eq_true rfl), (Nat.le_of_ble_eq_true rfl)⟩ dX4_buy_34 (fun ad_3 H locs hq hP hD hS => ?_)
      refine W.widen (k := 6) (n := 47) (Nat.le_refl _) (Nat.le_refl _) ?_
      replace hP : va_P (dC, dI) vwCl ((ob_w4 o_b a_b cI b ++ ob_w1 (a_b 2) a_y cI y) ++ ob_hw (a_b 4) a_h cI cR h_2 ad_3) H := ob_Pp hP (ob_h2 (ob_ix [2, 3, 4, 5, 6, 7] [0, 1] rfl rfl rfl))
      replace hD : va_D A ((ob_w4 o_b a_b cI b ++ ob_w1 (a_b 2) a_y cI y) ++ ob_hw (a_b 4) a_h cI cR h_2 ad_3) := ob_Dp hD (ob_h2 (ob_ix [2, 3, 4, 5, 6, 7] [0, 1] rfl rfl rfl))
      replace hP : va_P (dC, dI) vwCl (ob_w4 o_b a_b cI b ++ ob_w1 (a_b 2) a_y cI y ++ ob_hw (a_b 4) a_h cI cR h_2 ad_3) H := hP
      replace hD : va_D A (ob_w4 o_b a_b cI b ++ ob_w1 (a_b 2) a_y cI y ++ ob_hw (a_b 4) a_h cI cR h_2 ad_3) := hD
      refine lv_aload_n hx hb dX4_buy_37 rfl (lv_at hl 0 rfl) ?_
      refine va_get (D := (dC, dI)) (ci := 4) (v := .ref (a_b 2)) (C := RX4) (T := TX4) (N := 10) hx hb hts hi_X4 hown hK hP 0 rfl rfl 2 (by decide) kw0 (fun _ h9 => h9) rfl dX4_buy_38 ?_
      refine va_get (D := (dC, dI)) (ci := 1) (v := .ref (a_y 11)) (C := RX1) (T := TX1) (N := 12) hx hb hts hi_X1 hown hK hP 2 rfl rfl 11 (by decide) kw1 (fun _ h9 => h9) rfl dX4_buy_41 ?_
      refine lv_iload_n hx hb dX4_buy_44 rfl (lv_at hl 1 rfl) ?_
      refine lv_iconst (v := 3) hx hb dX4_buy_45 (by decide) ?_
      obtain ⟨h1_46, hd⟩ := ob_nn hd
      refine va_iast hx hb hK hP hD hS 7 0 rfl rfl h1_46 dX4_buy_46 (fun H locs hP hD hS => ?_)
      obtain ⟨y_4, ey_4⟩ : ∃ z : ob_B, z = ob_A y 11 (upd (y.2 11) (Int32.toNatClampNeg x1) 3) := ⟨_, rfl⟩
      replace hd := ob_lx ey_4 hd
      replace hP : va_P (dC, dI) vwCl (ob_w4 o_b a_b cI b ++ ob_w1 (a_b 2) a_y cI y_4 ++ ob_hw (a_b 4) a_h cI cR h_2 ad_3) H := by rw [ey_4]; exact hP
      replace hD : va_D A (ob_w4 o_b a_b cI b ++ ob_w1 (a_b 2) a_y cI y_4 ++ ob_hw (a_b 4) a_h cI cR h_2 ad_3) := by rw [ey_4]; exact hD
      clear ey_4
      refine lv_aload_n hx hb dX4_buy_47 rfl (lv_at hl 0 rfl) ?_
      refine va_get (D := (dC, dI)) (ci := 4) (v := .ref (a_b 2)) (C := RX4) (T := TX4) (N := 10) hx hb hts hi_X4 hown hK hP 0 rfl rfl 2 (by decide) kw0 (fun _ h9 => h9) rfl dX4_buy_48 ?_
      obtain ⟨r_5, hc_51, hd⟩ := ob_s1 hd
      refine ob_PVi (wc := (ob_w1 (a_b 2) a_y cI y_4)) (wr := ((List.filterMap (fun i => (ob_w4 o_b a_b cI b ++ ob_w1 (a_b 2) a_y cI y_4)[i]?) [0, 1]) ++ ob_hw (a_b 4) a_h cI cR h_2 ad_3)) (b := (a_b 2)) (As := []) (rest := []) ⟨hx, hb, hml, hown, hts⟩ (ob_MiE (mt_X1_openBits l dC dI cI cZ cR cW xs _ ((a_b 2)) a_y y_4 r_5 hc_51)) (cwV 0 hts gX4_buy_X1_openBits rfl rfl rfl (by decide +kernel) ⟨Nat.le_of_ble_eq_true rfl, Nat.le_of_ble_eq_true rfl⟩) hK hE hP hD hS hA (ob_h3 (ob_ix [2, 3, 4, 5, 6, 7] [0, 1] rfl rfl rfl)) 1 0 rfl rfl rfl hl rfl rfl (Nat.le_of_ble_eq_true rfl) ⟨(Nat.le_of_ble_eq_true rfl), (Nat.le_of_ble_eq_true rfl)⟩ dX4_buy_51 (fun rq uq H locs hq hP hD hS => ?_)
      obtain rfl : r_5 = rq := hq.symm
      refine W.widen (k := 6) (n := 47) (Nat.le_refl _) (Nat.le_refl _) ?_
      replace hP : va_P (dC, dI) vwCl ((ob_w4 o_b a_b cI b ++ ob_w1 (a_b 2) a_y cI y_4) ++ ob_hw (a_b 4) a_h cI cR h_2 ad_3) H := ob_Pp hP (ob_h4 (ob_ix [2, 3, 4, 5, 6, 7] [0, 1] rfl rfl rfl))
      replace hD : va_D A ((ob_w4 o_b a_b cI b ++ ob_w1 (a_b 2) a_y cI y_4) ++ ob_hw (a_b 4) a_h cI cR h_2 ad_3) := ob_Dp hD (ob_h4 (ob_ix [2, 3, 4, 5, 6, 7] [0, 1] rfl rfl rfl))
      replace hP : va_P (dC, dI) vwCl (ob_w4 o_b a_b cI b ++ ob_w1 (a_b 2) a_y cI y_4 ++ ob_hw (a_b 4) a_h cI cR h_2 ad_3) H := hP
      replace hD : va_D A (ob_w4 o_b a_b cI b ++ ob_w1 (a_b 2) a_y cI y_4 ++ ob_hw (a_b 4) a_h cI cR h_2 ad_3) := hD
      obtain ⟨r_6, hc_54, hd⟩ := ob_s1 hd
      refine ob_PSi (wc := ([] : va_W)) (wr := ((List.filterMap (fun i => (ob_w4 o_b a_b cI b ++ ob_w1 (a_b 2) a_y cI y_4)[i]?) [0, 1, 2, 3, 4, 5, 6, 7]) ++ ob_hw (a_b 4) a_h cI cR h_2 ad_3)) (As := [.int r_5]) (rest := []) ⟨hx, hb, hml, hown, hts⟩ (ob_MiE (mt_J6_bitCount_0f7a4 l dC dI cI cZ cR cW xs _ r_5 r_6 hc_54)) (va_cwS 1 hts gX4_buy_J6_bitCount_0f7a4 rfl rfl rfl (by decide +kernel) ⟨Nat.le_of_ble_eq_true rfl, Nat.le_of_ble_eq_true rfl⟩) hK hE hP hD hS hA (ob_h3 (ob_ix [] [0, 1, 2, 3, 4, 5, 6, 7] rfl rfl rfl)) hl rfl rfl (Nat.le_of_ble_eq_true rfl) ⟨(Nat.le_of_ble_eq_true rfl), (Nat.le_of_ble_eq_true rfl)⟩ dX4_buy_54 (fun rq uq H locs hq hP hD hS => ?_)
      obtain rfl : r_6 = rq := hq.symm
      refine W.widen (k := 6) (n := 47) (Nat.le_refl _) (Nat.le_refl _) ?_
      replace hP : va_P (dC, dI) vwCl ((ob_w4 o_b a_b cI b ++ ob_w1 (a_b 2) a_y cI y_4) ++ ob_hw (a_b 4) a_h cI cR h_2 ad_3) H := ob_Pp hP (ob_h4 (ob_ix [] [0, 1, 2, 3, 4, 5, 6, 7] rfl rfl rfl))
      replace hD : va_D A ((ob_w4 o_b a_b cI b ++ ob_w1 (a_b 2) a_y cI y_4) ++ ob_hw (a_b 4) a_h cI cR h_2 ad_3) := ob_Dp hD (ob_h4 (ob_ix [] [0, 1, 2, 3, 4, 5, 6, 7] rfl rfl rfl))
      replace hP : va_P (dC, dI) vwCl (ob_w4 o_b a_b cI b ++ ob_w1 (a_b 2) a_y cI y_4 ++ ob_hw (a_b 4) a_h cI cR h_2 ad_3) H := hP
      replace hD : va_D A (ob_w4 o_b a_b cI b ++ ob_w1 (a_b 2) a_y cI y_4 ++ ob_hw (a_b 4) a_h cI cR h_2 ad_3) := hD
      obtain ⟨e1, e2, e3⟩ := ob_pq hd
      subst e1
      subst e2
      subst e3
      exact ob_iretE (w' := fun ad' => (ob_w4 o_b a_b cI b ++ ob_w1 (a_b 2) a_y cI y_4 ++ ob_hw (a_b 4) a_h cI cR h_2 ad')) ad_3 hx hb hr hlocks rfl hP hD hS dX4_buy_57
    · replace hd := ob_f c_20 hd
      refine lv_ldc hx hb hown kw3 dX4_buy_23 ?_
      obtain ⟨e1, e2, e3⟩ := ob_pq hd
      subst e1
      subst e2
      subst e3
      refine W.widen (k := 6) (n := 47) (by omega) (by omega) ?_
      exact ob_iretE (w' := fun ad' => (ob_w4 o_b a_b cI b ++ ob_w1 (a_b 2) a_y cI y ++ ob_hw (a_b 4) a_h cI cR h ad')) ad_h hx hb hr hlocks rfl hP hD hS dX4_buy_25
  · replace hd := ob_t c_5 hd
    refine lv_ldc hx hb hown kw4 dX4_buy_8 ?_
    obtain ⟨e1, e2, e3⟩ := ob_pq hd
    subst e1
    subst e2
    subst e3
    refine W.widen (k := 6) (n := 47) (by omega) (by omega) ?_
    exact ob_iretE (w' := fun ad' => (ob_w4 o_b a_b cI b ++ ob_w1 (a_b 2) a_y cI y ++ ob_hw (a_b 4) a_h cI cR h ad')) ad_h hx hb hr hlocks rfl hP hD hS dX4_buy_10

def fd_X4_snow  (b : ob_B) (y : ob_B) (h : ob_H) (x1 : Int32) (x2 : Int32) : Option (Int32 × ob_B × ob_H) := ob_b1 (fd_X4_noRoute b y) (fun r_1 => if r_1 = 0 then (ob_b1 (fd_X4_isPlace x1) (fun r_2 => if r_2 = 0 then (some ((-1000001), y, h)) else (ob_b1 (fd_X4_isEither x2) (fun r_3 => if r_3 = 0 then (some ((-1000001), y, h)) else (if (((y.1 3) >>> (x1 &&& 31)) &&& 1) = x2 then (some ((-1000002), y, h)) else (ob_b1 (fd_X0_rem h y) (fun h_4 => ob_lt ((y.1 3) ^^^ (1 <<< (x1 &&& 31)) : Int32) (fun x_6 => ob_lt (ob_I y 3 x_6 : ob_B) (fun y_7 => some (y_7.1 3, y_7, h_4)))))))))) else (some ((-1000002), y, h)))
set_option maxHeartbeats 4000000 in
set_option maxRecDepth 100000 in
theorem mt_X4_snow (l : Launch) (dC : Nat → ClassId) (dI : Nat → Nat → Nat) (cI cZ cR cW : ClassId) (xs : Nat → Nat) (sz : Nat) (o_b : Nat) (a_b : Nat → Nat) (a_y : Nat → Nat) (a_h : Nat → Nat) (ad_h : ob_AH) (b : ob_B) (y : ob_B) (h : ob_H) (x1 : Int32) (x2 : Int32)  (rr : Int32) (y' : ob_B) (h' : ob_H) (hd : fd_X4_snow b y h x1 x2 = some (rr, y', h')) : ob_M l yX4_snow wsX4_snow ({ frames := 3, cells := 6, slots := 47, locals := 103 } : Room) (dC, dI) (ob_ty cI cZ cR cW) xs [.ref o_b, .int x1, .int x2] (ob_w4 o_b a_b cI b ++ ob_w1 (a_b 2) a_y cI y ++ ob_hw (a_b 4) a_h cI cR h ad_h) sz (ob_QiE (dC, dI) (fun (r' : Int32) (_ : ob_AH) => r' = rr) (fun ad' => (ob_w4 o_b a_b cI b ++ ob_w1 (a_b 2) a_y cI y' ++ ob_hw (a_b 4) a_h cI cR h' ad'))) := by
  rw [fd_X4_snow] at hd
  refine ob_in (cc := cX4_snow) (maxL := 3) (ret := (some .int)) (own := RX4) (by decide) rfl rfl [(0, .ref o_b), (1, .int x1), (2, .int x2)] rfl (Nat.le_of_ble_eq_true rfl) ?_
  intro p e s m below meth c hx hb hr hml hown hts hlocks hnm hK A hA hE hP hD hS ls hl
  have kw0 := hts (.constant RX4 62 (-1000001)) (by decide +kernel)
  have kw1 := hts (.fieldLink RX4 25 "OathCoach" "route" "LOathCoach$Route;") (by decide +kernel)
  have kw2 := hts (.fieldLink RX4 180 "OathCoach$Route" "snow" "I") (by decide +kernel)
  have kw3 := hts (.fieldLink RX4 35 "OathCoach" "history" "LOathCoach$History;") (by decide +kernel)
  have kw4 := hts (.constant RX4 137 (-1000002)) (by decide +kernel)
  have hi_X1 : ∀ w ∈ u_ws RX1 TX1 12, w ∈ wsX4_snow := by decide +kernel
  have hi_X4 : ∀ w ∈ u_ws RX4 TX4 10, w ∈ wsX4_snow := by decide +kernel
  refine lv_aload_n hx hb dX4_snow_0 rfl (lv_at hl 0 rfl) ?_
  obtain ⟨r_1, hc_1, hd⟩ := ob_s1 hd
  refine ob_PVi (wc := (ob_w4 o_b a_b cI b ++ ob_w1 (a_b 2) a_y cI y)) (wr := (([] : va_W) ++ ob_hw (a_b 4) a_h cI cR h ad_h)) (b := o_b) (As := []) (rest := []) ⟨hx, hb, hml, hown, hts⟩ (ob_MiE (mt_X4_noRoute l dC dI cI cZ cR cW xs _ o_b a_b a_y b y r_1 hc_1)) (cwV 0 hts gX4_snow_X4_noRoute rfl rfl rfl (by decide +kernel) ⟨Nat.le_of_ble_eq_true rfl, Nat.le_of_ble_eq_true rfl⟩) hK hE hP hD hS hA (ob_h3 (ob_ix [0, 1, 2, 3, 4, 5, 6, 7] [] rfl rfl rfl)) 4 0 rfl rfl rfl hl rfl rfl (Nat.le_of_ble_eq_true rfl) ⟨(Nat.le_of_ble_eq_true rfl), (Nat.le_of_ble_eq_true rfl)⟩ dX4_snow_1 (fun rq uq H locs hq hP hD hS => ?_)
  obtain rfl : r_1 = rq := hq.symm
  refine W.widen (k := 0) (n := 0) (Nat.le_refl _) (Nat.le_refl _) ?_
  replace hP : va_P (dC, dI) vwCl ((ob_w4 o_b a_b cI b ++ ob_w1 (a_b 2) a_y cI y) ++ ob_hw (a_b 4) a_h cI cR h ad_h) H := ob_Pp hP (ob_h4 (ob_ix [0, 1, 2, 3, 4, 5, 6, 7] [] rfl rfl rfl))
  replace hD : va_D A ((ob_w4 o_b a_b cI b ++ ob_w1 (a_b 2) a_y cI y) ++ ob_hw (a_b 4) a_h cI cR h ad_h) := ob_Dp hD (ob_h4 (ob_ix [0, 1, 2, 3, 4, 5, 6, 7] [] rfl rfl rfl))
  replace hP : va_P (dC, dI) vwCl (ob_w4 o_b a_b cI b ++ ob_w1 (a_b 2) a_y cI y ++ ob_hw (a_b 4) a_h cI cR h ad_h) H := hP
  replace hD : va_D A (ob_w4 o_b a_b cI b ++ ob_w1 (a_b 2) a_y cI y ++ ob_hw (a_b 4) a_h cI cR h ad_h) := hD
  refine lv_if_eq (tgt := 10) hx hb dX4_snow_4 (by decide) (fun c_4 => ?_) (fun c_4 => ?_)
  · replace hd := ob_t c_4 hd
    refine lv_iload_n hx hb dX4_snow_10 rfl (lv_at hl 1 rfl) ?_
    obtain ⟨r_2, hc_11, hd⟩ := ob_s1 hd
    refine ob_PSi (wc := ([] : va_W)) (wr := ((List.filterMap (fun i => (ob_w4 o_b a_b cI b ++ ob_w1 (a_b 2) a_y cI y)[i]?) [0, 1, 2, 3, 4, 5, 6, 7]) ++ ob_hw (a_b 4) a_h cI cR h ad_h)) (As := [.int x1]) (rest := []) ⟨hx, hb, hml, hown, hts⟩ (ob_MiE (mt_X4_isPlace l dC dI cI cZ cR cW xs _ x1 r_2 hc_11)) (va_cwS 1 hts gX4_snow_X4_isPlace rfl rfl rfl (by decide +kernel) ⟨Nat.le_of_ble_eq_true rfl, Nat.le_of_ble_eq_true rfl⟩) hK hE hP hD hS hA (ob_h3 (ob_ix [] [0, 1, 2, 3, 4, 5, 6, 7] rfl rfl rfl)) hl rfl rfl (Nat.le_of_ble_eq_true rfl) ⟨(Nat.le_of_ble_eq_true rfl), (Nat.le_of_ble_eq_true rfl)⟩ dX4_snow_11 (fun rq uq H locs hq hP hD hS => ?_)
    obtain rfl : r_2 = rq := hq.symm
    refine W.widen (k := 0) (n := 0) (Nat.le_refl _) (Nat.le_refl _) ?_
    replace hP : va_P (dC, dI) vwCl ((ob_w4 o_b a_b cI b ++ ob_w1 (a_b 2) a_y cI y) ++ ob_hw (a_b 4) a_h cI cR h ad_h) H := ob_Pp hP (ob_h4 (ob_ix [] [0, 1, 2, 3, 4, 5, 6, 7] rfl rfl rfl))
    replace hD : va_D A ((ob_w4 o_b a_b cI b ++ ob_w1 (a_b 2) a_y cI y) ++ ob_hw (a_b 4) a_h cI cR h ad_h) := ob_Dp hD (ob_h4 (ob_ix [] [0, 1, 2, 3, 4, 5, 6, 7] rfl rfl rfl))
    replace hP : va_P (dC, dI) vwCl (ob_w4 o_b a_b cI b ++ ob_w1 (a_b 2) a_y cI y ++ ob_hw (a_b 4) a_h cI cR h ad_h) H := hP
    replace hD : va_D A (ob_w4 o_b a_b cI b ++ ob_w1 (a_b 2) a_y cI y ++ ob_hw (a_b 4) a_h cI cR h ad_h) := hD
    refine lv_if_eq (tgt := 24) hx hb dX4_snow_14 (by decide) (fun c_14 => ?_) (fun c_14 => ?_)
    · replace hd := ob_t c_14 hd
      refine lv_ldc hx hb hown kw0 dX4_snow_24 ?_
      obtain ⟨e1, e2, e3⟩ := ob_pq hd
      subst e1
      subst e2
      subst e3
      refine W.widen (k := 6) (n := 47) (by omega) (by omega) ?_
      exact ob_iretE (w' := fun ad' => (ob_w4 o_b a_b cI b ++ ob_w1 (a_b 2) a_y cI y ++ ob_hw (a_b 4) a_h cI cR h ad')) ad_h hx hb hr hlocks rfl hP hD hS dX4_snow_26
    · replace hd := ob_f c_14 hd
      refine lv_iload_n hx hb dX4_snow_17 rfl (lv_at hl 2 rfl) ?_
      obtain ⟨r_3, hc_18, hd⟩ := ob_s1 hd
      refine ob_PSi (wc := ([] : va_W)) (wr := ((List.filterMap (fun i => (ob_w4 o_b a_b cI b ++ ob_w1 (a_b 2) a_y cI y)[i]?) [0, 1, 2, 3, 4, 5, 6, 7]) ++ ob_hw (a_b 4) a_h cI cR h ad_h)) (As := [.int x2]) (rest := []) ⟨hx, hb, hml, hown, hts⟩ (ob_MiE (mt_X4_isEither l dC dI cI cZ cR cW xs _ x2 r_3 hc_18)) (va_cwS 1 hts gX4_snow_X4_isEither rfl rfl rfl (by decide +kernel) ⟨Nat.le_of_ble_eq_true rfl, Nat.le_of_ble_eq_true rfl⟩) hK hE hP hD hS hA (ob_h3 (ob_ix [] [0, 1, 2, 3, 4, 5, 6, 7] rfl rfl rfl)) hl rfl rfl (Nat.le_of_ble_eq_true rfl) ⟨(Nat.le_of_ble_eq_true rfl), (Nat.le_of_ble_eq_true rfl)⟩ dX4_snow_18 (fun rq uq H locs hq hP hD hS => ?_)
      obtain rfl : r_3 = rq := hq.symm
      refine W.widen (k := 0) (n := 0) (Nat.le_refl _) (Nat.le_refl _) ?_
      replace hP : va_P (dC, dI) vwCl ((ob_w4 o_b a_b cI b ++ ob_w1 (a_b 2) a_y cI y) ++ ob_hw (a_b 4) a_h cI cR h ad_h) H := ob_Pp hP (ob_h4 (ob_ix [] [0, 1, 2, 3, 4, 5, 6, 7] rfl rfl rfl))
      replace hD : va_D A ((ob_w4 o_b a_b cI b ++ ob_w1 (a_b 2) a_y cI y) ++ ob_hw (a_b 4) a_h cI cR h ad_h) := ob_Dp hD (ob_h4 (ob_ix [] [0, 1, 2, 3, 4, 5, 6, 7] rfl rfl rfl))
      replace hP : va_P (dC, dI) vwCl (ob_w4 o_b a_b cI b ++ ob_w1 (a_b 2) a_y cI y ++ ob_hw (a_b 4) a_h cI cR h ad_h) H := hP
      replace hD : va_D A (ob_w4 o_b a_b cI b ++ ob_w1 (a_b 2) a_y cI y ++ ob_hw (a_b 4) a_h cI cR h ad_h) := hD
      refine lv_if_ne (tgt := 27) hx hb dX4_snow_21 (by decide) (fun c_21 => ?_) (fun c_21 => ?_)
      · replace hd := ob_f c_21 hd
        refine lv_aload_n hx hb dX4_snow_27 rfl (lv_at hl 0 rfl) ?_
        refine va_get (D := (dC, dI)) (ci := 4) (v := .ref (a_b 2)) (C := RX4) (T := TX4) (N := 10) hx hb hts hi_X4 hown hK hP 0 rfl rfl 2 (by decide) kw1 (fun _ h9 => h9) rfl dX4_snow_28 ?_
        refine va_get (D := (dC, dI)) (ci := 1) (v := .int (y.1 3)) (C := RX1) (T := TX1) (N := 12) hx hb hts hi_X1 hown hK hP 2 rfl rfl 3 (by decide) kw2 (fun _ h9 => h9) rfl dX4_snow_31 ?_
        refine lv_iload_n hx hb dX4_snow_34 rfl (lv_at hl 1 rfl) ?_
        refine lv_ishr hx hb dX4_snow_35 ?_
        refine lv_iconst (v := 1) hx hb dX4_snow_36 (by decide) ?_
        refine lv_iand hx hb dX4_snow_37 ?_
        refine lv_iload_n hx hb dX4_snow_38 rfl (lv_at hl 2 rfl) ?_
        refine lv_icmp_ne (tgt := 45) hx hb dX4_snow_39 (by decide) (fun c_39 => ?_) (fun c_39 => ?_)
        · replace hd := ob_f c_39 hd
          refine lv_aload_n hx hb dX4_snow_45 rfl (lv_at hl 0 rfl) ?_
          refine va_get (D := (dC, dI)) (ci := 4) (v := .ref (a_b 4)) (C := RX4) (T := TX4) (N := 10) hx hb hts hi_X4 hown hK hP 0 rfl rfl 4 (by decide) kw3 (fun _ h9 => h9) rfl dX4_snow_46 ?_
          refine lv_aload_n hx hb dX4_snow_49 rfl (lv_at hl 0 rfl) ?_
          refine va_get (D := (dC, dI)) (ci := 4) (v := .ref (a_b 2)) (C := RX4) (T := TX4) (N := 10) hx hb hts hi_X4 hown hK hP 0 rfl rfl 2 (by decide) kw1 (fun _ h9 => h9) rfl dX4_snow_50 ?_
          obtain ⟨h_4, hc_53, hd⟩ := ob_s1 hd
          refine ob_PVv (wc := (ob_hw (a_b 4) a_h cI cR h ad_h ++ ob_w1 (a_b 2) a_y cI y)) (wr := (List.filterMap (fun i => (ob_w4 o_b a_b cI b ++ ob_w1 (a_b 2) a_y cI y)[i]?) [0, 1])) (b := (a_b 4)) (As := [.ref (a_b 2)]) (rest := []) ⟨hx, hb, hml, hown, hts⟩ (mt_X0_rem l dC dI cI cZ cR cW xs _ ((a_b 4)) a_h ad_h ((a_b 2)) a_y h y h_4 hc_53) (cwV 1 hts gX4_snow_X0_remember rfl rfl rfl (by decide +kernel) ⟨Nat.le_of_ble_eq_true rfl, Nat.le_of_ble_eq_true rfl⟩) hK hE hP hD hS hA (ob_h1 (ob_ix [2, 3, 4, 5, 6, 7] [0, 1] rfl rfl rfl)) 0 0 rfl rfl rfl hl rfl rfl (Nat.le_of_ble_eq_true rfl) ⟨(Nat.le_of_ble_eq_true rfl), (Nat.le_of_ble_eq_true rfl)⟩ dX4_snow_53 (fun ad_5 H locs hq hP hD hS => ?_)
          refine W.widen (k := 6) (n := 47) (Nat.le_refl _) (Nat.le_refl _) ?_
          replace hP : va_P (dC, dI) vwCl ((ob_w4 o_b a_b cI b ++ ob_w1 (a_b 2) a_y cI y) ++ ob_hw (a_b 4) a_h cI cR h_4 ad_5) H := ob_Pp hP (ob_h2 (ob_ix [2, 3, 4, 5, 6, 7] [0, 1] rfl rfl rfl))
          replace hD : va_D A ((ob_w4 o_b a_b cI b ++ ob_w1 (a_b 2) a_y cI y) ++ ob_hw (a_b 4) a_h cI cR h_4 ad_5) := ob_Dp hD (ob_h2 (ob_ix [2, 3, 4, 5, 6, 7] [0, 1] rfl rfl rfl))
          replace hP : va_P (dC, dI) vwCl (ob_w4 o_b a_b cI b ++ ob_w1 (a_b 2) a_y cI y ++ ob_hw (a_b 4) a_h cI cR h_4 ad_5) H := hP
          replace hD : va_D A (ob_w4 o_b a_b cI b ++ ob_w1 (a_b 2) a_y cI y ++ ob_hw (a_b 4) a_h cI cR h_4 ad_5) := hD
          refine lv_aload_n hx hb dX4_snow_56 rfl (lv_at hl 0 rfl) ?_
          refine va_get (D := (dC, dI)) (ci := 4) (v := .ref (a_b 2)) (C := RX4) (T := TX4) (N := 10) hx hb hts hi_X4 hown hK hP 0 rfl rfl 2 (by decide) kw1 (fun _ h9 => h9) rfl dX4_snow_57 ?_
          refine lv_dup hx hb dX4_snow_60 rfl ?_
          refine va_get (D := (dC, dI)) (ci := 1) (v := .int (y.1 3)) (C := RX1) (T := TX1) (N := 12) hx hb hts hi_X1 hown hK hP 2 rfl rfl 3 (by decide) kw2 (fun _ h9 => h9) rfl dX4_snow_61 ?_
          refine lv_iconst (v := 1) hx hb dX4_snow_64 (by decide) ?_
          refine lv_iload_n hx hb dX4_snow_65 rfl (lv_at hl 1 rfl) ?_
          refine lv_ishl hx hb dX4_snow_66 ?_
          refine lv_ixor hx hb dX4_snow_67 ?_
          refine lv_topi (fun x_6 ex_6 => ?_)
          replace hd := ob_lx ex_6 hd
          clear ex_6
          refine va_put (D := (dC, dI)) (ci := 1) (v := .int x_6) (ty := .int) (C := RX1) (T := TX1) (N := 12) hx hb hts hi_X1 tyX1 tyX1_ok nmX1 hown hK hP hD hS 2 rfl rfl 3 (by decide) kw2 (fun _ h9 => h9) rfl (by decide +kernel) rfl rfl (Nat.le_of_ble_eq_true rfl) dX4_snow_68 (fun H locs hP hD hS => ?_)
          obtain ⟨y_7, ey_7⟩ : ∃ z : ob_B, z = ob_I y 3 x_6 := ⟨_, rfl⟩
          replace hd := ob_lx ey_7 hd
          replace hP : va_P (dC, dI) vwCl (ob_w4 o_b a_b cI b ++ ob_w1 (a_b 2) a_y cI y_7 ++ ob_hw (a_b 4) a_h cI cR h_4 ad_5) H := by rw [ey_7]; exact hP
          replace hD : va_D A (ob_w4 o_b a_b cI b ++ ob_w1 (a_b 2) a_y cI y_7 ++ ob_hw (a_b 4) a_h cI cR h_4 ad_5) := by rw [ey_7]; exact hD
          clear ey_7
          refine lv_aload_n hx hb dX4_snow_71 rfl (lv_at hl 0 rfl) ?_
          refine va_get (D := (dC, dI)) (ci := 4) (v := .ref (a_b 2)) (C := RX4) (T := TX4) (N := 10) hx hb hts hi_X4 hown hK hP 0 rfl rfl 2 (by decide) kw1 (fun _ h9 => h9) rfl dX4_snow_72 ?_
          refine va_get (D := (dC, dI)) (ci := 1) (v := .int (y_7.1 3)) (C := RX1) (T := TX1) (N := 12) hx hb hts hi_X1 hown hK hP 2 rfl rfl 3 (by decide) kw2 (fun _ h9 => h9) rfl dX4_snow_75 ?_
          obtain ⟨e1, e2, e3⟩ := ob_pq hd
          subst e1
          subst e2
          subst e3
          exact ob_iretE (w' := fun ad' => (ob_w4 o_b a_b cI b ++ ob_w1 (a_b 2) a_y cI y_7 ++ ob_hw (a_b 4) a_h cI cR h_4 ad')) ad_5 hx hb hr hlocks rfl hP hD hS dX4_snow_78
        · replace hd := ob_t c_39 hd
          refine lv_ldc hx hb hown kw4 dX4_snow_42 ?_
          obtain ⟨e1, e2, e3⟩ := ob_pq hd
          subst e1
          subst e2
          subst e3
          refine W.widen (k := 6) (n := 47) (by omega) (by omega) ?_
          exact ob_iretE (w' := fun ad' => (ob_w4 o_b a_b cI b ++ ob_w1 (a_b 2) a_y cI y ++ ob_hw (a_b 4) a_h cI cR h ad')) ad_h hx hb hr hlocks rfl hP hD hS dX4_snow_44
      · replace hd := ob_t c_21 hd
        refine lv_ldc hx hb hown kw0 dX4_snow_24 ?_
        obtain ⟨e1, e2, e3⟩ := ob_pq hd
        subst e1
        subst e2
        subst e3
        refine W.widen (k := 6) (n := 47) (by omega) (by omega) ?_
        exact ob_iretE (w' := fun ad' => (ob_w4 o_b a_b cI b ++ ob_w1 (a_b 2) a_y cI y ++ ob_hw (a_b 4) a_h cI cR h ad')) ad_h hx hb hr hlocks rfl hP hD hS dX4_snow_26
  · replace hd := ob_f c_4 hd
    refine lv_ldc hx hb hown kw4 dX4_snow_7 ?_
    obtain ⟨e1, e2, e3⟩ := ob_pq hd
    subst e1
    subst e2
    subst e3
    refine W.widen (k := 6) (n := 47) (by omega) (by omega) ?_
    exact ob_iretE (w' := fun ad' => (ob_w4 o_b a_b cI b ++ ob_w1 (a_b 2) a_y cI y ++ ob_hw (a_b 4) a_h cI cR h ad')) ad_h hx hb hr hlocks rfl hP hD hS dX4_snow_9

def fd_X4_undo  (b : ob_B) (y : ob_B) (h : ob_H)  : Option (Int32 × ob_B × ob_H) := ob_b3 (fd_X0_tak h y) (fun r_1 h_2 y_3 => if r_1 = 0 then (some ((-1000002), y_3, h_2)) else (some (h_2.1.1 2, y_3, h_2)))
set_option maxHeartbeats 4000000 in
set_option maxRecDepth 100000 in
theorem mt_X4_undo (l : Launch) (dC : Nat → ClassId) (dI : Nat → Nat → Nat) (cI cZ cR cW : ClassId) (xs : Nat → Nat) (sz : Nat) (o_b : Nat) (a_b : Nat → Nat) (a_y : Nat → Nat) (a_h : Nat → Nat) (ad_h : ob_AH) (b : ob_B) (y : ob_B) (h : ob_H)   (rr : Int32) (y' : ob_B) (h' : ob_H) (hd : fd_X4_undo b y h = some (rr, y', h')) : ob_M l yX4_undo wsX4_undo ({ frames := 3, cells := 0, slots := 0, locals := 103 } : Room) (dC, dI) (ob_ty cI cZ cR cW) xs [.ref o_b] (ob_w4 o_b a_b cI b ++ ob_w1 (a_b 2) a_y cI y ++ ob_hw (a_b 4) a_h cI cR h ad_h) sz (ob_QiE (dC, dI) (fun (r' : Int32) (_ : ob_AH) => r' = rr) (fun ad' => (ob_w4 o_b a_b cI b ++ ob_w1 (a_b 2) a_y cI y' ++ ob_hw (a_b 4) a_h cI cR h' ad'))) := by
  rw [fd_X4_undo] at hd
  refine ob_in (cc := cX4_undo) (maxL := 1) (ret := (some .int)) (own := RX4) (by decide) rfl rfl [(0, .ref o_b)] rfl (Nat.le_of_ble_eq_true rfl) ?_
  intro p e s m below meth c hx hb hr hml hown hts hlocks hnm hK A hA hE hP hD hS ls hl
  have kw0 := hts (.fieldLink RX4 35 "OathCoach" "history" "LOathCoach$History;") (by decide +kernel)
  have kw1 := hts (.fieldLink RX4 25 "OathCoach" "route" "LOathCoach$Route;") (by decide +kernel)
  have kw2 := hts (.fieldLink RX4 138 "OathCoach$History" "size" "I") (by decide +kernel)
  have kw3 := hts (.constant RX4 137 (-1000002)) (by decide +kernel)
  have hi_X0 : ∀ w ∈ u_ws RX0 TX0 3, w ∈ wsX4_undo := by decide +kernel
  have hi_X4 : ∀ w ∈ u_ws RX4 TX4 10, w ∈ wsX4_undo := by decide +kernel
  refine lv_aload_n hx hb dX4_undo_0 rfl (lv_at hl 0 rfl) ?_
  refine va_get (D := (dC, dI)) (ci := 4) (v := .ref (a_b 4)) (C := RX4) (T := TX4) (N := 10) hx hb hts hi_X4 hown hK hP 0 rfl rfl 4 (by decide) kw0 (fun _ h9 => h9) rfl dX4_undo_1 ?_
  refine lv_aload_n hx hb dX4_undo_4 rfl (lv_at hl 0 rfl) ?_
  refine va_get (D := (dC, dI)) (ci := 4) (v := .ref (a_b 2)) (C := RX4) (T := TX4) (N := 10) hx hb hts hi_X4 hown hK hP 0 rfl rfl 2 (by decide) kw1 (fun _ h9 => h9) rfl dX4_undo_5 ?_
  obtain ⟨r_1, h_2, y_3, hc_8, hd⟩ := ob_s3 hd
  refine ob_PVi (wc := (ob_hw (a_b 4) a_h cI cR h ad_h ++ ob_w1 (a_b 2) a_y cI y)) (wr := (List.filterMap (fun i => (ob_w4 o_b a_b cI b ++ ob_w1 (a_b 2) a_y cI y)[i]?) [0, 1])) (b := (a_b 4)) (As := [.ref (a_b 2)]) (rest := []) ⟨hx, hb, hml, hown, hts⟩ (mt_X0_tak l dC dI cI cZ cR cW xs _ ((a_b 4)) a_h ad_h ((a_b 2)) a_y h y r_1 h_2 y_3 hc_8) (cwV 1 hts gX4_undo_X0_takeBack rfl rfl rfl (by decide +kernel) ⟨Nat.le_of_ble_eq_true rfl, Nat.le_of_ble_eq_true rfl⟩) hK hE hP hD hS hA (ob_h1 (ob_ix [2, 3, 4, 5, 6, 7] [0, 1] rfl rfl rfl)) 0 0 rfl rfl rfl hl rfl rfl (Nat.le_of_ble_eq_true rfl) ⟨(Nat.le_of_ble_eq_true rfl), (Nat.le_of_ble_eq_true rfl)⟩ dX4_undo_8 (fun rq ad_4 H locs hq hP hD hS => ?_)
  obtain rfl : r_1 = rq := hq.symm
  refine W.widen (k := 0) (n := 0) (Nat.le_refl _) (Nat.le_refl _) ?_
  replace hP : va_P (dC, dI) vwCl ((ob_w4 o_b a_b cI b ++ ob_w1 (a_b 2) a_y cI y_3) ++ ob_hw (a_b 4) a_h cI cR h_2 ad_4) H := ob_Pp hP (ob_h2 (ob_ix [2, 3, 4, 5, 6, 7] [0, 1] rfl rfl rfl))
  replace hD : va_D A ((ob_w4 o_b a_b cI b ++ ob_w1 (a_b 2) a_y cI y_3) ++ ob_hw (a_b 4) a_h cI cR h_2 ad_4) := ob_Dp hD (ob_h2 (ob_ix [2, 3, 4, 5, 6, 7] [0, 1] rfl rfl rfl))
  replace hP : va_P (dC, dI) vwCl (ob_w4 o_b a_b cI b ++ ob_w1 (a_b 2) a_y cI y_3 ++ ob_hw (a_b 4) a_h cI cR h_2 ad_4) H := hP
  replace hD : va_D A (ob_w4 o_b a_b cI b ++ ob_w1 (a_b 2) a_y cI y_3 ++ ob_hw (a_b 4) a_h cI cR h_2 ad_4) := hD
  refine lv_if_ne (tgt := 17) hx hb dX4_undo_11 (by decide) (fun c_11 => ?_) (fun c_11 => ?_)
  · replace hd := ob_f c_11 hd
    refine lv_aload_n hx hb dX4_undo_17 rfl (lv_at hl 0 rfl) ?_
    refine va_get (D := (dC, dI)) (ci := 4) (v := .ref (a_b 4)) (C := RX4) (T := TX4) (N := 10) hx hb hts hi_X4 hown hK hP 0 rfl rfl 4 (by decide) kw0 (fun _ h9 => h9) rfl dX4_undo_18 ?_
    refine va_get (D := (dC, dI)) (ci := 0) (v := .int (h_2.1.1 2)) (C := RX0) (T := TX0) (N := 3) hx hb hts hi_X0 hown hK hP 8 rfl rfl 2 (by decide) kw2 (fun _ h9 => h9) rfl dX4_undo_21 ?_
    obtain ⟨e1, e2, e3⟩ := ob_pq hd
    subst e1
    subst e2
    subst e3
    exact ob_iretE (w' := fun ad' => (ob_w4 o_b a_b cI b ++ ob_w1 (a_b 2) a_y cI y_3 ++ ob_hw (a_b 4) a_h cI cR h_2 ad')) ad_4 hx hb hr hlocks rfl hP hD hS dX4_undo_24
  · replace hd := ob_t c_11 hd
    refine lv_ldc hx hb hown kw3 dX4_undo_14 ?_
    obtain ⟨e1, e2, e3⟩ := ob_pq hd
    subst e1
    subst e2
    subst e3
    exact ob_iretE (w' := fun ad' => (ob_w4 o_b a_b cI b ++ ob_w1 (a_b 2) a_y cI y_3 ++ ob_hw (a_b 4) a_h cI cR h_2 ad')) ad_4 hx hb hr hlocks rfl hP hD hS dX4_undo_16

def fd_X4_hours_L44  : Nat → ob_B → ob_B → ob_H → Int32 → Int32 → Option (Int32 × ob_B × ob_H)
  | 0, _, _, _, _, _ => none
  | fu + 1, b, y, h, x1, z2 => if x1 ≤ z2 then (some (y.1 0, y, h)) else (ob_b1 (fd_X0_rem h y) (fun h_2 => ob_b2 (fd_X1_passHour y) (fun r_4 y_5 => ob_lt (z2 + 1 : Int32) (fun x_6 => fd_X4_hours_L44 fu b y_5 h_2 x1 x_6))))
def fd_X4_hours  (b : ob_B) (y : ob_B) (h : ob_H) (x1 : Int32) : Option (Int32 × ob_B × ob_H) := ob_b1 (fd_X4_noRoute b y) (fun r_1 => if r_1 = 0 then (if x1 < 1 then (some ((-1000001), y, h)) else (if x1 ≤ 24 then (if ((y.1 2) + x1) ≤ 999 then (fd_X4_hours_L44 25 b y h x1 0) else (some ((-1000003), y, h))) else (some ((-1000001), y, h)))) else (some ((-1000002), y, h)))
set_option maxHeartbeats 4000000 in
set_option maxRecDepth 100000 in
theorem mt_X4_hours (l : Launch) (dC : Nat → ClassId) (dI : Nat → Nat → Nat) (cI cZ cR cW : ClassId) (xs : Nat → Nat) (sz : Nat) (o_b : Nat) (a_b : Nat → Nat) (a_y : Nat → Nat) (a_h : Nat → Nat) (ad_h : ob_AH) (b : ob_B) (y : ob_B) (h : ob_H) (x1 : Int32)  (rr : Int32) (y' : ob_B) (h' : ob_H) (hd : fd_X4_hours b y h x1 = some (rr, y', h')) : ob_M l yX4_hours wsX4_hours ({ frames := 4, cells := 150, slots := 1175, locals := 103 } : Room) (dC, dI) (ob_ty cI cZ cR cW) xs [.ref o_b, .int x1] (ob_w4 o_b a_b cI b ++ ob_w1 (a_b 2) a_y cI y ++ ob_hw (a_b 4) a_h cI cR h ad_h) sz (ob_QiE (dC, dI) (fun (r' : Int32) (_ : ob_AH) => r' = rr) (fun ad' => (ob_w4 o_b a_b cI b ++ ob_w1 (a_b 2) a_y cI y' ++ ob_hw (a_b 4) a_h cI cR h' ad'))) := by
  rw [fd_X4_hours] at hd
  refine ob_in (cc := cX4_hours) (maxL := 3) (ret := (some .int)) (own := RX4) (by decide) rfl rfl [(0, .ref o_b), (1, .int x1)] rfl (Nat.le_of_ble_eq_true rfl) ?_
  intro p e s m below meth c hx hb hr hml hown hts hlocks hnm hK A hA hE hP hD hS ls hl
  have kw0 := hts (.constant RX4 62 (-1000001)) (by decide +kernel)
  have kw1 := hts (.fieldLink RX4 25 "OathCoach" "route" "LOathCoach$Route;") (by decide +kernel)
  have kw2 := hts (.fieldLink RX4 142 "OathCoach$Route" "hour" "I") (by decide +kernel)
  have kw3 := hts (.constant RX4 109 (-1000003)) (by decide +kernel)
  have kw4 := hts (.constant RX4 137 (-1000002)) (by decide +kernel)
  have kw5 := hts (.fieldLink RX4 152 "OathCoach$Route" "at" "I") (by decide +kernel)
  have kw6 := hts (.fieldLink RX4 35 "OathCoach" "history" "LOathCoach$History;") (by decide +kernel)
  have hi_X1 : ∀ w ∈ u_ws RX1 TX1 12, w ∈ wsX4_hours := by decide +kernel
  have hi_X4 : ∀ w ∈ u_ws RX4 TX4 10, w ∈ wsX4_hours := by decide +kernel
  have L44 : ∀  (fu : Nat), fu ≤ 25 → ∀ (H : Heap) (locs : List Loc) (ad_h : ob_AH) (y : ob_B) (h : ob_H) (z2 : Int32) (ls : Array Slot), va_P (dC, dI) vwCl (ob_w4 o_b a_b cI b ++ ob_w1 (a_b 2) a_y cI y ++ ob_hw (a_b 4) a_h cI cR h ad_h) H → va_D A (ob_w4 o_b a_b cI b ++ ob_w1 (a_b 2) a_y cI y ++ ob_hw (a_b 4) a_h cI cR h ad_h) → va_S A s.heap H locs → lv_has ls 3 [(0, .ref o_b), (1, .int x1), (2, .int z2)] → fd_X4_hours_L44 fu b y h x1 z2 = some (rr, y', h') → W p l e ({ frames := 4, cells := 150, slots := 1175, locals := 103 } : Room) s m (List.toArray [.ref o_b, .int x1]) below meth c H locs (6 * (25 - fu)) (47 * (25 - fu)) (MQ below ((ob_QiE (dC, dI) (fun (r' : Int32) (_ : ob_AH) => r' = rr) (fun ad' => (ob_w4 o_b a_b cI b ++ ob_w1 (a_b 2) a_y cI y' ++ ob_hw (a_b 4) a_h cI cR h' ad'))) A) (List.toArray [.ref o_b, .int x1]) s 150 1175 A) (F0 m 44 ls []) := by
    intro  fu
    induction fu with
    | zero =>
      intro hfu H locs ad_h y h z2 ls hP hD hS hl hd
      rw [fd_X4_hours_L44] at hd
      cases hd
    | succ fu ih =>
      intro hfu H locs ad_h y h z2 ls hP hD hS hl hd
      rw [fd_X4_hours_L44] at hd
      refine lv_iload_n hx hb dX4_hours_44 rfl (lv_at hl 2 rfl) ?_
      refine lv_iload_n hx hb dX4_hours_45 rfl (lv_at hl 1 rfl) ?_
      refine lv_icmp_ge (tgt := 74) hx hb dX4_hours_46 (by decide) (fun c_46 => ?_) (fun c_46 => ?_)
      · replace hd := ob_t c_46 hd
        refine lv_aload_n hx hb dX4_hours_74 rfl (lv_at hl 0 rfl) ?_
        refine va_get (D := (dC, dI)) (ci := 4) (v := .ref (a_b 2)) (C := RX4) (T := TX4) (N := 10) hx hb hts hi_X4 hown hK hP 0 rfl rfl 2 (by decide) kw1 (fun _ h9 => h9) rfl dX4_hours_75 ?_
        refine va_get (D := (dC, dI)) (ci := 1) (v := .int (y.1 0)) (C := RX1) (T := TX1) (N := 12) hx hb hts hi_X1 hown hK hP 2 rfl rfl 0 (by decide) kw5 (fun _ h9 => h9) rfl dX4_hours_78 ?_
        obtain ⟨e1, e2, e3⟩ := ob_pq hd
        subst e1
        subst e2
        subst e3
        refine W.widen (k := 150) (n := 1175) (by omega) (by omega) ?_
        exact ob_iretE (w' := fun ad' => (ob_w4 o_b a_b cI b ++ ob_w1 (a_b 2) a_y cI y ++ ob_hw (a_b 4) a_h cI cR h ad')) ad_h hx hb hr hlocks rfl hP hD hS dX4_hours_81
      · replace hd := ob_f c_46 hd
        refine lv_aload_n hx hb dX4_hours_49 rfl (lv_at hl 0 rfl) ?_
        refine va_get (D := (dC, dI)) (ci := 4) (v := .ref (a_b 4)) (C := RX4) (T := TX4) (N := 10) hx hb hts hi_X4 hown hK hP 0 rfl rfl 4 (by decide) kw6 (fun _ h9 => h9) rfl dX4_hours_50 ?_
        refine lv_aload_n hx hb dX4_hours_53 rfl (lv_at hl 0 rfl) ?_
        refine va_get (D := (dC, dI)) (ci := 4) (v := .ref (a_b 2)) (C := RX4) (T := TX4) (N := 10) hx hb hts hi_X4 hown hK hP 0 rfl rfl 2 (by decide) kw1 (fun _ h9 => h9) rfl dX4_hours_54 ?_
        obtain ⟨h_2, hc_57, hd⟩ := ob_s1 hd
        refine ob_PVv (wc := (ob_hw (a_b 4) a_h cI cR h ad_h ++ ob_w1 (a_b 2) a_y cI y)) (wr := (List.filterMap (fun i => (ob_w4 o_b a_b cI b ++ ob_w1 (a_b 2) a_y cI y)[i]?) [0, 1])) (b := (a_b 4)) (As := [.ref (a_b 2)]) (rest := []) ⟨hx, hb, hml, hown, hts⟩ (mt_X0_rem l dC dI cI cZ cR cW xs _ ((a_b 4)) a_h ad_h ((a_b 2)) a_y h y h_2 hc_57) (cwV 1 hts gX4_hours_X0_remember rfl rfl rfl (by decide +kernel) ⟨Nat.le_of_ble_eq_true rfl, Nat.le_of_ble_eq_true rfl⟩) hK hE hP hD hS hA (ob_h1 (ob_ix [2, 3, 4, 5, 6, 7] [0, 1] rfl rfl rfl)) 0 0 rfl rfl rfl hl rfl rfl (Nat.le_of_ble_eq_true rfl) ⟨(show 6 * (25 - (fu + 1)) + 6 ≤ 150 by omega), (show 47 * (25 - (fu + 1)) + 47 ≤ 1175 by omega)⟩ dX4_hours_57 (fun ad_3 H locs hq hP hD hS => ?_)
        refine W.widen (k := 6 * (25 - fu)) (n := 47 * (25 - fu)) (show 6 * (25 - (fu + 1)) + 6 ≤ 6 * (25 - fu) by omega) (show 47 * (25 - (fu + 1)) + 47 ≤ 47 * (25 - fu) by omega) ?_
        replace hP : va_P (dC, dI) vwCl ((ob_w4 o_b a_b cI b ++ ob_w1 (a_b 2) a_y cI y) ++ ob_hw (a_b 4) a_h cI cR h_2 ad_3) H := ob_Pp hP (ob_h2 (ob_ix [2, 3, 4, 5, 6, 7] [0, 1] rfl rfl rfl))
        replace hD : va_D A ((ob_w4 o_b a_b cI b ++ ob_w1 (a_b 2) a_y cI y) ++ ob_hw (a_b 4) a_h cI cR h_2 ad_3) := ob_Dp hD (ob_h2 (ob_ix [2, 3, 4, 5, 6, 7] [0, 1] rfl rfl rfl))
        replace hP : va_P (dC, dI) vwCl (ob_w4 o_b a_b cI b ++ ob_w1 (a_b 2) a_y cI y ++ ob_hw (a_b 4) a_h cI cR h_2 ad_3) H := hP
        replace hD : va_D A (ob_w4 o_b a_b cI b ++ ob_w1 (a_b 2) a_y cI y ++ ob_hw (a_b 4) a_h cI cR h_2 ad_3) := hD
        refine lv_aload_n hx hb dX4_hours_60 rfl (lv_at hl 0 rfl) ?_
        refine va_get (D := (dC, dI)) (ci := 4) (v := .ref (a_b 2)) (C := RX4) (T := TX4) (N := 10) hx hb hts hi_X4 hown hK hP 0 rfl rfl 2 (by decide) kw1 (fun _ h9 => h9) rfl dX4_hours_61 ?_
        obtain ⟨r_4, y_5, hc_64, hd⟩ := ob_s2 hd
        refine ob_PVi (wc := (ob_w1 (a_b 2) a_y cI y)) (wr := ((List.filterMap (fun i => (ob_w4 o_b a_b cI b ++ ob_w1 (a_b 2) a_y cI y)[i]?) [0, 1]) ++ ob_hw (a_b 4) a_h cI cR h_2 ad_3)) (b := (a_b 2)) (As := []) (rest := []) ⟨hx, hb, hml, hown, hts⟩ (ob_MiE (mt_X1_passHour l dC dI cI cZ cR cW xs _ ((a_b 2)) a_y y r_4 y_5 hc_64)) (cwV 0 hts gX4_hours_X1_passHour rfl rfl rfl (by decide +kernel) ⟨Nat.le_of_ble_eq_true rfl, Nat.le_of_ble_eq_true rfl⟩) hK hE hP hD hS hA (ob_h3 (ob_ix [2, 3, 4, 5, 6, 7] [0, 1] rfl rfl rfl)) 1 0 rfl rfl rfl hl rfl rfl (Nat.le_of_ble_eq_true rfl) ⟨(show 6 * (25 - fu) + 0 ≤ 150 by omega), (show 47 * (25 - fu) + 0 ≤ 1175 by omega)⟩ dX4_hours_64 (fun rq uq H locs hq hP hD hS => ?_)
        obtain rfl : r_4 = rq := hq.symm
        refine W.widen (k := 6 * (25 - fu)) (n := 47 * (25 - fu)) (show 6 * (25 - fu) + 0 ≤ 6 * (25 - fu) by omega) (show 47 * (25 - fu) + 0 ≤ 47 * (25 - fu) by omega) ?_
        replace hP : va_P (dC, dI) vwCl ((ob_w4 o_b a_b cI b ++ ob_w1 (a_b 2) a_y cI y_5) ++ ob_hw (a_b 4) a_h cI cR h_2 ad_3) H := ob_Pp hP (ob_h4 (ob_ix [2, 3, 4, 5, 6, 7] [0, 1] rfl rfl rfl))
        replace hD : va_D A ((ob_w4 o_b a_b cI b ++ ob_w1 (a_b 2) a_y cI y_5) ++ ob_hw (a_b 4) a_h cI cR h_2 ad_3) := ob_Dp hD (ob_h4 (ob_ix [2, 3, 4, 5, 6, 7] [0, 1] rfl rfl rfl))
        replace hP : va_P (dC, dI) vwCl (ob_w4 o_b a_b cI b ++ ob_w1 (a_b 2) a_y cI y_5 ++ ob_hw (a_b 4) a_h cI cR h_2 ad_3) H := hP
        replace hD : va_D A (ob_w4 o_b a_b cI b ++ ob_w1 (a_b 2) a_y cI y_5 ++ ob_hw (a_b 4) a_h cI cR h_2 ad_3) := hD
        refine lv_pop hx hb dX4_hours_67 rfl ?_
        obtain ⟨x_6, ex_6⟩ : ∃ z : Int32, z = z2 + 1 := ⟨_, rfl⟩
        replace hd := ob_lx ex_6 hd
        refine lv_iinc (v := x_6) (lv' := [(2, .int x_6), (0, .ref o_b), (1, .int x1)]) hx hb dX4_hours_68 hl (k := 2) rfl (by rw [ex_6]; rfl) (by decide) rfl (fun ls hl => ?_)
        clear ex_6
        refine lv_goto (tgt := 44) hx hb dX4_hours_71 (by decide) ?_
        exact ih (by omega) _ _ ad_3 y_5 h_2 x_6 _ hP hD hS (lv_sub hl [1, 2, 0] rfl) hd
  refine lv_aload_n hx hb dX4_hours_0 rfl (lv_at hl 0 rfl) ?_
  obtain ⟨r_1, hc_1, hd⟩ := ob_s1 hd
  refine ob_PVi (wc := (ob_w4 o_b a_b cI b ++ ob_w1 (a_b 2) a_y cI y)) (wr := (([] : va_W) ++ ob_hw (a_b 4) a_h cI cR h ad_h)) (b := o_b) (As := []) (rest := []) ⟨hx, hb, hml, hown, hts⟩ (ob_MiE (mt_X4_noRoute l dC dI cI cZ cR cW xs _ o_b a_b a_y b y r_1 hc_1)) (cwV 0 hts gX4_hours_X4_noRoute rfl rfl rfl (by decide +kernel) ⟨Nat.le_of_ble_eq_true rfl, Nat.le_of_ble_eq_true rfl⟩) hK hE hP hD hS hA (ob_h3 (ob_ix [0, 1, 2, 3, 4, 5, 6, 7] [] rfl rfl rfl)) 4 0 rfl rfl rfl hl rfl rfl (Nat.le_of_ble_eq_true rfl) ⟨(Nat.le_of_ble_eq_true rfl), (Nat.le_of_ble_eq_true rfl)⟩ dX4_hours_1 (fun rq uq H locs hq hP hD hS => ?_)
  obtain rfl : r_1 = rq := hq.symm
  refine W.widen (k := 0) (n := 0) (Nat.le_refl _) (Nat.le_refl _) ?_
  replace hP : va_P (dC, dI) vwCl ((ob_w4 o_b a_b cI b ++ ob_w1 (a_b 2) a_y cI y) ++ ob_hw (a_b 4) a_h cI cR h ad_h) H := ob_Pp hP (ob_h4 (ob_ix [0, 1, 2, 3, 4, 5, 6, 7] [] rfl rfl rfl))
  replace hD : va_D A ((ob_w4 o_b a_b cI b ++ ob_w1 (a_b 2) a_y cI y) ++ ob_hw (a_b 4) a_h cI cR h ad_h) := ob_Dp hD (ob_h4 (ob_ix [0, 1, 2, 3, 4, 5, 6, 7] [] rfl rfl rfl))
  replace hP : va_P (dC, dI) vwCl (ob_w4 o_b a_b cI b ++ ob_w1 (a_b 2) a_y cI y ++ ob_hw (a_b 4) a_h cI cR h ad_h) H := hP
  replace hD : va_D A (ob_w4 o_b a_b cI b ++ ob_w1 (a_b 2) a_y cI y ++ ob_hw (a_b 4) a_h cI cR h ad_h) := hD
  refine lv_if_eq (tgt := 10) hx hb dX4_hours_4 (by decide) (fun c_4 => ?_) (fun c_4 => ?_)
  · replace hd := ob_t c_4 hd
    refine lv_iload_n hx hb dX4_hours_10 rfl (lv_at hl 1 rfl) ?_
    refine lv_iconst (v := 1) hx hb dX4_hours_11 (by decide) ?_
    refine lv_icmp_lt (tgt := 21) hx hb dX4_hours_12 (by decide) (fun c_12 => ?_) (fun c_12 => ?_)
    · replace hd := ob_t c_12 hd
      refine lv_ldc hx hb hown kw0 dX4_hours_21 ?_
      obtain ⟨e1, e2, e3⟩ := ob_pq hd
      subst e1
      subst e2
      subst e3
      refine W.widen (k := 150) (n := 1175) (by omega) (by omega) ?_
      exact ob_iretE (w' := fun ad' => (ob_w4 o_b a_b cI b ++ ob_w1 (a_b 2) a_y cI y ++ ob_hw (a_b 4) a_h cI cR h ad')) ad_h hx hb hr hlocks rfl hP hD hS dX4_hours_23
    · replace hd := ob_f c_12 hd
      refine lv_iload_n hx hb dX4_hours_15 rfl (lv_at hl 1 rfl) ?_
      refine lv_bipush (v := 24) hx hb dX4_hours_16 (by decide) ?_
      refine lv_icmp_le (tgt := 24) hx hb dX4_hours_18 (by decide) (fun c_18 => ?_) (fun c_18 => ?_)
      · replace hd := ob_t c_18 hd
        refine lv_aload_n hx hb dX4_hours_24 rfl (lv_at hl 0 rfl) ?_
        refine va_get (D := (dC, dI)) (ci := 4) (v := .ref (a_b 2)) (C := RX4) (T := TX4) (N := 10) hx hb hts hi_X4 hown hK hP 0 rfl rfl 2 (by decide) kw1 (fun _ h9 => h9) rfl dX4_hours_25 ?_
        refine va_get (D := (dC, dI)) (ci := 1) (v := .int (y.1 2)) (C := RX1) (T := TX1) (N := 12) hx hb hts hi_X1 hown hK hP 2 rfl rfl 2 (by decide) kw2 (fun _ h9 => h9) rfl dX4_hours_28 ?_
        refine lv_iload_n hx hb dX4_hours_31 rfl (lv_at hl 1 rfl) ?_
        refine lv_iadd hx hb dX4_hours_32 ?_
        refine lv_sipush (v := 999) hx hb dX4_hours_33 (by decide) ?_
        refine lv_icmp_le (tgt := 42) hx hb dX4_hours_36 (by decide) (fun c_36 => ?_) (fun c_36 => ?_)
        · replace hd := ob_t c_36 hd
          refine lv_iconst (v := 0) hx hb dX4_hours_42 (by decide) ?_
          refine lv_istore_n (lv' := [(2, .int 0), (0, .ref o_b), (1, .int x1)]) hx hb dX4_hours_43 rfl hl (by decide) rfl (fun ls hl => ?_)
          exact L44  25 (Nat.le_refl _) _ _ ad_h y h 0 _ hP hD hS (lv_sub hl [1, 2, 0] rfl) hd
        · replace hd := ob_f c_36 hd
          refine lv_ldc hx hb hown kw3 dX4_hours_39 ?_
          obtain ⟨e1, e2, e3⟩ := ob_pq hd
          subst e1
          subst e2
          subst e3
          refine W.widen (k := 150) (n := 1175) (by omega) (by omega) ?_
          exact ob_iretE (w' := fun ad' => (ob_w4 o_b a_b cI b ++ ob_w1 (a_b 2) a_y cI y ++ ob_hw (a_b 4) a_h cI cR h ad')) ad_h hx hb hr hlocks rfl hP hD hS dX4_hours_41
      · replace hd := ob_f c_18 hd
        refine lv_ldc hx hb hown kw0 dX4_hours_21 ?_
        obtain ⟨e1, e2, e3⟩ := ob_pq hd
        subst e1
        subst e2
        subst e3
        refine W.widen (k := 150) (n := 1175) (by omega) (by omega) ?_
        exact ob_iretE (w' := fun ad' => (ob_w4 o_b a_b cI b ++ ob_w1 (a_b 2) a_y cI y ++ ob_hw (a_b 4) a_h cI cR h ad')) ad_h hx hb hr hlocks rfl hP hD hS dX4_hours_23
  · replace hd := ob_f c_4 hd
    refine lv_ldc hx hb hown kw4 dX4_hours_7 ?_
    obtain ⟨e1, e2, e3⟩ := ob_pq hd
    subst e1
    subst e2
    subst e3
    refine W.widen (k := 150) (n := 1175) (by omega) (by omega) ?_
    exact ob_iretE (w' := fun ad' => (ob_w4 o_b a_b cI b ++ ob_w1 (a_b 2) a_y cI y ++ ob_hw (a_b 4) a_h cI cR h ad')) ad_h hx hb hr hlocks rfl hP hD hS dX4_hours_9
