def fd_X4_findingOf  (b : ob_B) (w : ob_B) (x1 : Int32) (x2 : Int32) (x3 : Int32) : Option (Int32) := if x1 < 0 ∨ 8 ≤ Int32.toNatClampNeg x1 then none else (if (w.1 0) = 0 then (if x1 < 0 ∨ 8 ≤ Int32.toNatClampNeg x1 then none else (ob_b1 (fd_X2_has w x2 x3) (fun r_1 => if r_1 = 0 then (some (2)) else (some (0))))) else (some (1)))
set_option maxHeartbeats 4000000 in
set_option maxRecDepth 100000 in
theorem mt_X4_findingOf (l : Launch) (dC : Nat → ClassId) (dI : Nat → Nat → Nat) (cI cZ cR cW : ClassId) (xs : Nat → Nat) (sz : Nat) (o_b : Nat) (a_b : Nat → Nat) (g_g : Nat → Option Nat) (o_w : Nat) (a_w : Nat → Nat) (b : ob_B) (w : ob_B) (x1 : Int32) (x2 : Int32) (x3 : Int32) (hg : ¬ (x1 < 0 ∨ 8 ≤ Int32.toNatClampNeg x1) → g_g (Int32.toNatClampNeg x1) = some o_w) (rr : Int32) (hd : fd_X4_findingOf b w x1 x2 x3 = some (rr)) : ob_M l yX4_findingOf wsX4_findingOf ({ frames := 1, cells := 0, slots := 0, locals := 22 } : Room) (dC, dI) (ob_ty cI cZ cR cW) xs [.ref o_b, .int x1, .int x2, .int x3] (ob_w4 o_b a_b cI b ++ ob_wr (a_b 0) cW 8 g_g ++ ob_w2 o_w a_w cI w) sz (ob_Qi (dC, dI) rr (ob_w4 o_b a_b cI b ++ ob_wr (a_b 0) cW 8 g_g ++ ob_w2 o_w a_w cI w)) := by
  rw [fd_X4_findingOf] at hd
  refine ob_in (cc := cX4_findingOf) (maxL := 4) (ret := (some .int)) (own := RX4) (by decide) rfl rfl [(0, .ref o_b), (1, .int x1), (2, .int x2), (3, .int x3)] rfl (Nat.le_of_ble_eq_true rfl) ?_
  intro p e s m below meth c hx hb hr hml hown hts hlocks hnm hK A hA hE hP hD hS ls hl
  have kw0 := hts (.fieldLink RX4 11 "OathCoach" "rows" "[LOathCoach$Row;") (by decide +kernel)
  have kw1 := hts (.fieldLink RX4 82 "OathCoach$Row" "missing" "Z") (by decide +kernel)
  have hi_X2 : ∀ w ∈ u_ws RX2 TX2 4, w ∈ wsX4_findingOf := by decide +kernel
  have hi_X4 : ∀ w ∈ u_ws RX4 TX4 10, w ∈ wsX4_findingOf := by decide +kernel
  refine lv_aload_n hx hb dX4_findingOf_0 rfl (lv_at hl 0 rfl) ?_
  refine va_get (D := (dC, dI)) (ci := 4) (v := .ref (a_b 0)) (C := RX4) (T := TX4) (N := 10) hx hb hts hi_X4 hown hK hP 0 rfl rfl 0 (by decide) kw0 (fun _ h9 => h9) rfl dX4_findingOf_1 ?_
  refine lv_iload_n hx hb dX4_findingOf_4 rfl (lv_at hl 1 rfl) ?_
  obtain ⟨h1_5, hd⟩ := ob_nn hd
  refine va_aldq hx hb hK hP 2 3 rfl rfl h1_5 dX4_findingOf_5 ?_
  refine ob_rf (hg h1_5) ?_
  refine va_get (D := (dC, dI)) (ci := 2) (v := .int (w.1 0)) (C := RX2) (T := TX2) (N := 4) hx hb hts hi_X2 hown hK hP 3 rfl rfl 0 (by decide) kw1 (fun _ h9 => h9) rfl dX4_findingOf_6 ?_
  refine lv_if_eq (tgt := 14) hx hb dX4_findingOf_9 (by decide) (fun c_9 => ?_) (fun c_9 => ?_)
  · replace hd := ob_t c_9 hd
    refine lv_aload_n hx hb dX4_findingOf_14 rfl (lv_at hl 0 rfl) ?_
    refine va_get (D := (dC, dI)) (ci := 4) (v := .ref (a_b 0)) (C := RX4) (T := TX4) (N := 10) hx hb hts hi_X4 hown hK hP 0 rfl rfl 0 (by decide) kw0 (fun _ h9 => h9) rfl dX4_findingOf_15 ?_
    refine lv_iload_n hx hb dX4_findingOf_18 rfl (lv_at hl 1 rfl) ?_
    obtain ⟨h1_19, hd⟩ := ob_nn hd
    refine va_aldq hx hb hK hP 2 3 rfl rfl h1_19 dX4_findingOf_19 ?_
    refine ob_rf (hg h1_19) ?_
    refine lv_iload_n hx hb dX4_findingOf_20 rfl (lv_at hl 2 rfl) ?_
    refine lv_iload_n hx hb dX4_findingOf_21 rfl (lv_at hl 3 rfl) ?_
    obtain ⟨r_1, hc_22, hd⟩ := ob_s1 hd
    refine ob_Vi (isC := [3, 4]) (isR := [0, 1, 2]) (is2 := [0, 1, 2, 3, 4]) (wc := (ob_w2 o_w a_w cI w)) (wr := (List.filterMap (fun i => (ob_w4 o_b a_b cI b ++ ob_wr (a_b 0) cW 8 g_g ++ ob_w2 o_w a_w cI w)[i]?) [0, 1, 2])) (w1 := (ob_w2 o_w a_w cI w)) (w2 := (ob_w4 o_b a_b cI b ++ ob_wr (a_b 0) cW 8 g_g ++ ob_w2 o_w a_w cI w)) (b := o_w) (As := [.int x2, .int x3]) (rest := []) ⟨hx, hb, hml, hown, hts⟩ (mt_X2_has l dC dI cI cZ cR cW xs _ o_w a_w w x2 x3 r_1 hc_22) (cwV 2 hts gX4_findingOf_X2_has rfl rfl rfl (by decide +kernel) ⟨Nat.le_of_ble_eq_true rfl, Nat.le_of_ble_eq_true rfl⟩) hK hE hP hD hS hA ⟨rfl, rfl, rfl, rfl, rfl, rfl, rfl⟩ 2 0 rfl rfl rfl hl rfl rfl (Nat.le_of_ble_eq_true rfl) ⟨Nat.le_of_ble_eq_true rfl, Nat.le_of_ble_eq_true rfl⟩ dX4_findingOf_22 (fun H locs hP hD hS => ?_)
    refine W.widen (k := 0) (n := 0) (Nat.le_refl _) (Nat.le_refl _) ?_
    refine lv_if_eq (tgt := 32) hx hb dX4_findingOf_25 (by decide) (fun c_25 => ?_) (fun c_25 => ?_)
    · replace hd := ob_t c_25 hd
      refine lv_iconst (v := 2) hx hb dX4_findingOf_32 (by decide) ?_
      have e1 := Option.some.inj hd
      subst e1
      exact ob_iret hx hb hr hlocks hP hD hS dX4_findingOf_33
    · replace hd := ob_f c_25 hd
      refine lv_iconst (v := 0) hx hb dX4_findingOf_28 (by decide) ?_
      refine lv_goto (tgt := 33) hx hb dX4_findingOf_29 (by decide) ?_
      have e1 := Option.some.inj hd
      subst e1
      exact ob_iret hx hb hr hlocks hP hD hS dX4_findingOf_33
  · replace hd := ob_f c_9 hd
    refine lv_iconst (v := 1) hx hb dX4_findingOf_12 (by decide) ?_
    have e1 := Option.some.inj hd
    subst e1
    exact ob_iret hx hb hr hlocks hP hD hS dX4_findingOf_13

def fd_X4_row  (b : ob_B) (w : ob_B) (x1 : Int32) (x2 : Int32) (x3 : Int32) : Option (Int32 × ob_B × ob_B) := ob_b1 (fd_X4_isRow x1) (fun r_1 => if r_1 = 0 then (some ((-1000001), b, w)) else (if x2 < 0 then (some ((-1000001), b, w)) else (if 3 ≤ x2 then (some ((-1000001), b, w)) else (if x3 ≤ 40 then (if 0 ≤ x3 then (if x1 < 0 ∨ 8 ≤ Int32.toNatClampNeg x1 then none else (ob_b1 (fd_X2_begin w x2 x3) (fun w_2 => ob_b2 (fd_X4_unfound b x3) (fun r_3 b_4 => some (r_3, b_4, w_2))))) else (ob_b2 (fd_X4_found b 4) (fun r_5 b_6 => some (r_5, b_6, w)))) else (some ((-1000001), b, w))))))
set_option maxHeartbeats 4000000 in
set_option maxRecDepth 100000 in
theorem mt_X4_row (l : Launch) (dC : Nat → ClassId) (dI : Nat → Nat → Nat) (cI cZ cR cW : ClassId) (xs : Nat → Nat) (sz : Nat) (o_b : Nat) (a_b : Nat → Nat) (g_g : Nat → Option Nat) (o_w : Nat) (a_w : Nat → Nat) (b : ob_B) (w : ob_B) (x1 : Int32) (x2 : Int32) (x3 : Int32) (hg : ¬ (x1 < 0 ∨ 8 ≤ Int32.toNatClampNeg x1) → g_g (Int32.toNatClampNeg x1) = some o_w) (rr : Int32) (b' : ob_B) (w' : ob_B) (hd : fd_X4_row b w x1 x2 x3 = some (rr, b', w')) : ob_M l yX4_row wsX4_row ({ frames := 2, cells := 0, slots := 0, locals := 45 } : Room) (dC, dI) (ob_ty cI cZ cR cW) xs [.ref o_b, .int x1, .int x2, .int x3] (ob_w4 o_b a_b cI b ++ ob_wr (a_b 0) cW 8 g_g ++ ob_w2 o_w a_w cI w) sz (ob_Qi (dC, dI) rr (ob_w4 o_b a_b cI b' ++ ob_wr (a_b 0) cW 8 g_g ++ ob_w2 o_w a_w cI w')) := by
  rw [fd_X4_row] at hd
  refine ob_in (cc := cX4_row) (maxL := 4) (ret := (some .int)) (own := RX4) (by decide) rfl rfl [(0, .ref o_b), (1, .int x1), (2, .int x2), (3, .int x3)] rfl (Nat.le_of_ble_eq_true rfl) ?_
  intro p e s m below meth c hx hb hr hml hown hts hlocks hnm hK A hA hE hP hD hS ls hl
  have kw0 := hts (.constant RX4 62 (-1000001)) (by decide +kernel)
  have kw1 := hts (.fieldLink RX4 11 "OathCoach" "rows" "[LOathCoach$Row;") (by decide +kernel)
  have hi_X4 : ∀ w ∈ u_ws RX4 TX4 10, w ∈ wsX4_row := by decide +kernel
  refine lv_iload_n hx hb dX4_row_0 rfl (lv_at hl 1 rfl) ?_
  obtain ⟨r_1, hc_1, hd⟩ := ob_s1 hd
  refine ob_Si (isC := []) (isR := [0, 1, 2, 3, 4]) (is2 := [0, 1, 2, 3, 4]) (wc := ([] : va_W)) (wr := (List.filterMap (fun i => (ob_w4 o_b a_b cI b ++ ob_wr (a_b 0) cW 8 g_g ++ ob_w2 o_w a_w cI w)[i]?) [0, 1, 2, 3, 4])) (w1 := ([] : va_W)) (w2 := (ob_w4 o_b a_b cI b ++ ob_wr (a_b 0) cW 8 g_g ++ ob_w2 o_w a_w cI w)) (As := [.int x1]) (rest := []) ⟨hx, hb, hml, hown, hts⟩ (mt_X4_isRow l dC dI cI cZ cR cW xs _ x1 r_1 hc_1) (va_cwS 1 hts gX4_row_X4_isRow rfl rfl rfl (by decide +kernel) ⟨Nat.le_of_ble_eq_true rfl, Nat.le_of_ble_eq_true rfl⟩) hK hE hP hD hS hA ⟨rfl, rfl, rfl, rfl, rfl, rfl, rfl⟩ hl rfl rfl (Nat.le_of_ble_eq_true rfl) ⟨Nat.le_of_ble_eq_true rfl, Nat.le_of_ble_eq_true rfl⟩ dX4_row_1 (fun H locs hP hD hS => ?_)
  refine W.widen (k := 0) (n := 0) (Nat.le_refl _) (Nat.le_refl _) ?_
  refine lv_if_eq (tgt := 22) hx hb dX4_row_4 (by decide) (fun c_4 => ?_) (fun c_4 => ?_)
  · replace hd := ob_t c_4 hd
    refine lv_ldc hx hb hown kw0 dX4_row_22 ?_
    obtain ⟨e1, e2, e3⟩ := ob_pq hd
    subst e1
    subst e2
    subst e3
    exact ob_iret hx hb hr hlocks hP hD hS dX4_row_24
  · replace hd := ob_f c_4 hd
    refine lv_iload_n hx hb dX4_row_7 rfl (lv_at hl 2 rfl) ?_
    refine lv_if_lt (tgt := 22) hx hb dX4_row_8 (by decide) (fun c_8 => ?_) (fun c_8 => ?_)
    · replace hd := ob_t c_8 hd
      refine lv_ldc hx hb hown kw0 dX4_row_22 ?_
      obtain ⟨e1, e2, e3⟩ := ob_pq hd
      subst e1
      subst e2
      subst e3
      exact ob_iret hx hb hr hlocks hP hD hS dX4_row_24
    · replace hd := ob_f c_8 hd
      refine lv_iload_n hx hb dX4_row_11 rfl (lv_at hl 2 rfl) ?_
      refine lv_iconst (v := 3) hx hb dX4_row_12 (by decide) ?_
      refine lv_icmp_ge (tgt := 22) hx hb dX4_row_13 (by decide) (fun c_13 => ?_) (fun c_13 => ?_)
      · replace hd := ob_t c_13 hd
        refine lv_ldc hx hb hown kw0 dX4_row_22 ?_
        obtain ⟨e1, e2, e3⟩ := ob_pq hd
        subst e1
        subst e2
        subst e3
        exact ob_iret hx hb hr hlocks hP hD hS dX4_row_24
      · replace hd := ob_f c_13 hd
        refine lv_iload_n hx hb dX4_row_16 rfl (lv_at hl 3 rfl) ?_
        refine lv_bipush (v := 40) hx hb dX4_row_17 (by decide) ?_
        refine lv_icmp_le (tgt := 25) hx hb dX4_row_19 (by decide) (fun c_19 => ?_) (fun c_19 => ?_)
        · replace hd := ob_t c_19 hd
          refine lv_iload_n hx hb dX4_row_25 rfl (lv_at hl 3 rfl) ?_
          refine lv_if_ge (tgt := 35) hx hb dX4_row_26 (by decide) (fun c_26 => ?_) (fun c_26 => ?_)
          · replace hd := ob_t c_26 hd
            refine lv_aload_n hx hb dX4_row_35 rfl (lv_at hl 0 rfl) ?_
            refine va_get (D := (dC, dI)) (ci := 4) (v := .ref (a_b 0)) (C := RX4) (T := TX4) (N := 10) hx hb hts hi_X4 hown hK hP 0 rfl rfl 0 (by decide) kw1 (fun _ h9 => h9) rfl dX4_row_36 ?_
            refine lv_iload_n hx hb dX4_row_39 rfl (lv_at hl 1 rfl) ?_
            obtain ⟨h1_40, hd⟩ := ob_nn hd
            refine va_aldq hx hb hK hP 2 3 rfl rfl h1_40 dX4_row_40 ?_
            refine ob_rf (hg h1_40) ?_
            refine lv_iload_n hx hb dX4_row_41 rfl (lv_at hl 2 rfl) ?_
            refine lv_iload_n hx hb dX4_row_42 rfl (lv_at hl 3 rfl) ?_
            obtain ⟨w_2, hc_43, hd⟩ := ob_s1 hd
            refine ob_Vv (isC := [3, 4]) (isR := [0, 1, 2]) (is2 := [0, 1, 2, 3, 4]) (wc := (ob_w2 o_w a_w cI w)) (wr := (List.filterMap (fun i => (ob_w4 o_b a_b cI b ++ ob_wr (a_b 0) cW 8 g_g ++ ob_w2 o_w a_w cI w)[i]?) [0, 1, 2])) (w1 := (ob_w2 o_w a_w cI w_2)) (w2 := (ob_w4 o_b a_b cI b ++ ob_wr (a_b 0) cW 8 g_g ++ ob_w2 o_w a_w cI w_2)) (b := o_w) (As := [.int x2, .int x3]) (rest := []) ⟨hx, hb, hml, hown, hts⟩ (mt_X2_begin l dC dI cI cZ cR cW xs _ o_w a_w w x2 x3 w_2 hc_43) (cwV 2 hts gX4_row_X2_begin rfl rfl rfl (by decide +kernel) ⟨Nat.le_of_ble_eq_true rfl, Nat.le_of_ble_eq_true rfl⟩) hK hE hP hD hS hA ⟨rfl, rfl, rfl, rfl, rfl, rfl, rfl⟩ 2 0 rfl rfl rfl hl rfl rfl (Nat.le_of_ble_eq_true rfl) ⟨Nat.le_of_ble_eq_true rfl, Nat.le_of_ble_eq_true rfl⟩ dX4_row_43 (fun H locs hP hD hS => ?_)
            refine W.widen (k := 0) (n := 0) (Nat.le_refl _) (Nat.le_refl _) ?_
            refine lv_aload_n hx hb dX4_row_46 rfl (lv_at hl 0 rfl) ?_
            refine lv_iload_n hx hb dX4_row_47 rfl (lv_at hl 3 rfl) ?_
            obtain ⟨r_3, b_4, hc_48, hd⟩ := ob_s2 hd
            refine ob_Vi (isC := [0, 1]) (isR := [2, 3, 4]) (is2 := [3, 4, 0, 1, 2]) (wc := (ob_w4 o_b a_b cI b)) (wr := (List.filterMap (fun i => (ob_w4 o_b a_b cI b ++ ob_wr (a_b 0) cW 8 g_g ++ ob_w2 o_w a_w cI w_2)[i]?) [2, 3, 4])) (w1 := (ob_w4 o_b a_b cI b_4)) (w2 := (ob_w4 o_b a_b cI b_4 ++ ob_wr (a_b 0) cW 8 g_g ++ ob_w2 o_w a_w cI w_2)) (b := o_b) (As := [.int x3]) (rest := []) ⟨hx, hb, hml, hown, hts⟩ (mt_X4_unfound l dC dI cI cZ cR cW xs _ o_b a_b b x3 r_3 b_4 hc_48) (cwV 1 hts gX4_row_X4_unfound rfl rfl rfl (by decide +kernel) ⟨Nat.le_of_ble_eq_true rfl, Nat.le_of_ble_eq_true rfl⟩) hK hE hP hD hS hA ⟨rfl, rfl, rfl, rfl, rfl, rfl, rfl⟩ 4 0 rfl rfl rfl hl rfl rfl (Nat.le_of_ble_eq_true rfl) ⟨Nat.le_of_ble_eq_true rfl, Nat.le_of_ble_eq_true rfl⟩ dX4_row_48 (fun H locs hP hD hS => ?_)
            refine W.widen (k := 0) (n := 0) (Nat.le_refl _) (Nat.le_refl _) ?_
            obtain ⟨e1, e2, e3⟩ := ob_pq hd
            subst e1
            subst e2
            subst e3
            exact ob_iret hx hb hr hlocks hP hD hS dX4_row_51
          · replace hd := ob_f c_26 hd
            refine lv_aload_n hx hb dX4_row_29 rfl (lv_at hl 0 rfl) ?_
            refine lv_iconst (v := 4) hx hb dX4_row_30 (by decide) ?_
            obtain ⟨r_5, b_6, hc_31, hd⟩ := ob_s2 hd
            refine ob_Vi (isC := [0, 1]) (isR := [2, 3, 4]) (is2 := [3, 4, 0, 1, 2]) (wc := (ob_w4 o_b a_b cI b)) (wr := (List.filterMap (fun i => (ob_w4 o_b a_b cI b ++ ob_wr (a_b 0) cW 8 g_g ++ ob_w2 o_w a_w cI w)[i]?) [2, 3, 4])) (w1 := (ob_w4 o_b a_b cI b_6)) (w2 := (ob_w4 o_b a_b cI b_6 ++ ob_wr (a_b 0) cW 8 g_g ++ ob_w2 o_w a_w cI w)) (b := o_b) (As := [.int 4]) (rest := []) ⟨hx, hb, hml, hown, hts⟩ (mt_X4_found l dC dI cI cZ cR cW xs _ o_b a_b b 4 r_5 b_6 hc_31) (cwV 1 hts gX4_row_X4_found rfl rfl rfl (by decide +kernel) ⟨Nat.le_of_ble_eq_true rfl, Nat.le_of_ble_eq_true rfl⟩) hK hE hP hD hS hA ⟨rfl, rfl, rfl, rfl, rfl, rfl, rfl⟩ 4 0 rfl rfl rfl hl rfl rfl (Nat.le_of_ble_eq_true rfl) ⟨Nat.le_of_ble_eq_true rfl, Nat.le_of_ble_eq_true rfl⟩ dX4_row_31 (fun H locs hP hD hS => ?_)
            refine W.widen (k := 0) (n := 0) (Nat.le_refl _) (Nat.le_refl _) ?_
            obtain ⟨e1, e2, e3⟩ := ob_pq hd
            subst e1
            subst e2
            subst e3
            exact ob_iret hx hb hr hlocks hP hD hS dX4_row_34
        · replace hd := ob_f c_19 hd
          refine lv_ldc hx hb hown kw0 dX4_row_22 ?_
          obtain ⟨e1, e2, e3⟩ := ob_pq hd
          subst e1
          subst e2
          subst e3
          exact ob_iret hx hb hr hlocks hP hD hS dX4_row_24

def fd_X4_set  (b : ob_B) (w : ob_B) (x1 : Int32) (x2 : Int32) (x3 : Int32) : Option (Int32 × ob_B × ob_B) := ob_b1 (fd_X4_isRow x1) (fun r_1 => if r_1 = 0 then (some ((-1000001), b, w)) else (ob_b1 (fd_X4_findingOf b w x1 x2 1) (fun r_2 => if r_2 = 0 then (if x1 < 0 ∨ 8 ≤ Int32.toNatClampNeg x1 then none else (ob_b2 (fd_X2_put w x2 x3) (fun r_3 w_4 => ob_b2 (fd_X4_unfound b r_3) (fun r_5 b_6 => some (r_5, b_6, w_4))))) else (ob_b2 (fd_X4_found b r_2) (fun r_7 b_8 => some (r_7, b_8, w))))))
set_option maxHeartbeats 4000000 in
set_option maxRecDepth 100000 in
theorem mt_X4_set (l : Launch) (dC : Nat → ClassId) (dI : Nat → Nat → Nat) (cI cZ cR cW : ClassId) (xs : Nat → Nat) (sz : Nat) (o_b : Nat) (a_b : Nat → Nat) (g_g : Nat → Option Nat) (o_w : Nat) (a_w : Nat → Nat) (b : ob_B) (w : ob_B) (x1 : Int32) (x2 : Int32) (x3 : Int32) (hg : ¬ (x1 < 0 ∨ 8 ≤ Int32.toNatClampNeg x1) → g_g (Int32.toNatClampNeg x1) = some o_w) (rr : Int32) (b' : ob_B) (w' : ob_B) (hd : fd_X4_set b w x1 x2 x3 = some (rr, b', w')) : ob_M l yX4_set wsX4_set ({ frames := 2, cells := 0, slots := 0, locals := 45 } : Room) (dC, dI) (ob_ty cI cZ cR cW) xs [.ref o_b, .int x1, .int x2, .int x3] (ob_w4 o_b a_b cI b ++ ob_wr (a_b 0) cW 8 g_g ++ ob_w2 o_w a_w cI w) sz (ob_Qi (dC, dI) rr (ob_w4 o_b a_b cI b' ++ ob_wr (a_b 0) cW 8 g_g ++ ob_w2 o_w a_w cI w')) := by
  rw [fd_X4_set] at hd
  refine ob_in (cc := cX4_set) (maxL := 5) (ret := (some .int)) (own := RX4) (by decide) rfl rfl [(0, .ref o_b), (1, .int x1), (2, .int x2), (3, .int x3)] rfl (Nat.le_of_ble_eq_true rfl) ?_
  intro p e s m below meth c hx hb hr hml hown hts hlocks hnm hK A hA hE hP hD hS ls hl
  have kw0 := hts (.fieldLink RX4 11 "OathCoach" "rows" "[LOathCoach$Row;") (by decide +kernel)
  have kw1 := hts (.constant RX4 62 (-1000001)) (by decide +kernel)
  have hi_X4 : ∀ w ∈ u_ws RX4 TX4 10, w ∈ wsX4_set := by decide +kernel
  refine lv_iload_n hx hb dX4_set_0 rfl (lv_at hl 1 rfl) ?_
  obtain ⟨r_1, hc_1, hd⟩ := ob_s1 hd
  refine ob_Si (isC := []) (isR := [0, 1, 2, 3, 4]) (is2 := [0, 1, 2, 3, 4]) (wc := ([] : va_W)) (wr := (List.filterMap (fun i => (ob_w4 o_b a_b cI b ++ ob_wr (a_b 0) cW 8 g_g ++ ob_w2 o_w a_w cI w)[i]?) [0, 1, 2, 3, 4])) (w1 := ([] : va_W)) (w2 := (ob_w4 o_b a_b cI b ++ ob_wr (a_b 0) cW 8 g_g ++ ob_w2 o_w a_w cI w)) (As := [.int x1]) (rest := []) ⟨hx, hb, hml, hown, hts⟩ (mt_X4_isRow l dC dI cI cZ cR cW xs _ x1 r_1 hc_1) (va_cwS 1 hts gX4_set_X4_isRow rfl rfl rfl (by decide +kernel) ⟨Nat.le_of_ble_eq_true rfl, Nat.le_of_ble_eq_true rfl⟩) hK hE hP hD hS hA ⟨rfl, rfl, rfl, rfl, rfl, rfl, rfl⟩ hl rfl rfl (Nat.le_of_ble_eq_true rfl) ⟨Nat.le_of_ble_eq_true rfl, Nat.le_of_ble_eq_true rfl⟩ dX4_set_1 (fun H locs hP hD hS => ?_)
  refine W.widen (k := 0) (n := 0) (Nat.le_refl _) (Nat.le_refl _) ?_
  refine lv_if_ne (tgt := 10) hx hb dX4_set_4 (by decide) (fun c_4 => ?_) (fun c_4 => ?_)
  · replace hd := ob_f c_4 hd
    refine lv_aload_n hx hb dX4_set_10 rfl (lv_at hl 0 rfl) ?_
    refine lv_iload_n hx hb dX4_set_11 rfl (lv_at hl 1 rfl) ?_
    refine lv_iload_n hx hb dX4_set_12 rfl (lv_at hl 2 rfl) ?_
    refine lv_iconst (v := 1) hx hb dX4_set_13 (by decide) ?_
    obtain ⟨r_2, hc_14, hd⟩ := ob_s1 hd
    refine ob_Vi (isC := [0, 1, 2, 3, 4]) (isR := []) (is2 := [0, 1, 2, 3, 4]) (wc := (ob_w4 o_b a_b cI b ++ ob_wr (a_b 0) cW 8 g_g ++ ob_w2 o_w a_w cI w)) (wr := ([] : va_W)) (w1 := (ob_w4 o_b a_b cI b ++ ob_wr (a_b 0) cW 8 g_g ++ ob_w2 o_w a_w cI w)) (w2 := (ob_w4 o_b a_b cI b ++ ob_wr (a_b 0) cW 8 g_g ++ ob_w2 o_w a_w cI w)) (b := o_b) (As := [.int x1, .int x2, .int 1]) (rest := []) ⟨hx, hb, hml, hown, hts⟩ (mt_X4_findingOf l dC dI cI cZ cR cW xs _ o_b a_b g_g o_w a_w b w x1 x2 1 hg r_2 hc_14) (cwV 3 hts gX4_set_X4_findingOf rfl rfl rfl (by decide +kernel) ⟨Nat.le_of_ble_eq_true rfl, Nat.le_of_ble_eq_true rfl⟩) hK hE hP hD hS hA ⟨rfl, rfl, rfl, rfl, rfl, rfl, rfl⟩ 4 0 rfl rfl rfl hl rfl rfl (Nat.le_of_ble_eq_true rfl) ⟨Nat.le_of_ble_eq_true rfl, Nat.le_of_ble_eq_true rfl⟩ dX4_set_14 (fun H locs hP hD hS => ?_)
    refine W.widen (k := 0) (n := 0) (Nat.le_refl _) (Nat.le_refl _) ?_
    refine lv_istore (lv' := [(4, .int r_2), (0, .ref o_b), (1, .int x1), (2, .int x2), (3, .int x3)]) hx hb dX4_set_17 hl (by decide) rfl (fun ls hl => ?_)
    refine lv_iload hx hb dX4_set_19 (lv_at hl 0 rfl) ?_
    refine lv_if_eq (tgt := 31) hx hb dX4_set_21 (by decide) (fun c_21 => ?_) (fun c_21 => ?_)
    · replace hd := ob_t c_21 hd
      refine lv_aload_n hx hb dX4_set_31 rfl (lv_at hl 1 rfl) ?_
      refine lv_aload_n hx hb dX4_set_32 rfl (lv_at hl 1 rfl) ?_
      refine va_get (D := (dC, dI)) (ci := 4) (v := .ref (a_b 0)) (C := RX4) (T := TX4) (N := 10) hx hb hts hi_X4 hown hK hP 0 rfl rfl 0 (by decide) kw0 (fun _ h9 => h9) rfl dX4_set_33 ?_
      refine lv_iload_n hx hb dX4_set_36 rfl (lv_at hl 2 rfl) ?_
      obtain ⟨h1_37, hd⟩ := ob_nn hd
      refine va_aldq hx hb hK hP 2 3 rfl rfl h1_37 dX4_set_37 ?_
      refine ob_rf (hg h1_37) ?_
      refine lv_iload_n hx hb dX4_set_38 rfl (lv_at hl 3 rfl) ?_
      refine lv_iload_n hx hb dX4_set_39 rfl (lv_at hl 4 rfl) ?_
      obtain ⟨r_3, w_4, hc_40, hd⟩ := ob_s2 hd
      refine ob_Vi (isC := [3, 4]) (isR := [0, 1, 2]) (is2 := [0, 1, 2, 3, 4]) (wc := (ob_w2 o_w a_w cI w)) (wr := (List.filterMap (fun i => (ob_w4 o_b a_b cI b ++ ob_wr (a_b 0) cW 8 g_g ++ ob_w2 o_w a_w cI w)[i]?) [0, 1, 2])) (w1 := (ob_w2 o_w a_w cI w_4)) (w2 := (ob_w4 o_b a_b cI b ++ ob_wr (a_b 0) cW 8 g_g ++ ob_w2 o_w a_w cI w_4)) (b := o_w) (As := [.int x2, .int x3]) (rest := [.ref o_b]) ⟨hx, hb, hml, hown, hts⟩ (mt_X2_put l dC dI cI cZ cR cW xs _ o_w a_w w x2 x3 r_3 w_4 hc_40) (cwV 2 hts gX4_set_X2_put rfl rfl rfl (by decide +kernel) ⟨Nat.le_of_ble_eq_true rfl, Nat.le_of_ble_eq_true rfl⟩) hK hE hP hD hS hA ⟨rfl, rfl, rfl, rfl, rfl, rfl, rfl⟩ 2 0 rfl rfl rfl hl rfl rfl (Nat.le_of_ble_eq_true rfl) ⟨Nat.le_of_ble_eq_true rfl, Nat.le_of_ble_eq_true rfl⟩ dX4_set_40 (fun H locs hP hD hS => ?_)
      refine W.widen (k := 0) (n := 0) (Nat.le_refl _) (Nat.le_refl _) ?_
      obtain ⟨r_5, b_6, hc_43, hd⟩ := ob_s2 hd
      refine ob_Vi (isC := [0, 1]) (isR := [2, 3, 4]) (is2 := [3, 4, 0, 1, 2]) (wc := (ob_w4 o_b a_b cI b)) (wr := (List.filterMap (fun i => (ob_w4 o_b a_b cI b ++ ob_wr (a_b 0) cW 8 g_g ++ ob_w2 o_w a_w cI w_4)[i]?) [2, 3, 4])) (w1 := (ob_w4 o_b a_b cI b_6)) (w2 := (ob_w4 o_b a_b cI b_6 ++ ob_wr (a_b 0) cW 8 g_g ++ ob_w2 o_w a_w cI w_4)) (b := o_b) (As := [.int r_3]) (rest := []) ⟨hx, hb, hml, hown, hts⟩ (mt_X4_unfound l dC dI cI cZ cR cW xs _ o_b a_b b r_3 r_5 b_6 hc_43) (cwV 1 hts gX4_set_X4_unfound rfl rfl rfl (by decide +kernel) ⟨Nat.le_of_ble_eq_true rfl, Nat.le_of_ble_eq_true rfl⟩) hK hE hP hD hS hA ⟨rfl, rfl, rfl, rfl, rfl, rfl, rfl⟩ 4 0 rfl rfl rfl hl rfl rfl (Nat.le_of_ble_eq_true rfl) ⟨Nat.le_of_ble_eq_true rfl, Nat.le_of_ble_eq_true rfl⟩ dX4_set_43 (fun H locs hP hD hS => ?_)
      refine W.widen (k := 0) (n := 0) (Nat.le_refl _) (Nat.le_refl _) ?_
      obtain ⟨e1, e2, e3⟩ := ob_pq hd
      subst e1
      subst e2
      subst e3
      exact ob_iret hx hb hr hlocks hP hD hS dX4_set_46
    · replace hd := ob_f c_21 hd
      refine lv_aload_n hx hb dX4_set_24 rfl (lv_at hl 1 rfl) ?_
      refine lv_iload hx hb dX4_set_25 (lv_at hl 0 rfl) ?_
      obtain ⟨r_7, b_8, hc_27, hd⟩ := ob_s2 hd
      refine ob_Vi (isC := [0, 1]) (isR := [2, 3, 4]) (is2 := [3, 4, 0, 1, 2]) (wc := (ob_w4 o_b a_b cI b)) (wr := (List.filterMap (fun i => (ob_w4 o_b a_b cI b ++ ob_wr (a_b 0) cW 8 g_g ++ ob_w2 o_w a_w cI w)[i]?) [2, 3, 4])) (w1 := (ob_w4 o_b a_b cI b_8)) (w2 := (ob_w4 o_b a_b cI b_8 ++ ob_wr (a_b 0) cW 8 g_g ++ ob_w2 o_w a_w cI w)) (b := o_b) (As := [.int r_2]) (rest := []) ⟨hx, hb, hml, hown, hts⟩ (mt_X4_found l dC dI cI cZ cR cW xs _ o_b a_b b r_2 r_7 b_8 hc_27) (cwV 1 hts gX4_set_X4_found rfl rfl rfl (by decide +kernel) ⟨Nat.le_of_ble_eq_true rfl, Nat.le_of_ble_eq_true rfl⟩) hK hE hP hD hS hA ⟨rfl, rfl, rfl, rfl, rfl, rfl, rfl⟩ 4 0 rfl rfl rfl hl rfl rfl (Nat.le_of_ble_eq_true rfl) ⟨Nat.le_of_ble_eq_true rfl, Nat.le_of_ble_eq_true rfl⟩ dX4_set_27 (fun H locs hP hD hS => ?_)
      refine W.widen (k := 0) (n := 0) (Nat.le_refl _) (Nat.le_refl _) ?_
      obtain ⟨e1, e2, e3⟩ := ob_pq hd
      subst e1
      subst e2
      subst e3
      exact ob_iret hx hb hr hlocks hP hD hS dX4_set_30
  · replace hd := ob_t c_4 hd
    refine lv_ldc hx hb hown kw1 dX4_set_7 ?_
    obtain ⟨e1, e2, e3⟩ := ob_pq hd
    subst e1
    subst e2
    subst e3
    exact ob_iret hx hb hr hlocks hP hD hS dX4_set_9

def fd_X4_drop  (b : ob_B) (w : ob_B) (x1 : Int32) : Option (Int32 × ob_B × ob_B) := ob_b1 (fd_X4_isRow x1) (fun r_1 => if r_1 = 0 then (some ((-1000001), b, w)) else (if x1 < 0 ∨ 8 ≤ Int32.toNatClampNeg x1 then none else (if (w.1 0) = 0 then (if x1 < 0 ∨ 8 ≤ Int32.toNatClampNeg x1 then none else (ob_lt (ob_I w 0 1 : ob_B) (fun w_2 => if x1 < 0 ∨ 8 ≤ Int32.toNatClampNeg x1 then none else (ob_b2 (fd_X4_unfound b (w_2.1 2)) (fun r_3 b_4 => some (r_3, b_4, w_2)))))) else (ob_b2 (fd_X4_found b 1) (fun r_5 b_6 => some (r_5, b_6, w))))))
set_option maxHeartbeats 4000000 in
set_option maxRecDepth 100000 in
theorem mt_X4_drop (l : Launch) (dC : Nat → ClassId) (dI : Nat → Nat → Nat) (cI cZ cR cW : ClassId) (xs : Nat → Nat) (sz : Nat) (o_b : Nat) (a_b : Nat → Nat) (g_g : Nat → Option Nat) (o_w : Nat) (a_w : Nat → Nat) (b : ob_B) (w : ob_B) (x1 : Int32) (hg : ¬ (x1 < 0 ∨ 8 ≤ Int32.toNatClampNeg x1) → g_g (Int32.toNatClampNeg x1) = some o_w) (rr : Int32) (b' : ob_B) (w' : ob_B) (hd : fd_X4_drop b w x1 = some (rr, b', w')) : ob_M l yX4_drop wsX4_drop ({ frames := 2, cells := 0, slots := 0, locals := 42 } : Room) (dC, dI) (ob_ty cI cZ cR cW) xs [.ref o_b, .int x1] (ob_w4 o_b a_b cI b ++ ob_wr (a_b 0) cW 8 g_g ++ ob_w2 o_w a_w cI w) sz (ob_Qi (dC, dI) rr (ob_w4 o_b a_b cI b' ++ ob_wr (a_b 0) cW 8 g_g ++ ob_w2 o_w a_w cI w')) := by
  rw [fd_X4_drop] at hd
  refine ob_in (cc := cX4_drop) (maxL := 2) (ret := (some .int)) (own := RX4) (by decide) rfl rfl [(0, .ref o_b), (1, .int x1)] rfl (Nat.le_of_ble_eq_true rfl) ?_
  intro p e s m below meth c hx hb hr hml hown hts hlocks hnm hK A hA hE hP hD hS ls hl
  have kw0 := hts (.fieldLink RX4 11 "OathCoach" "rows" "[LOathCoach$Row;") (by decide +kernel)
  have kw1 := hts (.fieldLink RX4 82 "OathCoach$Row" "missing" "Z") (by decide +kernel)
  have kw2 := hts (.fieldLink RX4 102 "OathCoach$Row" "size" "I") (by decide +kernel)
  have kw3 := hts (.constant RX4 62 (-1000001)) (by decide +kernel)
  have hi_X2 : ∀ w ∈ u_ws RX2 TX2 4, w ∈ wsX4_drop := by decide +kernel
  have hi_X4 : ∀ w ∈ u_ws RX4 TX4 10, w ∈ wsX4_drop := by decide +kernel
  refine lv_iload_n hx hb dX4_drop_0 rfl (lv_at hl 1 rfl) ?_
  obtain ⟨r_1, hc_1, hd⟩ := ob_s1 hd
  refine ob_Si (isC := []) (isR := [0, 1, 2, 3, 4]) (is2 := [0, 1, 2, 3, 4]) (wc := ([] : va_W)) (wr := (List.filterMap (fun i => (ob_w4 o_b a_b cI b ++ ob_wr (a_b 0) cW 8 g_g ++ ob_w2 o_w a_w cI w)[i]?) [0, 1, 2, 3, 4])) (w1 := ([] : va_W)) (w2 := (ob_w4 o_b a_b cI b ++ ob_wr (a_b 0) cW 8 g_g ++ ob_w2 o_w a_w cI w)) (As := [.int x1]) (rest := []) ⟨hx, hb, hml, hown, hts⟩ (mt_X4_isRow l dC dI cI cZ cR cW xs _ x1 r_1 hc_1) (va_cwS 1 hts gX4_drop_X4_isRow rfl rfl rfl (by decide +kernel) ⟨Nat.le_of_ble_eq_true rfl, Nat.le_of_ble_eq_true rfl⟩) hK hE hP hD hS hA ⟨rfl, rfl, rfl, rfl, rfl, rfl, rfl⟩ hl rfl rfl (Nat.le_of_ble_eq_true rfl) ⟨Nat.le_of_ble_eq_true rfl, Nat.le_of_ble_eq_true rfl⟩ dX4_drop_1 (fun H locs hP hD hS => ?_)
  refine W.widen (k := 0) (n := 0) (Nat.le_refl _) (Nat.le_refl _) ?_
  refine lv_if_ne (tgt := 10) hx hb dX4_drop_4 (by decide) (fun c_4 => ?_) (fun c_4 => ?_)
  · replace hd := ob_f c_4 hd
    refine lv_aload_n hx hb dX4_drop_10 rfl (lv_at hl 0 rfl) ?_
    refine va_get (D := (dC, dI)) (ci := 4) (v := .ref (a_b 0)) (C := RX4) (T := TX4) (N := 10) hx hb hts hi_X4 hown hK hP 0 rfl rfl 0 (by decide) kw0 (fun _ h9 => h9) rfl dX4_drop_11 ?_
    refine lv_iload_n hx hb dX4_drop_14 rfl (lv_at hl 1 rfl) ?_
    obtain ⟨h1_15, hd⟩ := ob_nn hd
    refine va_aldq hx hb hK hP 2 3 rfl rfl h1_15 dX4_drop_15 ?_
    refine ob_rf (hg h1_15) ?_
    refine va_get (D := (dC, dI)) (ci := 2) (v := .int (w.1 0)) (C := RX2) (T := TX2) (N := 4) hx hb hts hi_X2 hown hK hP 3 rfl rfl 0 (by decide) kw1 (fun _ h9 => h9) rfl dX4_drop_16 ?_
    refine lv_if_eq (tgt := 28) hx hb dX4_drop_19 (by decide) (fun c_19 => ?_) (fun c_19 => ?_)
    · replace hd := ob_t c_19 hd
      refine lv_aload_n hx hb dX4_drop_28 rfl (lv_at hl 0 rfl) ?_
      refine va_get (D := (dC, dI)) (ci := 4) (v := .ref (a_b 0)) (C := RX4) (T := TX4) (N := 10) hx hb hts hi_X4 hown hK hP 0 rfl rfl 0 (by decide) kw0 (fun _ h9 => h9) rfl dX4_drop_29 ?_
      refine lv_iload_n hx hb dX4_drop_32 rfl (lv_at hl 1 rfl) ?_
      obtain ⟨h1_33, hd⟩ := ob_nn hd
      refine va_aldq hx hb hK hP 2 3 rfl rfl h1_33 dX4_drop_33 ?_
      refine ob_rf (hg h1_33) ?_
      refine lv_iconst (v := 1) hx hb dX4_drop_34 (by decide) ?_
      refine va_put (D := (dC, dI)) (ci := 2) (v := .int 1) (ty := .boolean) (C := RX2) (T := TX2) (N := 4) hx hb hts hi_X2 tyX2 tyX2_ok nmX2 hown hK hP hD hS 3 rfl rfl 0 (by decide) kw1 (fun _ h9 => h9) rfl (by decide +kernel) (by decide) rfl (Nat.le_of_ble_eq_true rfl) dX4_drop_35 (fun H locs hP hD hS => ?_)
      obtain ⟨w_2, ew_2⟩ : ∃ z : ob_B, z = ob_I w 0 1 := ⟨_, rfl⟩
      replace hd := ob_lx ew_2 hd
      replace hP : va_P (dC, dI) vwCl (ob_w4 o_b a_b cI b ++ ob_wr (a_b 0) cW 8 g_g ++ ob_w2 o_w a_w cI w_2) H := by rw [ew_2]; exact hP
      replace hD : va_D A (ob_w4 o_b a_b cI b ++ ob_wr (a_b 0) cW 8 g_g ++ ob_w2 o_w a_w cI w_2) := by rw [ew_2]; exact hD
      clear ew_2
      refine lv_aload_n hx hb dX4_drop_38 rfl (lv_at hl 0 rfl) ?_
      refine lv_aload_n hx hb dX4_drop_39 rfl (lv_at hl 0 rfl) ?_
      refine va_get (D := (dC, dI)) (ci := 4) (v := .ref (a_b 0)) (C := RX4) (T := TX4) (N := 10) hx hb hts hi_X4 hown hK hP 0 rfl rfl 0 (by decide) kw0 (fun _ h9 => h9) rfl dX4_drop_40 ?_
      refine lv_iload_n hx hb dX4_drop_43 rfl (lv_at hl 1 rfl) ?_
      obtain ⟨h1_44, hd⟩ := ob_nn hd
      refine va_aldq hx hb hK hP 2 3 rfl rfl h1_44 dX4_drop_44 ?_
      refine ob_rf (hg h1_44) ?_
      refine va_get (D := (dC, dI)) (ci := 2) (v := .int (w_2.1 2)) (C := RX2) (T := TX2) (N := 4) hx hb hts hi_X2 hown hK hP 3 rfl rfl 2 (by decide) kw2 (fun _ h9 => h9) rfl dX4_drop_45 ?_
      obtain ⟨r_3, b_4, hc_48, hd⟩ := ob_s2 hd
      refine ob_Vi (isC := [0, 1]) (isR := [2, 3, 4]) (is2 := [3, 4, 0, 1, 2]) (wc := (ob_w4 o_b a_b cI b)) (wr := (List.filterMap (fun i => (ob_w4 o_b a_b cI b ++ ob_wr (a_b 0) cW 8 g_g ++ ob_w2 o_w a_w cI w_2)[i]?) [2, 3, 4])) (w1 := (ob_w4 o_b a_b cI b_4)) (w2 := (ob_w4 o_b a_b cI b_4 ++ ob_wr (a_b 0) cW 8 g_g ++ ob_w2 o_w a_w cI w_2)) (b := o_b) (As := [.int (w_2.1 2)]) (rest := []) ⟨hx, hb, hml, hown, hts⟩ (mt_X4_unfound l dC dI cI cZ cR cW xs _ o_b a_b b (w_2.1 2) r_3 b_4 hc_48) (cwV 1 hts gX4_drop_X4_unfound rfl rfl rfl (by decide +kernel) ⟨Nat.le_of_ble_eq_true rfl, Nat.le_of_ble_eq_true rfl⟩) hK hE hP hD hS hA ⟨rfl, rfl, rfl, rfl, rfl, rfl, rfl⟩ 4 0 rfl rfl rfl hl rfl rfl (Nat.le_of_ble_eq_true rfl) ⟨Nat.le_of_ble_eq_true rfl, Nat.le_of_ble_eq_true rfl⟩ dX4_drop_48 (fun H locs hP hD hS => ?_)
      refine W.widen (k := 0) (n := 0) (Nat.le_refl _) (Nat.le_refl _) ?_
      obtain ⟨e1, e2, e3⟩ := ob_pq hd
      subst e1
      subst e2
      subst e3
      exact ob_iret hx hb hr hlocks hP hD hS dX4_drop_51
    · replace hd := ob_f c_19 hd
      refine lv_aload_n hx hb dX4_drop_22 rfl (lv_at hl 0 rfl) ?_
      refine lv_iconst (v := 1) hx hb dX4_drop_23 (by decide) ?_
      obtain ⟨r_5, b_6, hc_24, hd⟩ := ob_s2 hd
      refine ob_Vi (isC := [0, 1]) (isR := [2, 3, 4]) (is2 := [3, 4, 0, 1, 2]) (wc := (ob_w4 o_b a_b cI b)) (wr := (List.filterMap (fun i => (ob_w4 o_b a_b cI b ++ ob_wr (a_b 0) cW 8 g_g ++ ob_w2 o_w a_w cI w)[i]?) [2, 3, 4])) (w1 := (ob_w4 o_b a_b cI b_6)) (w2 := (ob_w4 o_b a_b cI b_6 ++ ob_wr (a_b 0) cW 8 g_g ++ ob_w2 o_w a_w cI w)) (b := o_b) (As := [.int 1]) (rest := []) ⟨hx, hb, hml, hown, hts⟩ (mt_X4_found l dC dI cI cZ cR cW xs _ o_b a_b b 1 r_5 b_6 hc_24) (cwV 1 hts gX4_drop_X4_found rfl rfl rfl (by decide +kernel) ⟨Nat.le_of_ble_eq_true rfl, Nat.le_of_ble_eq_true rfl⟩) hK hE hP hD hS hA ⟨rfl, rfl, rfl, rfl, rfl, rfl, rfl⟩ 4 0 rfl rfl rfl hl rfl rfl (Nat.le_of_ble_eq_true rfl) ⟨Nat.le_of_ble_eq_true rfl, Nat.le_of_ble_eq_true rfl⟩ dX4_drop_24 (fun H locs hP hD hS => ?_)
      refine W.widen (k := 0) (n := 0) (Nat.le_refl _) (Nat.le_refl _) ?_
      obtain ⟨e1, e2, e3⟩ := ob_pq hd
      subst e1
      subst e2
      subst e3
      exact ob_iret hx hb hr hlocks hP hD hS dX4_drop_27
  · replace hd := ob_t c_4 hd
    refine lv_ldc hx hb hown kw3 dX4_drop_7 ?_
    obtain ⟨e1, e2, e3⟩ := ob_pq hd
    subst e1
    subst e2
    subst e3
    exact ob_iret hx hb hr hlocks hP hD hS dX4_drop_9

def fd_X4_copyTwo  (b : ob_B) (w : ob_B) (j : ob_B) (x1 : Int32) (x2 : Int32) (x3 : Int32) (x4 : Int32) (x5 : Int32) : Option (Int32 × ob_B × ob_B) := ob_b1 (fd_X4_isRow x1) (fun r_1 => if r_1 = 0 then (some ((-1000001), b, j)) else (ob_b1 (fd_X4_isRow x3) (fun r_2 => if r_2 = 0 then (some ((-1000001), b, j)) else (if x1 < 0 ∨ 8 ≤ Int32.toNatClampNeg x1 then none else (if x3 < 0 ∨ 8 ≤ Int32.toNatClampNeg x3 then none else (if (w.1 0) = 0 then (if (j.1 0) = 0 then (if (w.1 1) = (j.1 1) then (ob_b1 (fd_X2_has w x2 x5) (fun r_5 => if r_5 = 0 then (ob_b2 (fd_X4_found b 2) (fun r_6 b_7 => some (r_6, b_7, j))) else (ob_b1 (fd_X2_has j x4 x5) (fun r_8 => if r_8 = 0 then (ob_b2 (fd_X4_found b 2) (fun r_12 b_13 => some (r_12, b_13, j))) else (if x2 < 0 then none else (if x4 < 0 then none else (if x5 < 0 then none else (if ¬ Int32.toNatClampNeg x2 + Int32.toNatClampNeg x5 ≤ 40 then none else (if ¬ Int32.toNatClampNeg x4 + Int32.toNatClampNeg x5 ≤ 40 then none else (ob_lt (ob_A j 3 (va_cpy (w.2 3) (j.2 3) (Int32.toNatClampNeg x2) (Int32.toNatClampNeg x4) (Int32.toNatClampNeg x5)) : ob_B) (fun j_9 => ob_b2 (fd_X4_unfound b x5) (fun r_10 b_11 => some (r_10, b_11, j_9))))))))))))) else (ob_b2 (fd_X4_found b 5) (fun r_14 b_15 => some (r_14, b_15, j)))) else (ob_b2 (fd_X4_found b 1) (fun r_16 b_17 => some (r_16, b_17, j)))) else (ob_b2 (fd_X4_found b 1) (fun r_3 b_4 => some (r_3, b_4, j)))))))))
set_option maxHeartbeats 4000000 in
set_option maxRecDepth 100000 in
theorem mt_X4_copyTwo (l : Launch) (dC : Nat → ClassId) (dI : Nat → Nat → Nat) (cI cZ cR cW : ClassId) (xs : Nat → Nat) (sz : Nat) (o_b : Nat) (a_b : Nat → Nat) (g_g : Nat → Option Nat) (o_w : Nat) (a_w : Nat → Nat) (o_j : Nat) (a_j : Nat → Nat) (b : ob_B) (w : ob_B) (j : ob_B) (x1 : Int32) (x2 : Int32) (x3 : Int32) (x4 : Int32) (x5 : Int32) (hg : ¬ (x1 < 0 ∨ 8 ≤ Int32.toNatClampNeg x1) → g_g (Int32.toNatClampNeg x1) = some o_w) (hv : ¬ (x3 < 0 ∨ 8 ≤ Int32.toNatClampNeg x3) → g_g (Int32.toNatClampNeg x3) = some o_j) (rr : Int32) (b' : ob_B) (j' : ob_B) (hd : fd_X4_copyTwo b w j x1 x2 x3 x4 x5 = some (rr, b', j')) : ob_M l yX4_copy wsX4_copy ({ frames := 2, cells := 0, slots := 0, locals := 60 } : Room) (dC, dI) (ob_ty cI cZ cR cW) xs [.ref o_b, .int x1, .int x2, .int x3, .int x4, .int x5] (ob_w4 o_b a_b cI b ++ ob_wr (a_b 0) cW 8 g_g ++ ob_w2 o_w a_w cI w ++ ob_w2 o_j a_j cI j) sz (ob_Qi (dC, dI) rr (ob_w4 o_b a_b cI b' ++ ob_wr (a_b 0) cW 8 g_g ++ ob_w2 o_w a_w cI w ++ ob_w2 o_j a_j cI j')) := by
  rw [fd_X4_copyTwo] at hd
  refine ob_in (cc := cX4_copy) (maxL := 8) (ret := (some .int)) (own := RX4) (by decide) rfl rfl [(0, .ref o_b), (1, .int x1), (2, .int x2), (3, .int x3), (4, .int x4), (5, .int x5)] rfl (Nat.le_of_ble_eq_true rfl) ?_
  intro p e s m below meth c hx hb hr hml hown hts hlocks hnm hK A hA hE hP hD hS ls hl
  have kw0 := hts (.constant RX4 62 (-1000001)) (by decide +kernel)
  have kw1 := hts (.fieldLink RX4 11 "OathCoach" "rows" "[LOathCoach$Row;") (by decide +kernel)
  have kw2 := hts (.fieldLink RX4 82 "OathCoach$Row" "missing" "Z") (by decide +kernel)
  have kw3 := hts (.fieldLink RX4 86 "OathCoach$Row" "lane" "I") (by decide +kernel)
  have kw4 := hts (.fieldLink RX4 93 "OathCoach$Row" "items" "[I") (by decide +kernel)
  have kw5 := hts (.methodLink RX4 96 arraycopyName) (by decide +kernel)
  have kw6 := hts (.native arraycopyName) (by decide +kernel)
  have kw7 := hts (.static arraycopyName) (by decide +kernel)
  have kw8 := hts (.initialized "java/lang/System") (by decide +kernel)
  have hi_X2 : ∀ w ∈ u_ws RX2 TX2 4, w ∈ wsX4_copy := by decide +kernel
  have hi_X4 : ∀ w ∈ u_ws RX4 TX4 10, w ∈ wsX4_copy := by decide +kernel
  refine lv_iload_n hx hb dX4_copy_0 rfl (lv_at hl 1 rfl) ?_
  obtain ⟨r_1, hc_1, hd⟩ := ob_s1 hd
  refine ob_Si (isC := []) (isR := [0, 1, 2, 3, 4, 5, 6]) (is2 := [0, 1, 2, 3, 4, 5, 6]) (wc := ([] : va_W)) (wr := (List.filterMap (fun i => (ob_w4 o_b a_b cI b ++ ob_wr (a_b 0) cW 8 g_g ++ ob_w2 o_w a_w cI w ++ ob_w2 o_j a_j cI j)[i]?) [0, 1, 2, 3, 4, 5, 6])) (w1 := ([] : va_W)) (w2 := (ob_w4 o_b a_b cI b ++ ob_wr (a_b 0) cW 8 g_g ++ ob_w2 o_w a_w cI w ++ ob_w2 o_j a_j cI j)) (As := [.int x1]) (rest := []) ⟨hx, hb, hml, hown, hts⟩ (mt_X4_isRow l dC dI cI cZ cR cW xs _ x1 r_1 hc_1) (va_cwS 1 hts gX4_copy_X4_isRow rfl rfl rfl (by decide +kernel) ⟨Nat.le_of_ble_eq_true rfl, Nat.le_of_ble_eq_true rfl⟩) hK hE hP hD hS hA ⟨rfl, rfl, rfl, rfl, rfl, rfl, rfl⟩ hl rfl rfl (Nat.le_of_ble_eq_true rfl) ⟨Nat.le_of_ble_eq_true rfl, Nat.le_of_ble_eq_true rfl⟩ dX4_copy_1 (fun H locs hP hD hS => ?_)
  refine W.widen (k := 0) (n := 0) (Nat.le_refl _) (Nat.le_refl _) ?_
  refine lv_if_eq (tgt := 14) hx hb dX4_copy_4 (by decide) (fun c_4 => ?_) (fun c_4 => ?_)
  · replace hd := ob_t c_4 hd
    refine lv_ldc hx hb hown kw0 dX4_copy_14 ?_
    obtain ⟨e1, e2, e3⟩ := ob_pq hd
    subst e1
    subst e2
    subst e3
    exact ob_iret hx hb hr hlocks hP hD hS dX4_copy_16
  · replace hd := ob_f c_4 hd
    refine lv_iload_n hx hb dX4_copy_7 rfl (lv_at hl 3 rfl) ?_
    obtain ⟨r_2, hc_8, hd⟩ := ob_s1 hd
    refine ob_Si (isC := []) (isR := [0, 1, 2, 3, 4, 5, 6]) (is2 := [0, 1, 2, 3, 4, 5, 6]) (wc := ([] : va_W)) (wr := (List.filterMap (fun i => (ob_w4 o_b a_b cI b ++ ob_wr (a_b 0) cW 8 g_g ++ ob_w2 o_w a_w cI w ++ ob_w2 o_j a_j cI j)[i]?) [0, 1, 2, 3, 4, 5, 6])) (w1 := ([] : va_W)) (w2 := (ob_w4 o_b a_b cI b ++ ob_wr (a_b 0) cW 8 g_g ++ ob_w2 o_w a_w cI w ++ ob_w2 o_j a_j cI j)) (As := [.int x3]) (rest := []) ⟨hx, hb, hml, hown, hts⟩ (mt_X4_isRow l dC dI cI cZ cR cW xs _ x3 r_2 hc_8) (va_cwS 1 hts gX4_copy_X4_isRow rfl rfl rfl (by decide +kernel) ⟨Nat.le_of_ble_eq_true rfl, Nat.le_of_ble_eq_true rfl⟩) hK hE hP hD hS hA ⟨rfl, rfl, rfl, rfl, rfl, rfl, rfl⟩ hl rfl rfl (Nat.le_of_ble_eq_true rfl) ⟨Nat.le_of_ble_eq_true rfl, Nat.le_of_ble_eq_true rfl⟩ dX4_copy_8 (fun H locs hP hD hS => ?_)
    refine W.widen (k := 0) (n := 0) (Nat.le_refl _) (Nat.le_refl _) ?_
    refine lv_if_ne (tgt := 17) hx hb dX4_copy_11 (by decide) (fun c_11 => ?_) (fun c_11 => ?_)
    · replace hd := ob_f c_11 hd
      refine lv_aload_n hx hb dX4_copy_17 rfl (lv_at hl 0 rfl) ?_
      refine va_get (D := (dC, dI)) (ci := 4) (v := .ref (a_b 0)) (C := RX4) (T := TX4) (N := 10) hx hb hts hi_X4 hown hK hP 0 rfl rfl 0 (by decide) kw1 (fun _ h9 => h9) rfl dX4_copy_18 ?_
      refine lv_iload_n hx hb dX4_copy_21 rfl (lv_at hl 1 rfl) ?_
      obtain ⟨h1_22, hd⟩ := ob_nn hd
      refine va_aldq hx hb hK hP 2 3 rfl rfl h1_22 dX4_copy_22 ?_
      refine ob_rf (hg h1_22) ?_
      refine lv_astore (lv' := [(6, .ref o_w), (0, .ref o_b), (1, .int x1), (2, .int x2), (3, .int x3), (4, .int x4), (5, .int x5)]) hx hb dX4_copy_23 hl (by decide) rfl (fun ls hl => ?_)
      refine lv_aload_n hx hb dX4_copy_25 rfl (lv_at hl 1 rfl) ?_
      refine va_get (D := (dC, dI)) (ci := 4) (v := .ref (a_b 0)) (C := RX4) (T := TX4) (N := 10) hx hb hts hi_X4 hown hK hP 0 rfl rfl 0 (by decide) kw1 (fun _ h9 => h9) rfl dX4_copy_26 ?_
      refine lv_iload_n hx hb dX4_copy_29 rfl (lv_at hl 4 rfl) ?_
      obtain ⟨h1_30, hd⟩ := ob_nn hd
      refine va_aldq hx hb hK hP 2 3 rfl rfl h1_30 dX4_copy_30 ?_
      refine ob_rf (hv h1_30) ?_
      refine lv_astore (lv' := [(7, .ref o_j), (6, .ref o_w), (0, .ref o_b), (1, .int x1), (2, .int x2), (3, .int x3), (4, .int x4), (5, .int x5)]) hx hb dX4_copy_31 hl (by decide) rfl (fun ls hl => ?_)
      refine lv_aload hx hb dX4_copy_33 (lv_at hl 1 rfl) ?_
      refine va_get (D := (dC, dI)) (ci := 2) (v := .int (w.1 0)) (C := RX2) (T := TX2) (N := 4) hx hb hts hi_X2 hown hK hP 3 rfl rfl 0 (by decide) kw2 (fun _ h9 => h9) rfl dX4_copy_35 ?_
      refine lv_if_ne (tgt := 49) hx hb dX4_copy_38 (by decide) (fun c_38 => ?_) (fun c_38 => ?_)
      · replace hd := ob_f c_38 hd
        refine lv_aload_n hx hb dX4_copy_49 rfl (lv_at hl 2 rfl) ?_
        refine lv_iconst (v := 1) hx hb dX4_copy_50 (by decide) ?_
        obtain ⟨r_3, b_4, hc_51, hd⟩ := ob_s2 hd
        refine ob_Vi (isC := [0, 1]) (isR := [2, 3, 4, 5, 6]) (is2 := [5, 6, 0, 1, 2, 3, 4]) (wc := (ob_w4 o_b a_b cI b)) (wr := (List.filterMap (fun i => (ob_w4 o_b a_b cI b ++ ob_wr (a_b 0) cW 8 g_g ++ ob_w2 o_w a_w cI w ++ ob_w2 o_j a_j cI j)[i]?) [2, 3, 4, 5, 6])) (w1 := (ob_w4 o_b a_b cI b_4)) (w2 := (ob_w4 o_b a_b cI b_4 ++ ob_wr (a_b 0) cW 8 g_g ++ ob_w2 o_w a_w cI w ++ ob_w2 o_j a_j cI j)) (b := o_b) (As := [.int 1]) (rest := []) ⟨hx, hb, hml, hown, hts⟩ (mt_X4_found l dC dI cI cZ cR cW xs _ o_b a_b b 1 r_3 b_4 hc_51) (cwV 1 hts gX4_copy_X4_found rfl rfl rfl (by decide +kernel) ⟨Nat.le_of_ble_eq_true rfl, Nat.le_of_ble_eq_true rfl⟩) hK hE hP hD hS hA ⟨rfl, rfl, rfl, rfl, rfl, rfl, rfl⟩ 4 0 rfl rfl rfl hl rfl rfl (Nat.le_of_ble_eq_true rfl) ⟨Nat.le_of_ble_eq_true rfl, Nat.le_of_ble_eq_true rfl⟩ dX4_copy_51 (fun H locs hP hD hS => ?_)
        refine W.widen (k := 0) (n := 0) (Nat.le_refl _) (Nat.le_refl _) ?_
        obtain ⟨e1, e2, e3⟩ := ob_pq hd
        subst e1
        subst e2
        subst e3
        exact ob_iret hx hb hr hlocks hP hD hS dX4_copy_54
      · replace hd := ob_t c_38 hd
        refine lv_aload hx hb dX4_copy_41 (lv_at hl 0 rfl) ?_
        refine va_get (D := (dC, dI)) (ci := 2) (v := .int (j.1 0)) (C := RX2) (T := TX2) (N := 4) hx hb hts hi_X2 hown hK hP 5 rfl rfl 0 (by decide) kw2 (fun _ h9 => h9) rfl dX4_copy_43 ?_
        refine lv_if_eq (tgt := 55) hx hb dX4_copy_46 (by decide) (fun c_46 => ?_) (fun c_46 => ?_)
        · replace hd := ob_t c_46 hd
          refine lv_aload hx hb dX4_copy_55 (lv_at hl 1 rfl) ?_
          refine va_get (D := (dC, dI)) (ci := 2) (v := .int (w.1 1)) (C := RX2) (T := TX2) (N := 4) hx hb hts hi_X2 hown hK hP 3 rfl rfl 1 (by decide) kw3 (fun _ h9 => h9) rfl dX4_copy_57 ?_
          refine lv_aload hx hb dX4_copy_60 (lv_at hl 0 rfl) ?_
          refine va_get (D := (dC, dI)) (ci := 2) (v := .int (j.1 1)) (C := RX2) (T := TX2) (N := 4) hx hb hts hi_X2 hown hK hP 5 rfl rfl 1 (by decide) kw3 (fun _ h9 => h9) rfl dX4_copy_62 ?_
          refine lv_icmp_eq (tgt := 74) hx hb dX4_copy_65 (by decide) (fun c_65 => ?_) (fun c_65 => ?_)
          · replace hd := ob_t c_65 hd
            refine lv_aload hx hb dX4_copy_74 (lv_at hl 1 rfl) ?_
            refine lv_iload_n hx hb dX4_copy_76 rfl (lv_at hl 4 rfl) ?_
            refine lv_iload hx hb dX4_copy_77 (lv_at hl 7 rfl) ?_
            obtain ⟨r_5, hc_79, hd⟩ := ob_s1 hd
            refine ob_Vi (isC := [3, 4]) (isR := [0, 1, 2, 5, 6]) (is2 := [0, 1, 2, 5, 6, 3, 4]) (wc := (ob_w2 o_w a_w cI w)) (wr := (List.filterMap (fun i => (ob_w4 o_b a_b cI b ++ ob_wr (a_b 0) cW 8 g_g ++ ob_w2 o_w a_w cI w ++ ob_w2 o_j a_j cI j)[i]?) [0, 1, 2, 5, 6])) (w1 := (ob_w2 o_w a_w cI w)) (w2 := (ob_w4 o_b a_b cI b ++ ob_wr (a_b 0) cW 8 g_g ++ ob_w2 o_w a_w cI w ++ ob_w2 o_j a_j cI j)) (b := o_w) (As := [.int x2, .int x5]) (rest := []) ⟨hx, hb, hml, hown, hts⟩ (mt_X2_has l dC dI cI cZ cR cW xs _ o_w a_w w x2 x5 r_5 hc_79) (cwV 2 hts gX4_copy_X2_has rfl rfl rfl (by decide +kernel) ⟨Nat.le_of_ble_eq_true rfl, Nat.le_of_ble_eq_true rfl⟩) hK hE hP hD hS hA ⟨rfl, rfl, rfl, rfl, rfl, rfl, rfl⟩ 2 0 rfl rfl rfl hl rfl rfl (Nat.le_of_ble_eq_true rfl) ⟨Nat.le_of_ble_eq_true rfl, Nat.le_of_ble_eq_true rfl⟩ dX4_copy_79 (fun H locs hP hD hS => ?_)
            refine W.widen (k := 0) (n := 0) (Nat.le_refl _) (Nat.le_refl _) ?_
            refine lv_if_eq (tgt := 97) hx hb dX4_copy_82 (by decide) (fun c_82 => ?_) (fun c_82 => ?_)
            · replace hd := ob_t c_82 hd
              refine lv_aload_n hx hb dX4_copy_97 rfl (lv_at hl 2 rfl) ?_
              refine lv_iconst (v := 2) hx hb dX4_copy_98 (by decide) ?_
              obtain ⟨r_6, b_7, hc_99, hd⟩ := ob_s2 hd
              refine ob_Vi (isC := [0, 1]) (isR := [2, 3, 4, 5, 6]) (is2 := [5, 6, 0, 1, 2, 3, 4]) (wc := (ob_w4 o_b a_b cI b)) (wr := (List.filterMap (fun i => (ob_w4 o_b a_b cI b ++ ob_wr (a_b 0) cW 8 g_g ++ ob_w2 o_w a_w cI w ++ ob_w2 o_j a_j cI j)[i]?) [2, 3, 4, 5, 6])) (w1 := (ob_w4 o_b a_b cI b_7)) (w2 := (ob_w4 o_b a_b cI b_7 ++ ob_wr (a_b 0) cW 8 g_g ++ ob_w2 o_w a_w cI w ++ ob_w2 o_j a_j cI j)) (b := o_b) (As := [.int 2]) (rest := []) ⟨hx, hb, hml, hown, hts⟩ (mt_X4_found l dC dI cI cZ cR cW xs _ o_b a_b b 2 r_6 b_7 hc_99) (cwV 1 hts gX4_copy_X4_found rfl rfl rfl (by decide +kernel) ⟨Nat.le_of_ble_eq_true rfl, Nat.le_of_ble_eq_true rfl⟩) hK hE hP hD hS hA ⟨rfl, rfl, rfl, rfl, rfl, rfl, rfl⟩ 4 0 rfl rfl rfl hl rfl rfl (Nat.le_of_ble_eq_true rfl) ⟨Nat.le_of_ble_eq_true rfl, Nat.le_of_ble_eq_true rfl⟩ dX4_copy_99 (fun H locs hP hD hS => ?_)
              refine W.widen (k := 0) (n := 0) (Nat.le_refl _) (Nat.le_refl _) ?_
              obtain ⟨e1, e2, e3⟩ := ob_pq hd
              subst e1
              subst e2
              subst e3
              exact ob_iret hx hb hr hlocks hP hD hS dX4_copy_102
            · replace hd := ob_f c_82 hd
              refine lv_aload hx hb dX4_copy_85 (lv_at hl 0 rfl) ?_
              refine lv_iload hx hb dX4_copy_87 (lv_at hl 6 rfl) ?_
              refine lv_iload hx hb dX4_copy_89 (lv_at hl 7 rfl) ?_
              obtain ⟨r_8, hc_91, hd⟩ := ob_s1 hd
              refine ob_Vi (isC := [5, 6]) (isR := [0, 1, 2, 3, 4]) (is2 := [0, 1, 2, 3, 4, 5, 6]) (wc := (ob_w2 o_j a_j cI j)) (wr := (List.filterMap (fun i => (ob_w4 o_b a_b cI b ++ ob_wr (a_b 0) cW 8 g_g ++ ob_w2 o_w a_w cI w ++ ob_w2 o_j a_j cI j)[i]?) [0, 1, 2, 3, 4])) (w1 := (ob_w2 o_j a_j cI j)) (w2 := (ob_w4 o_b a_b cI b ++ ob_wr (a_b 0) cW 8 g_g ++ ob_w2 o_w a_w cI w ++ ob_w2 o_j a_j cI j)) (b := o_j) (As := [.int x4, .int x5]) (rest := []) ⟨hx, hb, hml, hown, hts⟩ (mt_X2_has l dC dI cI cZ cR cW xs _ o_j a_j j x4 x5 r_8 hc_91) (cwV 2 hts gX4_copy_X2_has rfl rfl rfl (by decide +kernel) ⟨Nat.le_of_ble_eq_true rfl, Nat.le_of_ble_eq_true rfl⟩) hK hE hP hD hS hA ⟨rfl, rfl, rfl, rfl, rfl, rfl, rfl⟩ 2 0 rfl rfl rfl hl rfl rfl (Nat.le_of_ble_eq_true rfl) ⟨Nat.le_of_ble_eq_true rfl, Nat.le_of_ble_eq_true rfl⟩ dX4_copy_91 (fun H locs hP hD hS => ?_)
              refine W.widen (k := 0) (n := 0) (Nat.le_refl _) (Nat.le_refl _) ?_
              refine lv_if_ne (tgt := 103) hx hb dX4_copy_94 (by decide) (fun c_94 => ?_) (fun c_94 => ?_)
              · replace hd := ob_f c_94 hd
                refine lv_aload hx hb dX4_copy_103 (lv_at hl 1 rfl) ?_
                refine va_get (D := (dC, dI)) (ci := 2) (v := .ref (a_w 3)) (C := RX2) (T := TX2) (N := 4) hx hb hts hi_X2 hown hK hP 3 rfl rfl 3 (by decide) kw4 (fun _ h9 => h9) rfl dX4_copy_105 ?_
                refine lv_iload_n hx hb dX4_copy_108 rfl (lv_at hl 4 rfl) ?_
                refine lv_aload hx hb dX4_copy_109 (lv_at hl 0 rfl) ?_
                refine va_get (D := (dC, dI)) (ci := 2) (v := .ref (a_j 3)) (C := RX2) (T := TX2) (N := 4) hx hb hts hi_X2 hown hK hP 5 rfl rfl 3 (by decide) kw4 (fun _ h9 => h9) rfl dX4_copy_111 ?_
                refine lv_iload hx hb dX4_copy_114 (lv_at hl 6 rfl) ?_
                refine lv_iload hx hb dX4_copy_116 (lv_at hl 7 rfl) ?_
                obtain ⟨q0_118, hd⟩ := ob_nn hd
                obtain ⟨q1_118, hd⟩ := ob_nn hd
                obtain ⟨q2_118, hd⟩ := ob_nn hd
                obtain ⟨q3_118, hd⟩ := ob_nn hd
                obtain ⟨q4_118, hd⟩ := ob_nn hd
                refine va_copyi hx hb (by rw [hml]; exact hl.1.symm) hown kw5 kw6 kw7 kw8 hK hP hD hS 4 6 0 0 rfl rfl rfl rfl rfl q0_118 q1_118 q2_118 (Decidable.of_not_not q3_118) (Decidable.of_not_not q4_118) (fun _ _ => rfl) (Nat.le_of_ble_eq_true rfl) (Nat.le_of_ble_eq_true rfl) dX4_copy_118 (fun H locs hP hD hS => ?_)
                obtain ⟨j_9, ej_9⟩ : ∃ z : ob_B, z = ob_A j 3 (va_cpy (w.2 3) (j.2 3) (Int32.toNatClampNeg x2) (Int32.toNatClampNeg x4) (Int32.toNatClampNeg x5)) := ⟨_, rfl⟩
                replace hd := ob_lx ej_9 hd
                replace hP : va_P (dC, dI) vwCl (ob_w4 o_b a_b cI b ++ ob_wr (a_b 0) cW 8 g_g ++ ob_w2 o_w a_w cI w ++ ob_w2 o_j a_j cI j_9) H := by rw [ej_9]; exact hP
                replace hD : va_D A (ob_w4 o_b a_b cI b ++ ob_wr (a_b 0) cW 8 g_g ++ ob_w2 o_w a_w cI w ++ ob_w2 o_j a_j cI j_9) := by rw [ej_9]; exact hD
                clear ej_9
                refine lv_aload_n hx hb dX4_copy_121 rfl (lv_at hl 2 rfl) ?_
                refine lv_iload hx hb dX4_copy_122 (lv_at hl 7 rfl) ?_
                obtain ⟨r_10, b_11, hc_124, hd⟩ := ob_s2 hd
                refine ob_Vi (isC := [0, 1]) (isR := [2, 3, 4, 5, 6]) (is2 := [5, 6, 0, 1, 2, 3, 4]) (wc := (ob_w4 o_b a_b cI b)) (wr := (List.filterMap (fun i => (ob_w4 o_b a_b cI b ++ ob_wr (a_b 0) cW 8 g_g ++ ob_w2 o_w a_w cI w ++ ob_w2 o_j a_j cI j_9)[i]?) [2, 3, 4, 5, 6])) (w1 := (ob_w4 o_b a_b cI b_11)) (w2 := (ob_w4 o_b a_b cI b_11 ++ ob_wr (a_b 0) cW 8 g_g ++ ob_w2 o_w a_w cI w ++ ob_w2 o_j a_j cI j_9)) (b := o_b) (As := [.int x5]) (rest := []) ⟨hx, hb, hml, hown, hts⟩ (mt_X4_unfound l dC dI cI cZ cR cW xs _ o_b a_b b x5 r_10 b_11 hc_124) (cwV 1 hts gX4_copy_X4_unfound rfl rfl rfl (by decide +kernel) ⟨Nat.le_of_ble_eq_true rfl, Nat.le_of_ble_eq_true rfl⟩) hK hE hP hD hS hA ⟨rfl, rfl, rfl, rfl, rfl, rfl, rfl⟩ 4 0 rfl rfl rfl hl rfl rfl (Nat.le_of_ble_eq_true rfl) ⟨Nat.le_of_ble_eq_true rfl, Nat.le_of_ble_eq_true rfl⟩ dX4_copy_124 (fun H locs hP hD hS => ?_)
                refine W.widen (k := 0) (n := 0) (Nat.le_refl _) (Nat.le_refl _) ?_
                obtain ⟨e1, e2, e3⟩ := ob_pq hd
                subst e1
                subst e2
                subst e3
                exact ob_iret hx hb hr hlocks hP hD hS dX4_copy_127
              · replace hd := ob_t c_94 hd
                refine lv_aload_n hx hb dX4_copy_97 rfl (lv_at hl 2 rfl) ?_
                refine lv_iconst (v := 2) hx hb dX4_copy_98 (by decide) ?_
                obtain ⟨r_12, b_13, hc_99, hd⟩ := ob_s2 hd
                refine ob_Vi (isC := [0, 1]) (isR := [2, 3, 4, 5, 6]) (is2 := [5, 6, 0, 1, 2, 3, 4]) (wc := (ob_w4 o_b a_b cI b)) (wr := (List.filterMap (fun i => (ob_w4 o_b a_b cI b ++ ob_wr (a_b 0) cW 8 g_g ++ ob_w2 o_w a_w cI w ++ ob_w2 o_j a_j cI j)[i]?) [2, 3, 4, 5, 6])) (w1 := (ob_w4 o_b a_b cI b_13)) (w2 := (ob_w4 o_b a_b cI b_13 ++ ob_wr (a_b 0) cW 8 g_g ++ ob_w2 o_w a_w cI w ++ ob_w2 o_j a_j cI j)) (b := o_b) (As := [.int 2]) (rest := []) ⟨hx, hb, hml, hown, hts⟩ (mt_X4_found l dC dI cI cZ cR cW xs _ o_b a_b b 2 r_12 b_13 hc_99) (cwV 1 hts gX4_copy_X4_found rfl rfl rfl (by decide +kernel) ⟨Nat.le_of_ble_eq_true rfl, Nat.le_of_ble_eq_true rfl⟩) hK hE hP hD hS hA ⟨rfl, rfl, rfl, rfl, rfl, rfl, rfl⟩ 4 0 rfl rfl rfl hl rfl rfl (Nat.le_of_ble_eq_true rfl) ⟨Nat.le_of_ble_eq_true rfl, Nat.le_of_ble_eq_true rfl⟩ dX4_copy_99 (fun H locs hP hD hS => ?_)
                refine W.widen (k := 0) (n := 0) (Nat.le_refl _) (Nat.le_refl _) ?_
                obtain ⟨e1, e2, e3⟩ := ob_pq hd
                subst e1
                subst e2
                subst e3
                exact ob_iret hx hb hr hlocks hP hD hS dX4_copy_102
          · replace hd := ob_f c_65 hd
            refine lv_aload_n hx hb dX4_copy_68 rfl (lv_at hl 2 rfl) ?_
            refine lv_iconst (v := 5) hx hb dX4_copy_69 (by decide) ?_
            obtain ⟨r_14, b_15, hc_70, hd⟩ := ob_s2 hd
            refine ob_Vi (isC := [0, 1]) (isR := [2, 3, 4, 5, 6]) (is2 := [5, 6, 0, 1, 2, 3, 4]) (wc := (ob_w4 o_b a_b cI b)) (wr := (List.filterMap (fun i => (ob_w4 o_b a_b cI b ++ ob_wr (a_b 0) cW 8 g_g ++ ob_w2 o_w a_w cI w ++ ob_w2 o_j a_j cI j)[i]?) [2, 3, 4, 5, 6])) (w1 := (ob_w4 o_b a_b cI b_15)) (w2 := (ob_w4 o_b a_b cI b_15 ++ ob_wr (a_b 0) cW 8 g_g ++ ob_w2 o_w a_w cI w ++ ob_w2 o_j a_j cI j)) (b := o_b) (As := [.int 5]) (rest := []) ⟨hx, hb, hml, hown, hts⟩ (mt_X4_found l dC dI cI cZ cR cW xs _ o_b a_b b 5 r_14 b_15 hc_70) (cwV 1 hts gX4_copy_X4_found rfl rfl rfl (by decide +kernel) ⟨Nat.le_of_ble_eq_true rfl, Nat.le_of_ble_eq_true rfl⟩) hK hE hP hD hS hA ⟨rfl, rfl, rfl, rfl, rfl, rfl, rfl⟩ 4 0 rfl rfl rfl hl rfl rfl (Nat.le_of_ble_eq_true rfl) ⟨Nat.le_of_ble_eq_true rfl, Nat.le_of_ble_eq_true rfl⟩ dX4_copy_70 (fun H locs hP hD hS => ?_)
            refine W.widen (k := 0) (n := 0) (Nat.le_refl _) (Nat.le_refl _) ?_
            obtain ⟨e1, e2, e3⟩ := ob_pq hd
            subst e1
            subst e2
            subst e3
            exact ob_iret hx hb hr hlocks hP hD hS dX4_copy_73
        · replace hd := ob_f c_46 hd
          refine lv_aload_n hx hb dX4_copy_49 rfl (lv_at hl 2 rfl) ?_
          refine lv_iconst (v := 1) hx hb dX4_copy_50 (by decide) ?_
          obtain ⟨r_16, b_17, hc_51, hd⟩ := ob_s2 hd
          refine ob_Vi (isC := [0, 1]) (isR := [2, 3, 4, 5, 6]) (is2 := [5, 6, 0, 1, 2, 3, 4]) (wc := (ob_w4 o_b a_b cI b)) (wr := (List.filterMap (fun i => (ob_w4 o_b a_b cI b ++ ob_wr (a_b 0) cW 8 g_g ++ ob_w2 o_w a_w cI w ++ ob_w2 o_j a_j cI j)[i]?) [2, 3, 4, 5, 6])) (w1 := (ob_w4 o_b a_b cI b_17)) (w2 := (ob_w4 o_b a_b cI b_17 ++ ob_wr (a_b 0) cW 8 g_g ++ ob_w2 o_w a_w cI w ++ ob_w2 o_j a_j cI j)) (b := o_b) (As := [.int 1]) (rest := []) ⟨hx, hb, hml, hown, hts⟩ (mt_X4_found l dC dI cI cZ cR cW xs _ o_b a_b b 1 r_16 b_17 hc_51) (cwV 1 hts gX4_copy_X4_found rfl rfl rfl (by decide +kernel) ⟨Nat.le_of_ble_eq_true rfl, Nat.le_of_ble_eq_true rfl⟩) hK hE hP hD hS hA ⟨rfl, rfl, rfl, rfl, rfl, rfl, rfl⟩ 4 0 rfl rfl rfl hl rfl rfl (Nat.le_of_ble_eq_true rfl) ⟨Nat.le_of_ble_eq_true rfl, Nat.le_of_ble_eq_true rfl⟩ dX4_copy_51 (fun H locs hP hD hS => ?_)
          refine W.widen (k := 0) (n := 0) (Nat.le_refl _) (Nat.le_refl _) ?_
          obtain ⟨e1, e2, e3⟩ := ob_pq hd
          subst e1
          subst e2
          subst e3
          exact ob_iret hx hb hr hlocks hP hD hS dX4_copy_54
    · replace hd := ob_t c_11 hd
      refine lv_ldc hx hb hown kw0 dX4_copy_14 ?_
      obtain ⟨e1, e2, e3⟩ := ob_pq hd
      subst e1
      subst e2
      subst e3
      exact ob_iret hx hb hr hlocks hP hD hS dX4_copy_16

def fd_X4_copyOne  (b : ob_B) (w : ob_B) (x1 : Int32) (x2 : Int32) (x3 : Int32) (x4 : Int32) (x5 : Int32) : Option (Int32 × ob_B × ob_B) := ob_b1 (fd_X4_isRow x1) (fun r_1 => if r_1 = 0 then (some ((-1000001), b, w)) else (ob_b1 (fd_X4_isRow x3) (fun r_2 => if r_2 = 0 then (some ((-1000001), b, w)) else (if x1 < 0 ∨ 8 ≤ Int32.toNatClampNeg x1 then none else (if x3 < 0 ∨ 8 ≤ Int32.toNatClampNeg x3 then none else (if (w.1 0) = 0 then (if (w.1 0) = 0 then (if (w.1 1) = (w.1 1) then (ob_b1 (fd_X2_has w x2 x5) (fun r_5 => if r_5 = 0 then (ob_b2 (fd_X4_found b 2) (fun r_6 b_7 => some (r_6, b_7, w))) else (ob_b1 (fd_X2_has w x4 x5) (fun r_8 => if r_8 = 0 then (ob_b2 (fd_X4_found b 2) (fun r_12 b_13 => some (r_12, b_13, w))) else (if x2 < 0 then none else (if x4 < 0 then none else (if x5 < 0 then none else (if ¬ Int32.toNatClampNeg x2 + Int32.toNatClampNeg x5 ≤ 40 then none else (if ¬ Int32.toNatClampNeg x4 + Int32.toNatClampNeg x5 ≤ 40 then none else (ob_lt (ob_A w 3 (va_cpy (w.2 3) (w.2 3) (Int32.toNatClampNeg x2) (Int32.toNatClampNeg x4) (Int32.toNatClampNeg x5)) : ob_B) (fun w_9 => ob_b2 (fd_X4_unfound b x5) (fun r_10 b_11 => some (r_10, b_11, w_9))))))))))))) else (ob_b2 (fd_X4_found b 5) (fun r_14 b_15 => some (r_14, b_15, w)))) else (ob_b2 (fd_X4_found b 1) (fun r_16 b_17 => some (r_16, b_17, w)))) else (ob_b2 (fd_X4_found b 1) (fun r_3 b_4 => some (r_3, b_4, w)))))))))
set_option maxHeartbeats 4000000 in
set_option maxRecDepth 100000 in
theorem mt_X4_copyOne (l : Launch) (dC : Nat → ClassId) (dI : Nat → Nat → Nat) (cI cZ cR cW : ClassId) (xs : Nat → Nat) (sz : Nat) (o_b : Nat) (a_b : Nat → Nat) (g_g : Nat → Option Nat) (o_w : Nat) (a_w : Nat → Nat) (b : ob_B) (w : ob_B) (x1 : Int32) (x2 : Int32) (x3 : Int32) (x4 : Int32) (x5 : Int32) (hg : ¬ (x1 < 0 ∨ 8 ≤ Int32.toNatClampNeg x1) → g_g (Int32.toNatClampNeg x1) = some o_w) (hv : ¬ (x3 < 0 ∨ 8 ≤ Int32.toNatClampNeg x3) → g_g (Int32.toNatClampNeg x3) = some o_w) (rr : Int32) (b' : ob_B) (w' : ob_B) (hd : fd_X4_copyOne b w x1 x2 x3 x4 x5 = some (rr, b', w')) : ob_M l yX4_copy wsX4_copy ({ frames := 2, cells := 0, slots := 0, locals := 60 } : Room) (dC, dI) (ob_ty cI cZ cR cW) xs [.ref o_b, .int x1, .int x2, .int x3, .int x4, .int x5] (ob_w4 o_b a_b cI b ++ ob_wr (a_b 0) cW 8 g_g ++ ob_w2 o_w a_w cI w) sz (ob_Qi (dC, dI) rr (ob_w4 o_b a_b cI b' ++ ob_wr (a_b 0) cW 8 g_g ++ ob_w2 o_w a_w cI w')) := by
  rw [fd_X4_copyOne] at hd
  refine ob_in (cc := cX4_copy) (maxL := 8) (ret := (some .int)) (own := RX4) (by decide) rfl rfl [(0, .ref o_b), (1, .int x1), (2, .int x2), (3, .int x3), (4, .int x4), (5, .int x5)] rfl (Nat.le_of_ble_eq_true rfl) ?_
  intro p e s m below meth c hx hb hr hml hown hts hlocks hnm hK A hA hE hP hD hS ls hl
  have kw0 := hts (.constant RX4 62 (-1000001)) (by decide +kernel)
  have kw1 := hts (.fieldLink RX4 11 "OathCoach" "rows" "[LOathCoach$Row;") (by decide +kernel)
  have kw2 := hts (.fieldLink RX4 82 "OathCoach$Row" "missing" "Z") (by decide +kernel)
  have kw3 := hts (.fieldLink RX4 86 "OathCoach$Row" "lane" "I") (by decide +kernel)
  have kw4 := hts (.fieldLink RX4 93 "OathCoach$Row" "items" "[I") (by decide +kernel)
  have kw5 := hts (.methodLink RX4 96 arraycopyName) (by decide +kernel)
  have kw6 := hts (.native arraycopyName) (by decide +kernel)
  have kw7 := hts (.static arraycopyName) (by decide +kernel)
  have kw8 := hts (.initialized "java/lang/System") (by decide +kernel)
  have hi_X2 : ∀ w ∈ u_ws RX2 TX2 4, w ∈ wsX4_copy := by decide +kernel
  have hi_X4 : ∀ w ∈ u_ws RX4 TX4 10, w ∈ wsX4_copy := by decide +kernel
  refine lv_iload_n hx hb dX4_copy_0 rfl (lv_at hl 1 rfl) ?_
  obtain ⟨r_1, hc_1, hd⟩ := ob_s1 hd
  refine ob_Si (isC := []) (isR := [0, 1, 2, 3, 4]) (is2 := [0, 1, 2, 3, 4]) (wc := ([] : va_W)) (wr := (List.filterMap (fun i => (ob_w4 o_b a_b cI b ++ ob_wr (a_b 0) cW 8 g_g ++ ob_w2 o_w a_w cI w)[i]?) [0, 1, 2, 3, 4])) (w1 := ([] : va_W)) (w2 := (ob_w4 o_b a_b cI b ++ ob_wr (a_b 0) cW 8 g_g ++ ob_w2 o_w a_w cI w)) (As := [.int x1]) (rest := []) ⟨hx, hb, hml, hown, hts⟩ (mt_X4_isRow l dC dI cI cZ cR cW xs _ x1 r_1 hc_1) (va_cwS 1 hts gX4_copy_X4_isRow rfl rfl rfl (by decide +kernel) ⟨Nat.le_of_ble_eq_true rfl, Nat.le_of_ble_eq_true rfl⟩) hK hE hP hD hS hA ⟨rfl, rfl, rfl, rfl, rfl, rfl, rfl⟩ hl rfl rfl (Nat.le_of_ble_eq_true rfl) ⟨Nat.le_of_ble_eq_true rfl, Nat.le_of_ble_eq_true rfl⟩ dX4_copy_1 (fun H locs hP hD hS => ?_)
  refine W.widen (k := 0) (n := 0) (Nat.le_refl _) (Nat.le_refl _) ?_
  refine lv_if_eq (tgt := 14) hx hb dX4_copy_4 (by decide) (fun c_4 => ?_) (fun c_4 => ?_)
  · replace hd := ob_t c_4 hd
    refine lv_ldc hx hb hown kw0 dX4_copy_14 ?_
    obtain ⟨e1, e2, e3⟩ := ob_pq hd
    subst e1
    subst e2
    subst e3
    exact ob_iret hx hb hr hlocks hP hD hS dX4_copy_16
  · replace hd := ob_f c_4 hd
    refine lv_iload_n hx hb dX4_copy_7 rfl (lv_at hl 3 rfl) ?_
    obtain ⟨r_2, hc_8, hd⟩ := ob_s1 hd
    refine ob_Si (isC := []) (isR := [0, 1, 2, 3, 4]) (is2 := [0, 1, 2, 3, 4]) (wc := ([] : va_W)) (wr := (List.filterMap (fun i => (ob_w4 o_b a_b cI b ++ ob_wr (a_b 0) cW 8 g_g ++ ob_w2 o_w a_w cI w)[i]?) [0, 1, 2, 3, 4])) (w1 := ([] : va_W)) (w2 := (ob_w4 o_b a_b cI b ++ ob_wr (a_b 0) cW 8 g_g ++ ob_w2 o_w a_w cI w)) (As := [.int x3]) (rest := []) ⟨hx, hb, hml, hown, hts⟩ (mt_X4_isRow l dC dI cI cZ cR cW xs _ x3 r_2 hc_8) (va_cwS 1 hts gX4_copy_X4_isRow rfl rfl rfl (by decide +kernel) ⟨Nat.le_of_ble_eq_true rfl, Nat.le_of_ble_eq_true rfl⟩) hK hE hP hD hS hA ⟨rfl, rfl, rfl, rfl, rfl, rfl, rfl⟩ hl rfl rfl (Nat.le_of_ble_eq_true rfl) ⟨Nat.le_of_ble_eq_true rfl, Nat.le_of_ble_eq_true rfl⟩ dX4_copy_8 (fun H locs hP hD hS => ?_)
    refine W.widen (k := 0) (n := 0) (Nat.le_refl _) (Nat.le_refl _) ?_
    refine lv_if_ne (tgt := 17) hx hb dX4_copy_11 (by decide) (fun c_11 => ?_) (fun c_11 => ?_)
    · replace hd := ob_f c_11 hd
      refine lv_aload_n hx hb dX4_copy_17 rfl (lv_at hl 0 rfl) ?_
      refine va_get (D := (dC, dI)) (ci := 4) (v := .ref (a_b 0)) (C := RX4) (T := TX4) (N := 10) hx hb hts hi_X4 hown hK hP 0 rfl rfl 0 (by decide) kw1 (fun _ h9 => h9) rfl dX4_copy_18 ?_
      refine lv_iload_n hx hb dX4_copy_21 rfl (lv_at hl 1 rfl) ?_
      obtain ⟨h1_22, hd⟩ := ob_nn hd
      refine va_aldq hx hb hK hP 2 3 rfl rfl h1_22 dX4_copy_22 ?_
      refine ob_rf (hg h1_22) ?_
      refine lv_astore (lv' := [(6, .ref o_w), (0, .ref o_b), (1, .int x1), (2, .int x2), (3, .int x3), (4, .int x4), (5, .int x5)]) hx hb dX4_copy_23 hl (by decide) rfl (fun ls hl => ?_)
      refine lv_aload_n hx hb dX4_copy_25 rfl (lv_at hl 1 rfl) ?_
      refine va_get (D := (dC, dI)) (ci := 4) (v := .ref (a_b 0)) (C := RX4) (T := TX4) (N := 10) hx hb hts hi_X4 hown hK hP 0 rfl rfl 0 (by decide) kw1 (fun _ h9 => h9) rfl dX4_copy_26 ?_
      refine lv_iload_n hx hb dX4_copy_29 rfl (lv_at hl 4 rfl) ?_
      obtain ⟨h1_30, hd⟩ := ob_nn hd
      refine va_aldq hx hb hK hP 2 3 rfl rfl h1_30 dX4_copy_30 ?_
      refine ob_rf (hv h1_30) ?_
      refine lv_astore (lv' := [(7, .ref o_w), (6, .ref o_w), (0, .ref o_b), (1, .int x1), (2, .int x2), (3, .int x3), (4, .int x4), (5, .int x5)]) hx hb dX4_copy_31 hl (by decide) rfl (fun ls hl => ?_)
      refine lv_aload hx hb dX4_copy_33 (lv_at hl 1 rfl) ?_
      refine va_get (D := (dC, dI)) (ci := 2) (v := .int (w.1 0)) (C := RX2) (T := TX2) (N := 4) hx hb hts hi_X2 hown hK hP 3 rfl rfl 0 (by decide) kw2 (fun _ h9 => h9) rfl dX4_copy_35 ?_
      refine lv_if_ne (tgt := 49) hx hb dX4_copy_38 (by decide) (fun c_38 => ?_) (fun c_38 => ?_)
      · replace hd := ob_f c_38 hd
        refine lv_aload_n hx hb dX4_copy_49 rfl (lv_at hl 2 rfl) ?_
        refine lv_iconst (v := 1) hx hb dX4_copy_50 (by decide) ?_
        obtain ⟨r_3, b_4, hc_51, hd⟩ := ob_s2 hd
        refine ob_Vi (isC := [0, 1]) (isR := [2, 3, 4]) (is2 := [3, 4, 0, 1, 2]) (wc := (ob_w4 o_b a_b cI b)) (wr := (List.filterMap (fun i => (ob_w4 o_b a_b cI b ++ ob_wr (a_b 0) cW 8 g_g ++ ob_w2 o_w a_w cI w)[i]?) [2, 3, 4])) (w1 := (ob_w4 o_b a_b cI b_4)) (w2 := (ob_w4 o_b a_b cI b_4 ++ ob_wr (a_b 0) cW 8 g_g ++ ob_w2 o_w a_w cI w)) (b := o_b) (As := [.int 1]) (rest := []) ⟨hx, hb, hml, hown, hts⟩ (mt_X4_found l dC dI cI cZ cR cW xs _ o_b a_b b 1 r_3 b_4 hc_51) (cwV 1 hts gX4_copy_X4_found rfl rfl rfl (by decide +kernel) ⟨Nat.le_of_ble_eq_true rfl, Nat.le_of_ble_eq_true rfl⟩) hK hE hP hD hS hA ⟨rfl, rfl, rfl, rfl, rfl, rfl, rfl⟩ 4 0 rfl rfl rfl hl rfl rfl (Nat.le_of_ble_eq_true rfl) ⟨Nat.le_of_ble_eq_true rfl, Nat.le_of_ble_eq_true rfl⟩ dX4_copy_51 (fun H locs hP hD hS => ?_)
        refine W.widen (k := 0) (n := 0) (Nat.le_refl _) (Nat.le_refl _) ?_
        obtain ⟨e1, e2, e3⟩ := ob_pq hd
        subst e1
        subst e2
        subst e3
        exact ob_iret hx hb hr hlocks hP hD hS dX4_copy_54
      · replace hd := ob_t c_38 hd
        refine lv_aload hx hb dX4_copy_41 (lv_at hl 0 rfl) ?_
        refine va_get (D := (dC, dI)) (ci := 2) (v := .int (w.1 0)) (C := RX2) (T := TX2) (N := 4) hx hb hts hi_X2 hown hK hP 3 rfl rfl 0 (by decide) kw2 (fun _ h9 => h9) rfl dX4_copy_43 ?_
        refine lv_if_eq (tgt := 55) hx hb dX4_copy_46 (by decide) (fun c_46 => ?_) (fun c_46 => ?_)
        · replace hd := ob_t c_46 hd
          refine lv_aload hx hb dX4_copy_55 (lv_at hl 1 rfl) ?_
          refine va_get (D := (dC, dI)) (ci := 2) (v := .int (w.1 1)) (C := RX2) (T := TX2) (N := 4) hx hb hts hi_X2 hown hK hP 3 rfl rfl 1 (by decide) kw3 (fun _ h9 => h9) rfl dX4_copy_57 ?_
          refine lv_aload hx hb dX4_copy_60 (lv_at hl 0 rfl) ?_
          refine va_get (D := (dC, dI)) (ci := 2) (v := .int (w.1 1)) (C := RX2) (T := TX2) (N := 4) hx hb hts hi_X2 hown hK hP 3 rfl rfl 1 (by decide) kw3 (fun _ h9 => h9) rfl dX4_copy_62 ?_
          refine lv_icmp_eq (tgt := 74) hx hb dX4_copy_65 (by decide) (fun c_65 => ?_) (fun c_65 => ?_)
          · replace hd := ob_t c_65 hd
            refine lv_aload hx hb dX4_copy_74 (lv_at hl 1 rfl) ?_
            refine lv_iload_n hx hb dX4_copy_76 rfl (lv_at hl 4 rfl) ?_
            refine lv_iload hx hb dX4_copy_77 (lv_at hl 7 rfl) ?_
            obtain ⟨r_5, hc_79, hd⟩ := ob_s1 hd
            refine ob_Vi (isC := [3, 4]) (isR := [0, 1, 2]) (is2 := [0, 1, 2, 3, 4]) (wc := (ob_w2 o_w a_w cI w)) (wr := (List.filterMap (fun i => (ob_w4 o_b a_b cI b ++ ob_wr (a_b 0) cW 8 g_g ++ ob_w2 o_w a_w cI w)[i]?) [0, 1, 2])) (w1 := (ob_w2 o_w a_w cI w)) (w2 := (ob_w4 o_b a_b cI b ++ ob_wr (a_b 0) cW 8 g_g ++ ob_w2 o_w a_w cI w)) (b := o_w) (As := [.int x2, .int x5]) (rest := []) ⟨hx, hb, hml, hown, hts⟩ (mt_X2_has l dC dI cI cZ cR cW xs _ o_w a_w w x2 x5 r_5 hc_79) (cwV 2 hts gX4_copy_X2_has rfl rfl rfl (by decide +kernel) ⟨Nat.le_of_ble_eq_true rfl, Nat.le_of_ble_eq_true rfl⟩) hK hE hP hD hS hA ⟨rfl, rfl, rfl, rfl, rfl, rfl, rfl⟩ 2 0 rfl rfl rfl hl rfl rfl (Nat.le_of_ble_eq_true rfl) ⟨Nat.le_of_ble_eq_true rfl, Nat.le_of_ble_eq_true rfl⟩ dX4_copy_79 (fun H locs hP hD hS => ?_)
            refine W.widen (k := 0) (n := 0) (Nat.le_refl _) (Nat.le_refl _) ?_
            refine lv_if_eq (tgt := 97) hx hb dX4_copy_82 (by decide) (fun c_82 => ?_) (fun c_82 => ?_)
            · replace hd := ob_t c_82 hd
              refine lv_aload_n hx hb dX4_copy_97 rfl (lv_at hl 2 rfl) ?_
              refine lv_iconst (v := 2) hx hb dX4_copy_98 (by decide) ?_
              obtain ⟨r_6, b_7, hc_99, hd⟩ := ob_s2 hd
              refine ob_Vi (isC := [0, 1]) (isR := [2, 3, 4]) (is2 := [3, 4, 0, 1, 2]) (wc := (ob_w4 o_b a_b cI b)) (wr := (List.filterMap (fun i => (ob_w4 o_b a_b cI b ++ ob_wr (a_b 0) cW 8 g_g ++ ob_w2 o_w a_w cI w)[i]?) [2, 3, 4])) (w1 := (ob_w4 o_b a_b cI b_7)) (w2 := (ob_w4 o_b a_b cI b_7 ++ ob_wr (a_b 0) cW 8 g_g ++ ob_w2 o_w a_w cI w)) (b := o_b) (As := [.int 2]) (rest := []) ⟨hx, hb, hml, hown, hts⟩ (mt_X4_found l dC dI cI cZ cR cW xs _ o_b a_b b 2 r_6 b_7 hc_99) (cwV 1 hts gX4_copy_X4_found rfl rfl rfl (by decide +kernel) ⟨Nat.le_of_ble_eq_true rfl, Nat.le_of_ble_eq_true rfl⟩) hK hE hP hD hS hA ⟨rfl, rfl, rfl, rfl, rfl, rfl, rfl⟩ 4 0 rfl rfl rfl hl rfl rfl (Nat.le_of_ble_eq_true rfl) ⟨Nat.le_of_ble_eq_true rfl, Nat.le_of_ble_eq_true rfl⟩ dX4_copy_99 (fun H locs hP hD hS => ?_)
              refine W.widen (k := 0) (n := 0) (Nat.le_refl _) (Nat.le_refl _) ?_
              obtain ⟨e1, e2, e3⟩ := ob_pq hd
              subst e1
              subst e2
              subst e3
              exact ob_iret hx hb hr hlocks hP hD hS dX4_copy_102
            · replace hd := ob_f c_82 hd
              refine lv_aload hx hb dX4_copy_85 (lv_at hl 0 rfl) ?_
              refine lv_iload hx hb dX4_copy_87 (lv_at hl 6 rfl) ?_
              refine lv_iload hx hb dX4_copy_89 (lv_at hl 7 rfl) ?_
              obtain ⟨r_8, hc_91, hd⟩ := ob_s1 hd
              refine ob_Vi (isC := [3, 4]) (isR := [0, 1, 2]) (is2 := [0, 1, 2, 3, 4]) (wc := (ob_w2 o_w a_w cI w)) (wr := (List.filterMap (fun i => (ob_w4 o_b a_b cI b ++ ob_wr (a_b 0) cW 8 g_g ++ ob_w2 o_w a_w cI w)[i]?) [0, 1, 2])) (w1 := (ob_w2 o_w a_w cI w)) (w2 := (ob_w4 o_b a_b cI b ++ ob_wr (a_b 0) cW 8 g_g ++ ob_w2 o_w a_w cI w)) (b := o_w) (As := [.int x4, .int x5]) (rest := []) ⟨hx, hb, hml, hown, hts⟩ (mt_X2_has l dC dI cI cZ cR cW xs _ o_w a_w w x4 x5 r_8 hc_91) (cwV 2 hts gX4_copy_X2_has rfl rfl rfl (by decide +kernel) ⟨Nat.le_of_ble_eq_true rfl, Nat.le_of_ble_eq_true rfl⟩) hK hE hP hD hS hA ⟨rfl, rfl, rfl, rfl, rfl, rfl, rfl⟩ 2 0 rfl rfl rfl hl rfl rfl (Nat.le_of_ble_eq_true rfl) ⟨Nat.le_of_ble_eq_true rfl, Nat.le_of_ble_eq_true rfl⟩ dX4_copy_91 (fun H locs hP hD hS => ?_)
              refine W.widen (k := 0) (n := 0) (Nat.le_refl _) (Nat.le_refl _) ?_
              refine lv_if_ne (tgt := 103) hx hb dX4_copy_94 (by decide) (fun c_94 => ?_) (fun c_94 => ?_)
              · replace hd := ob_f c_94 hd
                refine lv_aload hx hb dX4_copy_103 (lv_at hl 1 rfl) ?_
                refine va_get (D := (dC, dI)) (ci := 2) (v := .ref (a_w 3)) (C := RX2) (T := TX2) (N := 4) hx hb hts hi_X2 hown hK hP 3 rfl rfl 3 (by decide) kw4 (fun _ h9 => h9) rfl dX4_copy_105 ?_
                refine lv_iload_n hx hb dX4_copy_108 rfl (lv_at hl 4 rfl) ?_
                refine lv_aload hx hb dX4_copy_109 (lv_at hl 0 rfl) ?_
                refine va_get (D := (dC, dI)) (ci := 2) (v := .ref (a_w 3)) (C := RX2) (T := TX2) (N := 4) hx hb hts hi_X2 hown hK hP 3 rfl rfl 3 (by decide) kw4 (fun _ h9 => h9) rfl dX4_copy_111 ?_
                refine lv_iload hx hb dX4_copy_114 (lv_at hl 6 rfl) ?_
                refine lv_iload hx hb dX4_copy_116 (lv_at hl 7 rfl) ?_
                obtain ⟨q0_118, hd⟩ := ob_nn hd
                obtain ⟨q1_118, hd⟩ := ob_nn hd
                obtain ⟨q2_118, hd⟩ := ob_nn hd
                obtain ⟨q3_118, hd⟩ := ob_nn hd
                obtain ⟨q4_118, hd⟩ := ob_nn hd
                refine va_copyi hx hb (by rw [hml]; exact hl.1.symm) hown kw5 kw6 kw7 kw8 hK hP hD hS 4 4 0 0 rfl rfl rfl rfl rfl q0_118 q1_118 q2_118 (Decidable.of_not_not q3_118) (Decidable.of_not_not q4_118) (fun _ _ => rfl) (Nat.le_of_ble_eq_true rfl) (Nat.le_of_ble_eq_true rfl) dX4_copy_118 (fun H locs hP hD hS => ?_)
                obtain ⟨w_9, ew_9⟩ : ∃ z : ob_B, z = ob_A w 3 (va_cpy (w.2 3) (w.2 3) (Int32.toNatClampNeg x2) (Int32.toNatClampNeg x4) (Int32.toNatClampNeg x5)) := ⟨_, rfl⟩
                replace hd := ob_lx ew_9 hd
                replace hP : va_P (dC, dI) vwCl (ob_w4 o_b a_b cI b ++ ob_wr (a_b 0) cW 8 g_g ++ ob_w2 o_w a_w cI w_9) H := by rw [ew_9]; exact hP
                replace hD : va_D A (ob_w4 o_b a_b cI b ++ ob_wr (a_b 0) cW 8 g_g ++ ob_w2 o_w a_w cI w_9) := by rw [ew_9]; exact hD
                clear ew_9
                refine lv_aload_n hx hb dX4_copy_121 rfl (lv_at hl 2 rfl) ?_
                refine lv_iload hx hb dX4_copy_122 (lv_at hl 7 rfl) ?_
                obtain ⟨r_10, b_11, hc_124, hd⟩ := ob_s2 hd
                refine ob_Vi (isC := [0, 1]) (isR := [2, 3, 4]) (is2 := [3, 4, 0, 1, 2]) (wc := (ob_w4 o_b a_b cI b)) (wr := (List.filterMap (fun i => (ob_w4 o_b a_b cI b ++ ob_wr (a_b 0) cW 8 g_g ++ ob_w2 o_w a_w cI w_9)[i]?) [2, 3, 4])) (w1 := (ob_w4 o_b a_b cI b_11)) (w2 := (ob_w4 o_b a_b cI b_11 ++ ob_wr (a_b 0) cW 8 g_g ++ ob_w2 o_w a_w cI w_9)) (b := o_b) (As := [.int x5]) (rest := []) ⟨hx, hb, hml, hown, hts⟩ (mt_X4_unfound l dC dI cI cZ cR cW xs _ o_b a_b b x5 r_10 b_11 hc_124) (cwV 1 hts gX4_copy_X4_unfound rfl rfl rfl (by decide +kernel) ⟨Nat.le_of_ble_eq_true rfl, Nat.le_of_ble_eq_true rfl⟩) hK hE hP hD hS hA ⟨rfl, rfl, rfl, rfl, rfl, rfl, rfl⟩ 4 0 rfl rfl rfl hl rfl rfl (Nat.le_of_ble_eq_true rfl) ⟨Nat.le_of_ble_eq_true rfl, Nat.le_of_ble_eq_true rfl⟩ dX4_copy_124 (fun H locs hP hD hS => ?_)
                refine W.widen (k := 0) (n := 0) (Nat.le_refl _) (Nat.le_refl _) ?_
                obtain ⟨e1, e2, e3⟩ := ob_pq hd
                subst e1
                subst e2
                subst e3
                exact ob_iret hx hb hr hlocks hP hD hS dX4_copy_127
              · replace hd := ob_t c_94 hd
                refine lv_aload_n hx hb dX4_copy_97 rfl (lv_at hl 2 rfl) ?_
                refine lv_iconst (v := 2) hx hb dX4_copy_98 (by decide) ?_
                obtain ⟨r_12, b_13, hc_99, hd⟩ := ob_s2 hd
                refine ob_Vi (isC := [0, 1]) (isR := [2, 3, 4]) (is2 := [3, 4, 0, 1, 2]) (wc := (ob_w4 o_b a_b cI b)) (wr := (List.filterMap (fun i => (ob_w4 o_b a_b cI b ++ ob_wr (a_b 0) cW 8 g_g ++ ob_w2 o_w a_w cI w)[i]?) [2, 3, 4])) (w1 := (ob_w4 o_b a_b cI b_13)) (w2 := (ob_w4 o_b a_b cI b_13 ++ ob_wr (a_b 0) cW 8 g_g ++ ob_w2 o_w a_w cI w)) (b := o_b) (As := [.int 2]) (rest := []) ⟨hx, hb, hml, hown, hts⟩ (mt_X4_found l dC dI cI cZ cR cW xs _ o_b a_b b 2 r_12 b_13 hc_99) (cwV 1 hts gX4_copy_X4_found rfl rfl rfl (by decide +kernel) ⟨Nat.le_of_ble_eq_true rfl, Nat.le_of_ble_eq_true rfl⟩) hK hE hP hD hS hA ⟨rfl, rfl, rfl, rfl, rfl, rfl, rfl⟩ 4 0 rfl rfl rfl hl rfl rfl (Nat.le_of_ble_eq_true rfl) ⟨Nat.le_of_ble_eq_true rfl, Nat.le_of_ble_eq_true rfl⟩ dX4_copy_99 (fun H locs hP hD hS => ?_)
                refine W.widen (k := 0) (n := 0) (Nat.le_refl _) (Nat.le_refl _) ?_
                obtain ⟨e1, e2, e3⟩ := ob_pq hd
                subst e1
                subst e2
                subst e3
                exact ob_iret hx hb hr hlocks hP hD hS dX4_copy_102
          · replace hd := ob_f c_65 hd
            refine lv_aload_n hx hb dX4_copy_68 rfl (lv_at hl 2 rfl) ?_
            refine lv_iconst (v := 5) hx hb dX4_copy_69 (by decide) ?_
            obtain ⟨r_14, b_15, hc_70, hd⟩ := ob_s2 hd
            refine ob_Vi (isC := [0, 1]) (isR := [2, 3, 4]) (is2 := [3, 4, 0, 1, 2]) (wc := (ob_w4 o_b a_b cI b)) (wr := (List.filterMap (fun i => (ob_w4 o_b a_b cI b ++ ob_wr (a_b 0) cW 8 g_g ++ ob_w2 o_w a_w cI w)[i]?) [2, 3, 4])) (w1 := (ob_w4 o_b a_b cI b_15)) (w2 := (ob_w4 o_b a_b cI b_15 ++ ob_wr (a_b 0) cW 8 g_g ++ ob_w2 o_w a_w cI w)) (b := o_b) (As := [.int 5]) (rest := []) ⟨hx, hb, hml, hown, hts⟩ (mt_X4_found l dC dI cI cZ cR cW xs _ o_b a_b b 5 r_14 b_15 hc_70) (cwV 1 hts gX4_copy_X4_found rfl rfl rfl (by decide +kernel) ⟨Nat.le_of_ble_eq_true rfl, Nat.le_of_ble_eq_true rfl⟩) hK hE hP hD hS hA ⟨rfl, rfl, rfl, rfl, rfl, rfl, rfl⟩ 4 0 rfl rfl rfl hl rfl rfl (Nat.le_of_ble_eq_true rfl) ⟨Nat.le_of_ble_eq_true rfl, Nat.le_of_ble_eq_true rfl⟩ dX4_copy_70 (fun H locs hP hD hS => ?_)
            refine W.widen (k := 0) (n := 0) (Nat.le_refl _) (Nat.le_refl _) ?_
            obtain ⟨e1, e2, e3⟩ := ob_pq hd
            subst e1
            subst e2
            subst e3
            exact ob_iret hx hb hr hlocks hP hD hS dX4_copy_73
        · replace hd := ob_f c_46 hd
          refine lv_aload_n hx hb dX4_copy_49 rfl (lv_at hl 2 rfl) ?_
          refine lv_iconst (v := 1) hx hb dX4_copy_50 (by decide) ?_
          obtain ⟨r_16, b_17, hc_51, hd⟩ := ob_s2 hd
          refine ob_Vi (isC := [0, 1]) (isR := [2, 3, 4]) (is2 := [3, 4, 0, 1, 2]) (wc := (ob_w4 o_b a_b cI b)) (wr := (List.filterMap (fun i => (ob_w4 o_b a_b cI b ++ ob_wr (a_b 0) cW 8 g_g ++ ob_w2 o_w a_w cI w)[i]?) [2, 3, 4])) (w1 := (ob_w4 o_b a_b cI b_17)) (w2 := (ob_w4 o_b a_b cI b_17 ++ ob_wr (a_b 0) cW 8 g_g ++ ob_w2 o_w a_w cI w)) (b := o_b) (As := [.int 1]) (rest := []) ⟨hx, hb, hml, hown, hts⟩ (mt_X4_found l dC dI cI cZ cR cW xs _ o_b a_b b 1 r_16 b_17 hc_51) (cwV 1 hts gX4_copy_X4_found rfl rfl rfl (by decide +kernel) ⟨Nat.le_of_ble_eq_true rfl, Nat.le_of_ble_eq_true rfl⟩) hK hE hP hD hS hA ⟨rfl, rfl, rfl, rfl, rfl, rfl, rfl⟩ 4 0 rfl rfl rfl hl rfl rfl (Nat.le_of_ble_eq_true rfl) ⟨Nat.le_of_ble_eq_true rfl, Nat.le_of_ble_eq_true rfl⟩ dX4_copy_51 (fun H locs hP hD hS => ?_)
          refine W.widen (k := 0) (n := 0) (Nat.le_refl _) (Nat.le_refl _) ?_
          obtain ⟨e1, e2, e3⟩ := ob_pq hd
          subst e1
          subst e2
          subst e3
          exact ob_iret hx hb hr hlocks hP hD hS dX4_copy_54
    · replace hd := ob_t c_11 hd
      refine lv_ldc hx hb hown kw0 dX4_copy_14 ?_
      obtain ⟨e1, e2, e3⟩ := ob_pq hd
      subst e1
      subst e2
      subst e3
      exact ob_iret hx hb hr hlocks hP hD hS dX4_copy_16
