def fd_X4_broke_L176  (b : ob_B) (w : ob_B) (y : ob_B) (t : ob_B) (z5 : Int32) : Option (Int32 × ob_B × ob_B) := ob_b2 (fd_X4_unfound b z5) (fun r_19 b_20 => some (r_19, b_20, t))
def fd_X4_broke_L92  : Nat → ob_B → ob_B → ob_B → ob_B → Int32 → Int32 → Int32 → Int32 → Int32 → Option (Int32 × ob_B × ob_B)
  | 0, _, _, _, _, _, _, _, _, _ => none
  | fu + 1, b, w, y, t, x1, x2, x3, z5, z6 => if (y.1 4) ≤ z6 then (fd_X4_broke_L176 b w y t z5) else (if z6 < 0 ∨ 7 ≤ Int32.toNatClampNeg z6 then none else (if ((y.2 11) (Int32.toNatClampNeg z6)) = 0 then (ob_b1 (fd_X1_become t y) (fun t_11 => if z6 < 0 ∨ 7 ≤ Int32.toNatClampNeg z6 then none else (ob_lt (ob_A t_11 11 (upd (t_11.2 11) (Int32.toNatClampNeg z6) 3) : ob_B) (fun t_12 => if x1 < 0 ∨ 8 ≤ Int32.toNatClampNeg x1 then none else (ob_b2 (fd_X1_goesAlong t_12 w x2 x3) (fun r_13 t_14 => if r_13 = 0 then (ob_lt (z5 ||| 0 : Int32) (fun x_15 => ob_lt (z6 + 1 : Int32) (fun x_16 => fd_X4_broke_L92 fu b w y t_14 x1 x2 x3 x_15 x_16))) else (ob_lt (z5 ||| (1 <<< (z6 &&& 31)) : Int32) (fun x_17 => ob_lt (z6 + 1 : Int32) (fun x_18 => fd_X4_broke_L92 fu b w y t_14 x1 x2 x3 x_17 x_18))))))))) else (ob_lt (z6 + 1 : Int32) (fun x_10 => fd_X4_broke_L92 fu b w y t x1 x2 x3 z5 x_10))))
def fd_X4_broke  (b : ob_B) (w : ob_B) (y : ob_B) (t : ob_B) (x1 : Int32) (x2 : Int32) (x3 : Int32) : Option (Int32 × ob_B × ob_B) := ob_b1 (fd_X4_noRoute b y) (fun r_1 => if r_1 = 0 then (ob_b1 (fd_X4_isRow x1) (fun r_2 => if r_2 = 0 then (some ((-1000001), b, t)) else (ob_b1 (fd_X4_isWithin x3 1 12) (fun r_3 => if r_3 = 0 then (some ((-1000001), b, t)) else (ob_b1 (fd_X4_findingOf b w x1 x2 x3) (fun r_4 => if r_4 = 0 then (ob_b1 (fd_X1_become t y) (fun t_5 => if x1 < 0 ∨ 8 ≤ Int32.toNatClampNeg x1 then none else (ob_b2 (fd_X1_goesAlong t_5 w x2 x3) (fun r_6 t_7 => if r_6 = 0 then (fd_X4_broke_L92 2000 b w y t_7 x1 x2 x3 0 0) else (fd_X4_broke_L92 2000 b w y t_7 x1 x2 x3 128 0))))) else (ob_b2 (fd_X4_found b r_4) (fun r_8 b_9 => some (r_8, b_9, t))))))))) else (some ((-1000002), b, t)))
set_option maxHeartbeats 4000000 in
set_option maxRecDepth 100000 in
theorem mt_X4_broke (l : Launch) (dC : Nat → ClassId) (dI : Nat → Nat → Nat) (cI cZ cR cW : ClassId) (xs : Nat → Nat) (sz : Nat) (o_b : Nat) (a_b : Nat → Nat) (g_g : Nat → Option Nat) (o_w : Nat) (a_w : Nat → Nat) (a_y : Nat → Nat) (a_t : Nat → Nat) (b : ob_B) (w : ob_B) (y : ob_B) (t : ob_B) (x1 : Int32) (x2 : Int32) (x3 : Int32) (hg : ¬ (x1 < 0 ∨ 8 ≤ Int32.toNatClampNeg x1) → g_g (Int32.toNatClampNeg x1) = some o_w) (rr : Int32) (b' : ob_B) (t' : ob_B) (hd : fd_X4_broke b w y t x1 x2 x3 = some (rr, b', t')) : ob_M l yX4_broke wsX4_broke ({ frames := 5, cells := 0, slots := 0, locals := 114 } : Room) (dC, dI) (ob_ty cI cZ cR cW) xs [.ref o_b, .int x1, .int x2, .int x3] (ob_w4 o_b a_b cI b ++ ob_wr (a_b 0) cW 8 g_g ++ ob_w2 o_w a_w cI w ++ ob_w1 (a_b 2) a_y cI y ++ ob_w1 (a_b 3) a_t cI t) sz (ob_Qi (dC, dI) rr (ob_w4 o_b a_b cI b' ++ ob_wr (a_b 0) cW 8 g_g ++ ob_w2 o_w a_w cI w ++ ob_w1 (a_b 2) a_y cI y ++ ob_w1 (a_b 3) a_t cI t')) := by
  rw [fd_X4_broke] at hd
  refine ob_in (cc := cX4_broke) (maxL := 7) (ret := (some .int)) (own := RX4) (by decide) rfl rfl [(0, .ref o_b), (1, .int x1), (2, .int x2), (3, .int x3)] rfl (Nat.le_of_ble_eq_true rfl) ?_
  intro p e s m below meth c hx hb hr hml hown hts hlocks hnm hK A hA hE hP hD hS ls hl
  have kw0 := hts (.constant RX4 62 (-1000001)) (by decide +kernel)
  have kw1 := hts (.fieldLink RX4 29 "OathCoach" "trial" "LOathCoach$Route;") (by decide +kernel)
  have kw2 := hts (.fieldLink RX4 25 "OathCoach" "route" "LOathCoach$Route;") (by decide +kernel)
  have kw3 := hts (.fieldLink RX4 11 "OathCoach" "rows" "[LOathCoach$Row;") (by decide +kernel)
  have kw4 := hts (.constant RX4 137 (-1000002)) (by decide +kernel)
  have kw5 := hts (.fieldLink RX4 130 "OathCoach$Route" "oaths" "I") (by decide +kernel)
  have kw6 := hts (.fieldLink RX4 166 "OathCoach$Route" "came" "[I") (by decide +kernel)
  have hi_X1 : ∀ w ∈ u_ws RX1 TX1 12, w ∈ wsX4_broke := by decide +kernel
  have hi_X4 : ∀ w ∈ u_ws RX4 TX4 10, w ∈ wsX4_broke := by decide +kernel
  have L176 : ∀ (H : Heap) (locs : List Loc) (b : ob_B) (t : ob_B) (z5 : Int32) (ls : Array Slot), va_P (dC, dI) vwCl (ob_w4 o_b a_b cI b ++ ob_wr (a_b 0) cW 8 g_g ++ ob_w2 o_w a_w cI w ++ ob_w1 (a_b 2) a_y cI y ++ ob_w1 (a_b 3) a_t cI t) H → va_D A (ob_w4 o_b a_b cI b ++ ob_wr (a_b 0) cW 8 g_g ++ ob_w2 o_w a_w cI w ++ ob_w1 (a_b 2) a_y cI y ++ ob_w1 (a_b 3) a_t cI t) → va_S A s.heap H locs → lv_has ls 7 [(0, .ref o_b), (5, .int z5)] → fd_X4_broke_L176 b w y t z5 = some (rr, b', t') → W p l e ({ frames := 5, cells := 0, slots := 0, locals := 114 } : Room) s m (List.toArray [.ref o_b, .int x1, .int x2, .int x3]) below meth c H locs 0 0 (MQ below ((ob_Qi (dC, dI) rr (ob_w4 o_b a_b cI b' ++ ob_wr (a_b 0) cW 8 g_g ++ ob_w2 o_w a_w cI w ++ ob_w1 (a_b 2) a_y cI y ++ ob_w1 (a_b 3) a_t cI t')) A) (List.toArray [.ref o_b, .int x1, .int x2, .int x3]) s 0 0 A) (F0 m 176 ls []) := by
    intro  H locs b t z5 ls hP hD hS hl hd
    rw [fd_X4_broke_L176] at hd
    refine lv_aload_n hx hb dX4_broke_176 rfl (lv_at hl 0 rfl) ?_
    refine lv_iload hx hb dX4_broke_177 (lv_at hl 1 rfl) ?_
    obtain ⟨r_19, b_20, hc_179, hd⟩ := ob_s2 hd
    refine ob_Vi (isC := [0, 1]) (isR := [2, 3, 4, 5, 6, 7, 8, 9, 10, 11, 12, 13, 14, 15, 16]) (is2 := [15, 16, 0, 1, 2, 3, 4, 5, 6, 7, 8, 9, 10, 11, 12, 13, 14]) (wc := (ob_w4 o_b a_b cI b)) (wr := (List.filterMap (fun i => (ob_w4 o_b a_b cI b ++ ob_wr (a_b 0) cW 8 g_g ++ ob_w2 o_w a_w cI w ++ ob_w1 (a_b 2) a_y cI y ++ ob_w1 (a_b 3) a_t cI t)[i]?) [2, 3, 4, 5, 6, 7, 8, 9, 10, 11, 12, 13, 14, 15, 16])) (w1 := (ob_w4 o_b a_b cI b_20)) (w2 := (ob_w4 o_b a_b cI b_20 ++ ob_wr (a_b 0) cW 8 g_g ++ ob_w2 o_w a_w cI w ++ ob_w1 (a_b 2) a_y cI y ++ ob_w1 (a_b 3) a_t cI t)) (b := o_b) (As := [.int z5]) (rest := []) ⟨hx, hb, hml, hown, hts⟩ (mt_X4_unfound l dC dI cI cZ cR cW xs _ o_b a_b b z5 r_19 b_20 hc_179) (cwV 1 hts gX4_broke_X4_unfound rfl rfl rfl (by decide +kernel) ⟨Nat.le_of_ble_eq_true rfl, Nat.le_of_ble_eq_true rfl⟩) hK hE hP hD hS hA ⟨rfl, rfl, rfl, rfl, rfl, rfl, rfl⟩ 4 0 rfl rfl rfl hl rfl rfl (Nat.le_of_ble_eq_true rfl) ⟨Nat.le_of_ble_eq_true rfl, Nat.le_of_ble_eq_true rfl⟩ dX4_broke_179 (fun H locs hP hD hS => ?_)
    refine W.widen (k := 0) (n := 0) (Nat.le_refl _) (Nat.le_refl _) ?_
    obtain ⟨e1, e2, e3⟩ := ob_pq hd
    subst e1
    subst e2
    subst e3
    exact ob_iret hx hb hr hlocks hP hD hS dX4_broke_182
  have L92 : ∀  (fu : Nat), ∀ (H : Heap) (locs : List Loc) (b : ob_B) (t : ob_B) (z5 : Int32) (z6 : Int32) (ls : Array Slot), va_P (dC, dI) vwCl (ob_w4 o_b a_b cI b ++ ob_wr (a_b 0) cW 8 g_g ++ ob_w2 o_w a_w cI w ++ ob_w1 (a_b 2) a_y cI y ++ ob_w1 (a_b 3) a_t cI t) H → va_D A (ob_w4 o_b a_b cI b ++ ob_wr (a_b 0) cW 8 g_g ++ ob_w2 o_w a_w cI w ++ ob_w1 (a_b 2) a_y cI y ++ ob_w1 (a_b 3) a_t cI t) → va_S A s.heap H locs → lv_has ls 7 [(0, .ref o_b), (1, .int x1), (2, .int x2), (3, .int x3), (5, .int z5), (6, .int z6)] → fd_X4_broke_L92 fu b w y t x1 x2 x3 z5 z6 = some (rr, b', t') → W p l e ({ frames := 5, cells := 0, slots := 0, locals := 114 } : Room) s m (List.toArray [.ref o_b, .int x1, .int x2, .int x3]) below meth c H locs 0 0 (MQ below ((ob_Qi (dC, dI) rr (ob_w4 o_b a_b cI b' ++ ob_wr (a_b 0) cW 8 g_g ++ ob_w2 o_w a_w cI w ++ ob_w1 (a_b 2) a_y cI y ++ ob_w1 (a_b 3) a_t cI t')) A) (List.toArray [.ref o_b, .int x1, .int x2, .int x3]) s 0 0 A) (F0 m 92 ls []) := by
    intro  fu
    induction fu with
    | zero =>
      intro H locs b t z5 z6 ls hP hD hS hl hd
      rw [fd_X4_broke_L92] at hd
      cases hd
    | succ fu ih =>
      intro H locs b t z5 z6 ls hP hD hS hl hd
      rw [fd_X4_broke_L92] at hd
      refine lv_iload hx hb dX4_broke_92 (lv_at hl 5 rfl) ?_
      refine lv_aload_n hx hb dX4_broke_94 rfl (lv_at hl 0 rfl) ?_
      refine va_get (D := (dC, dI)) (ci := 4) (v := .ref (a_b 2)) (C := RX4) (T := TX4) (N := 10) hx hb hts hi_X4 hown hK hP 0 rfl rfl 2 (by decide) kw2 (fun _ h9 => h9) rfl dX4_broke_95 ?_
      refine va_get (D := (dC, dI)) (ci := 1) (v := .int (y.1 4)) (C := RX1) (T := TX1) (N := 12) hx hb hts hi_X1 hown hK hP 5 rfl rfl 4 (by decide) kw5 (fun _ h9 => h9) rfl dX4_broke_98 ?_
      refine lv_icmp_ge (tgt := 176) hx hb dX4_broke_101 (by decide) (fun c_101 => ?_) (fun c_101 => ?_)
      · replace hd := ob_t c_101 hd
        exact L176   _ _ b t z5 _ hP hD hS (lv_sub hl [0, 4] rfl) hd
      · replace hd := ob_f c_101 hd
        refine lv_aload_n hx hb dX4_broke_104 rfl (lv_at hl 0 rfl) ?_
        refine va_get (D := (dC, dI)) (ci := 4) (v := .ref (a_b 2)) (C := RX4) (T := TX4) (N := 10) hx hb hts hi_X4 hown hK hP 0 rfl rfl 2 (by decide) kw2 (fun _ h9 => h9) rfl dX4_broke_105 ?_
        refine va_get (D := (dC, dI)) (ci := 1) (v := .ref (a_y 11)) (C := RX1) (T := TX1) (N := 12) hx hb hts hi_X1 hown hK hP 5 rfl rfl 11 (by decide) kw6 (fun _ h9 => h9) rfl dX4_broke_108 ?_
        refine lv_iload hx hb dX4_broke_111 (lv_at hl 5 rfl) ?_
        obtain ⟨h1_113, hd⟩ := ob_nn hd
        refine va_iald hx hb hK hP 10 0 rfl rfl h1_113 dX4_broke_113 ?_
        refine lv_if_ne (tgt := 170) hx hb dX4_broke_114 (by decide) (fun c_114 => ?_) (fun c_114 => ?_)
        · replace hd := ob_f c_114 hd
          obtain ⟨x_10, ex_10⟩ : ∃ z : Int32, z = z6 + 1 := ⟨_, rfl⟩
          replace hd := ob_lx ex_10 hd
          refine lv_iinc (v := x_10) (lv' := [(6, .int x_10), (0, .ref o_b), (1, .int x1), (2, .int x2), (3, .int x3), (5, .int z5)]) hx hb dX4_broke_170 hl (k := 5) rfl (by rw [ex_10]; rfl) (by decide) rfl (fun ls hl => ?_)
          clear ex_10
          refine lv_goto (tgt := 92) hx hb dX4_broke_173 (by decide) ?_
          exact ih _ _ b t z5 x_10 _ hP hD hS (lv_sub hl [1, 2, 3, 4, 5, 0] rfl) hd
        · replace hd := ob_t c_114 hd
          refine lv_aload_n hx hb dX4_broke_117 rfl (lv_at hl 0 rfl) ?_
          refine va_get (D := (dC, dI)) (ci := 4) (v := .ref (a_b 3)) (C := RX4) (T := TX4) (N := 10) hx hb hts hi_X4 hown hK hP 0 rfl rfl 3 (by decide) kw1 (fun _ h9 => h9) rfl dX4_broke_118 ?_
          refine lv_aload_n hx hb dX4_broke_121 rfl (lv_at hl 0 rfl) ?_
          refine va_get (D := (dC, dI)) (ci := 4) (v := .ref (a_b 2)) (C := RX4) (T := TX4) (N := 10) hx hb hts hi_X4 hown hK hP 0 rfl rfl 2 (by decide) kw2 (fun _ h9 => h9) rfl dX4_broke_122 ?_
          obtain ⟨t_11, hc_125, hd⟩ := ob_s1 hd
          refine ob_Vv (isC := [11, 12, 13, 14, 15, 16, 5, 6, 7, 8, 9, 10]) (isR := [0, 1, 2, 3, 4]) (is2 := [0, 1, 2, 3, 4, 11, 12, 13, 14, 15, 16, 5, 6, 7, 8, 9, 10]) (wc := (ob_w1 (a_b 3) a_t cI t ++ ob_w1 (a_b 2) a_y cI y)) (wr := (List.filterMap (fun i => (ob_w4 o_b a_b cI b ++ ob_wr (a_b 0) cW 8 g_g ++ ob_w2 o_w a_w cI w ++ ob_w1 (a_b 2) a_y cI y ++ ob_w1 (a_b 3) a_t cI t)[i]?) [0, 1, 2, 3, 4])) (w1 := (ob_w1 (a_b 3) a_t cI t_11 ++ ob_w1 (a_b 2) a_y cI y)) (w2 := (ob_w4 o_b a_b cI b ++ ob_wr (a_b 0) cW 8 g_g ++ ob_w2 o_w a_w cI w ++ ob_w1 (a_b 2) a_y cI y ++ ob_w1 (a_b 3) a_t cI t_11)) (b := (a_b 3)) (As := [.ref (a_b 2)]) (rest := []) ⟨hx, hb, hml, hown, hts⟩ (mt_X1_become l dC dI cI cZ cR cW xs _ ((a_b 3)) a_t ((a_b 2)) a_y t y t_11 hc_125) (cwV 1 hts gX4_broke_X1_become rfl rfl rfl (by decide +kernel) ⟨Nat.le_of_ble_eq_true rfl, Nat.le_of_ble_eq_true rfl⟩) hK hE hP hD hS hA ⟨rfl, rfl, rfl, rfl, rfl, rfl, rfl⟩ 1 0 rfl rfl rfl hl rfl rfl (Nat.le_of_ble_eq_true rfl) ⟨Nat.le_of_ble_eq_true rfl, Nat.le_of_ble_eq_true rfl⟩ dX4_broke_125 (fun H locs hP hD hS => ?_)
          refine W.widen (k := 0) (n := 0) (Nat.le_refl _) (Nat.le_refl _) ?_
          refine lv_aload_n hx hb dX4_broke_128 rfl (lv_at hl 0 rfl) ?_
          refine va_get (D := (dC, dI)) (ci := 4) (v := .ref (a_b 3)) (C := RX4) (T := TX4) (N := 10) hx hb hts hi_X4 hown hK hP 0 rfl rfl 3 (by decide) kw1 (fun _ h9 => h9) rfl dX4_broke_129 ?_
          refine va_get (D := (dC, dI)) (ci := 1) (v := .ref (a_t 11)) (C := RX1) (T := TX1) (N := 12) hx hb hts hi_X1 hown hK hP 11 rfl rfl 11 (by decide) kw6 (fun _ h9 => h9) rfl dX4_broke_132 ?_
          refine lv_iload hx hb dX4_broke_135 (lv_at hl 5 rfl) ?_
          refine lv_iconst (v := 3) hx hb dX4_broke_137 (by decide) ?_
          obtain ⟨h1_138, hd⟩ := ob_nn hd
          refine va_iast hx hb hK hP hD hS 16 0 rfl rfl h1_138 dX4_broke_138 (fun H locs hP hD hS => ?_)
          obtain ⟨t_12, et_12⟩ : ∃ z : ob_B, z = ob_A t_11 11 (upd (t_11.2 11) (Int32.toNatClampNeg z6) 3) := ⟨_, rfl⟩
          replace hd := ob_lx et_12 hd
          replace hP : va_P (dC, dI) vwCl (ob_w4 o_b a_b cI b ++ ob_wr (a_b 0) cW 8 g_g ++ ob_w2 o_w a_w cI w ++ ob_w1 (a_b 2) a_y cI y ++ ob_w1 (a_b 3) a_t cI t_12) H := by rw [et_12]; exact hP
          replace hD : va_D A (ob_w4 o_b a_b cI b ++ ob_wr (a_b 0) cW 8 g_g ++ ob_w2 o_w a_w cI w ++ ob_w1 (a_b 2) a_y cI y ++ ob_w1 (a_b 3) a_t cI t_12) := by rw [et_12]; exact hD
          clear et_12
          refine lv_iload hx hb dX4_broke_139 (lv_at hl 4 rfl) ?_
          refine lv_aload_n hx hb dX4_broke_141 rfl (lv_at hl 0 rfl) ?_
          refine va_get (D := (dC, dI)) (ci := 4) (v := .ref (a_b 3)) (C := RX4) (T := TX4) (N := 10) hx hb hts hi_X4 hown hK hP 0 rfl rfl 3 (by decide) kw1 (fun _ h9 => h9) rfl dX4_broke_142 ?_
          refine lv_aload_n hx hb dX4_broke_145 rfl (lv_at hl 0 rfl) ?_
          refine va_get (D := (dC, dI)) (ci := 4) (v := .ref (a_b 0)) (C := RX4) (T := TX4) (N := 10) hx hb hts hi_X4 hown hK hP 0 rfl rfl 0 (by decide) kw3 (fun _ h9 => h9) rfl dX4_broke_146 ?_
          refine lv_iload_n hx hb dX4_broke_149 rfl (lv_at hl 1 rfl) ?_
          obtain ⟨h1_150, hd⟩ := ob_nn hd
          refine va_aldq hx hb hK hP 2 3 rfl rfl h1_150 dX4_broke_150 ?_
          refine ob_rf (hg h1_150) ?_
          refine lv_iload_n hx hb dX4_broke_151 rfl (lv_at hl 2 rfl) ?_
          refine lv_iload_n hx hb dX4_broke_152 rfl (lv_at hl 3 rfl) ?_
          obtain ⟨r_13, t_14, hc_153, hd⟩ := ob_s2 hd
          refine ob_Vi (isC := [11, 12, 13, 14, 15, 16, 3, 4]) (isR := [0, 1, 2, 5, 6, 7, 8, 9, 10]) (is2 := [0, 1, 2, 15, 16, 3, 4, 5, 6, 7, 8, 9, 10, 11, 12, 13, 14]) (wc := (ob_w1 (a_b 3) a_t cI t_12 ++ ob_w2 o_w a_w cI w)) (wr := (List.filterMap (fun i => (ob_w4 o_b a_b cI b ++ ob_wr (a_b 0) cW 8 g_g ++ ob_w2 o_w a_w cI w ++ ob_w1 (a_b 2) a_y cI y ++ ob_w1 (a_b 3) a_t cI t_12)[i]?) [0, 1, 2, 5, 6, 7, 8, 9, 10])) (w1 := (ob_w1 (a_b 3) a_t cI t_14 ++ ob_w2 o_w a_w cI w)) (w2 := (ob_w4 o_b a_b cI b ++ ob_wr (a_b 0) cW 8 g_g ++ ob_w2 o_w a_w cI w ++ ob_w1 (a_b 2) a_y cI y ++ ob_w1 (a_b 3) a_t cI t_14)) (b := (a_b 3)) (As := [.ref o_w, .int x2, .int x3]) (rest := [.int z5]) ⟨hx, hb, hml, hown, hts⟩ (mt_X1_goesAlong l dC dI cI cZ cR cW xs _ ((a_b 3)) a_t o_w a_w t_12 w x2 x3 r_13 t_14 hc_153) (cwV 3 hts gX4_broke_X1_goesAlong rfl rfl rfl (by decide +kernel) ⟨Nat.le_of_ble_eq_true rfl, Nat.le_of_ble_eq_true rfl⟩) hK hE hP hD hS hA ⟨rfl, rfl, rfl, rfl, rfl, rfl, rfl⟩ 1 0 rfl rfl rfl hl rfl rfl (Nat.le_of_ble_eq_true rfl) ⟨Nat.le_of_ble_eq_true rfl, Nat.le_of_ble_eq_true rfl⟩ dX4_broke_153 (fun H locs hP hD hS => ?_)
          refine W.widen (k := 0) (n := 0) (Nat.le_refl _) (Nat.le_refl _) ?_
          refine lv_if_eq (tgt := 166) hx hb dX4_broke_156 (by decide) (fun c_156 => ?_) (fun c_156 => ?_)
          · replace hd := ob_t c_156 hd
            refine lv_iconst (v := 0) hx hb dX4_broke_166 (by decide) ?_
            refine lv_ior hx hb dX4_broke_167 ?_
            refine lv_topi (fun x_15 ex_15 => ?_)
            replace hd := ob_lx ex_15 hd
            clear ex_15
            refine lv_istore (lv' := [(5, .int x_15), (0, .ref o_b), (1, .int x1), (2, .int x2), (3, .int x3), (6, .int z6)]) hx hb dX4_broke_168 hl (by decide) rfl (fun ls hl => ?_)
            obtain ⟨x_16, ex_16⟩ : ∃ z : Int32, z = z6 + 1 := ⟨_, rfl⟩
            replace hd := ob_lx ex_16 hd
            refine lv_iinc (v := x_16) (lv' := [(6, .int x_16), (5, .int x_15), (0, .ref o_b), (1, .int x1), (2, .int x2), (3, .int x3)]) hx hb dX4_broke_170 hl (k := 5) rfl (by rw [ex_16]; rfl) (by decide) rfl (fun ls hl => ?_)
            clear ex_16
            refine lv_goto (tgt := 92) hx hb dX4_broke_173 (by decide) ?_
            exact ih _ _ b t_14 x_15 x_16 _ hP hD hS (lv_sub hl [2, 3, 4, 5, 1, 0] rfl) hd
          · replace hd := ob_f c_156 hd
            refine lv_iconst (v := 1) hx hb dX4_broke_159 (by decide) ?_
            refine lv_iload hx hb dX4_broke_160 (lv_at hl 5 rfl) ?_
            refine lv_ishl hx hb dX4_broke_162 ?_
            refine lv_goto (tgt := 167) hx hb dX4_broke_163 (by decide) ?_
            refine lv_ior hx hb dX4_broke_167 ?_
            refine lv_topi (fun x_17 ex_17 => ?_)
            replace hd := ob_lx ex_17 hd
            clear ex_17
            refine lv_istore (lv' := [(5, .int x_17), (0, .ref o_b), (1, .int x1), (2, .int x2), (3, .int x3), (6, .int z6)]) hx hb dX4_broke_168 hl (by decide) rfl (fun ls hl => ?_)
            obtain ⟨x_18, ex_18⟩ : ∃ z : Int32, z = z6 + 1 := ⟨_, rfl⟩
            replace hd := ob_lx ex_18 hd
            refine lv_iinc (v := x_18) (lv' := [(6, .int x_18), (5, .int x_17), (0, .ref o_b), (1, .int x1), (2, .int x2), (3, .int x3)]) hx hb dX4_broke_170 hl (k := 5) rfl (by rw [ex_18]; rfl) (by decide) rfl (fun ls hl => ?_)
            clear ex_18
            refine lv_goto (tgt := 92) hx hb dX4_broke_173 (by decide) ?_
            exact ih _ _ b t_14 x_17 x_18 _ hP hD hS (lv_sub hl [2, 3, 4, 5, 1, 0] rfl) hd
  refine lv_aload_n hx hb dX4_broke_0 rfl (lv_at hl 0 rfl) ?_
  obtain ⟨r_1, hc_1, hd⟩ := ob_s1 hd
  refine ob_Vi (isC := [0, 1, 5, 6, 7, 8, 9, 10]) (isR := [2, 3, 4, 11, 12, 13, 14, 15, 16]) (is2 := [9, 10, 0, 1, 2, 11, 12, 13, 14, 15, 16, 3, 4, 5, 6, 7, 8]) (wc := (ob_w4 o_b a_b cI b ++ ob_w1 (a_b 2) a_y cI y)) (wr := (List.filterMap (fun i => (ob_w4 o_b a_b cI b ++ ob_wr (a_b 0) cW 8 g_g ++ ob_w2 o_w a_w cI w ++ ob_w1 (a_b 2) a_y cI y ++ ob_w1 (a_b 3) a_t cI t)[i]?) [2, 3, 4, 11, 12, 13, 14, 15, 16])) (w1 := (ob_w4 o_b a_b cI b ++ ob_w1 (a_b 2) a_y cI y)) (w2 := (ob_w4 o_b a_b cI b ++ ob_wr (a_b 0) cW 8 g_g ++ ob_w2 o_w a_w cI w ++ ob_w1 (a_b 2) a_y cI y ++ ob_w1 (a_b 3) a_t cI t)) (b := o_b) (As := []) (rest := []) ⟨hx, hb, hml, hown, hts⟩ (mt_X4_noRoute l dC dI cI cZ cR cW xs _ o_b a_b a_y b y r_1 hc_1) (cwV 0 hts gX4_broke_X4_noRoute rfl rfl rfl (by decide +kernel) ⟨Nat.le_of_ble_eq_true rfl, Nat.le_of_ble_eq_true rfl⟩) hK hE hP hD hS hA ⟨rfl, rfl, rfl, rfl, rfl, rfl, rfl⟩ 4 0 rfl rfl rfl hl rfl rfl (Nat.le_of_ble_eq_true rfl) ⟨Nat.le_of_ble_eq_true rfl, Nat.le_of_ble_eq_true rfl⟩ dX4_broke_1 (fun H locs hP hD hS => ?_)
  refine W.widen (k := 0) (n := 0) (Nat.le_refl _) (Nat.le_refl _) ?_
  refine lv_if_eq (tgt := 10) hx hb dX4_broke_4 (by decide) (fun c_4 => ?_) (fun c_4 => ?_)
  · replace hd := ob_t c_4 hd
    refine lv_iload_n hx hb dX4_broke_10 rfl (lv_at hl 1 rfl) ?_
    obtain ⟨r_2, hc_11, hd⟩ := ob_s1 hd
    refine ob_Si (isC := []) (isR := [0, 1, 2, 3, 4, 5, 6, 7, 8, 9, 10, 11, 12, 13, 14, 15, 16]) (is2 := [0, 1, 2, 3, 4, 5, 6, 7, 8, 9, 10, 11, 12, 13, 14, 15, 16]) (wc := ([] : va_W)) (wr := (List.filterMap (fun i => (ob_w4 o_b a_b cI b ++ ob_wr (a_b 0) cW 8 g_g ++ ob_w2 o_w a_w cI w ++ ob_w1 (a_b 2) a_y cI y ++ ob_w1 (a_b 3) a_t cI t)[i]?) [0, 1, 2, 3, 4, 5, 6, 7, 8, 9, 10, 11, 12, 13, 14, 15, 16])) (w1 := ([] : va_W)) (w2 := (ob_w4 o_b a_b cI b ++ ob_wr (a_b 0) cW 8 g_g ++ ob_w2 o_w a_w cI w ++ ob_w1 (a_b 2) a_y cI y ++ ob_w1 (a_b 3) a_t cI t)) (As := [.int x1]) (rest := []) ⟨hx, hb, hml, hown, hts⟩ (mt_X4_isRow l dC dI cI cZ cR cW xs _ x1 r_2 hc_11) (va_cwS 1 hts gX4_broke_X4_isRow rfl rfl rfl (by decide +kernel) ⟨Nat.le_of_ble_eq_true rfl, Nat.le_of_ble_eq_true rfl⟩) hK hE hP hD hS hA ⟨rfl, rfl, rfl, rfl, rfl, rfl, rfl⟩ hl rfl rfl (Nat.le_of_ble_eq_true rfl) ⟨Nat.le_of_ble_eq_true rfl, Nat.le_of_ble_eq_true rfl⟩ dX4_broke_11 (fun H locs hP hD hS => ?_)
    refine W.widen (k := 0) (n := 0) (Nat.le_refl _) (Nat.le_refl _) ?_
    refine lv_if_eq (tgt := 27) hx hb dX4_broke_14 (by decide) (fun c_14 => ?_) (fun c_14 => ?_)
    · replace hd := ob_t c_14 hd
      refine lv_ldc hx hb hown kw0 dX4_broke_27 ?_
      obtain ⟨e1, e2, e3⟩ := ob_pq hd
      subst e1
      subst e2
      subst e3
      exact ob_iret hx hb hr hlocks hP hD hS dX4_broke_29
    · replace hd := ob_f c_14 hd
      refine lv_iload_n hx hb dX4_broke_17 rfl (lv_at hl 3 rfl) ?_
      refine lv_iconst (v := 1) hx hb dX4_broke_18 (by decide) ?_
      refine lv_bipush (v := 12) hx hb dX4_broke_19 (by decide) ?_
      obtain ⟨r_3, hc_21, hd⟩ := ob_s1 hd
      refine ob_Si (isC := []) (isR := [0, 1, 2, 3, 4, 5, 6, 7, 8, 9, 10, 11, 12, 13, 14, 15, 16]) (is2 := [0, 1, 2, 3, 4, 5, 6, 7, 8, 9, 10, 11, 12, 13, 14, 15, 16]) (wc := ([] : va_W)) (wr := (List.filterMap (fun i => (ob_w4 o_b a_b cI b ++ ob_wr (a_b 0) cW 8 g_g ++ ob_w2 o_w a_w cI w ++ ob_w1 (a_b 2) a_y cI y ++ ob_w1 (a_b 3) a_t cI t)[i]?) [0, 1, 2, 3, 4, 5, 6, 7, 8, 9, 10, 11, 12, 13, 14, 15, 16])) (w1 := ([] : va_W)) (w2 := (ob_w4 o_b a_b cI b ++ ob_wr (a_b 0) cW 8 g_g ++ ob_w2 o_w a_w cI w ++ ob_w1 (a_b 2) a_y cI y ++ ob_w1 (a_b 3) a_t cI t)) (As := [.int x3, .int 1, .int 12]) (rest := []) ⟨hx, hb, hml, hown, hts⟩ (mt_X4_isWithin l dC dI cI cZ cR cW xs _ x3 1 12 r_3 hc_21) (va_cwS 3 hts gX4_broke_X4_isWithin rfl rfl rfl (by decide +kernel) ⟨Nat.le_of_ble_eq_true rfl, Nat.le_of_ble_eq_true rfl⟩) hK hE hP hD hS hA ⟨rfl, rfl, rfl, rfl, rfl, rfl, rfl⟩ hl rfl rfl (Nat.le_of_ble_eq_true rfl) ⟨Nat.le_of_ble_eq_true rfl, Nat.le_of_ble_eq_true rfl⟩ dX4_broke_21 (fun H locs hP hD hS => ?_)
      refine W.widen (k := 0) (n := 0) (Nat.le_refl _) (Nat.le_refl _) ?_
      refine lv_if_ne (tgt := 30) hx hb dX4_broke_24 (by decide) (fun c_24 => ?_) (fun c_24 => ?_)
      · replace hd := ob_f c_24 hd
        refine lv_aload_n hx hb dX4_broke_30 rfl (lv_at hl 0 rfl) ?_
        refine lv_iload_n hx hb dX4_broke_31 rfl (lv_at hl 1 rfl) ?_
        refine lv_iload_n hx hb dX4_broke_32 rfl (lv_at hl 2 rfl) ?_
        refine lv_iload_n hx hb dX4_broke_33 rfl (lv_at hl 3 rfl) ?_
        obtain ⟨r_4, hc_34, hd⟩ := ob_s1 hd
        refine ob_Vi (isC := [0, 1, 2, 3, 4]) (isR := [5, 6, 7, 8, 9, 10, 11, 12, 13, 14, 15, 16]) (is2 := [12, 13, 14, 15, 16, 0, 1, 2, 3, 4, 5, 6, 7, 8, 9, 10, 11]) (wc := (ob_w4 o_b a_b cI b ++ ob_wr (a_b 0) cW 8 g_g ++ ob_w2 o_w a_w cI w)) (wr := (List.filterMap (fun i => (ob_w4 o_b a_b cI b ++ ob_wr (a_b 0) cW 8 g_g ++ ob_w2 o_w a_w cI w ++ ob_w1 (a_b 2) a_y cI y ++ ob_w1 (a_b 3) a_t cI t)[i]?) [5, 6, 7, 8, 9, 10, 11, 12, 13, 14, 15, 16])) (w1 := (ob_w4 o_b a_b cI b ++ ob_wr (a_b 0) cW 8 g_g ++ ob_w2 o_w a_w cI w)) (w2 := (ob_w4 o_b a_b cI b ++ ob_wr (a_b 0) cW 8 g_g ++ ob_w2 o_w a_w cI w ++ ob_w1 (a_b 2) a_y cI y ++ ob_w1 (a_b 3) a_t cI t)) (b := o_b) (As := [.int x1, .int x2, .int x3]) (rest := []) ⟨hx, hb, hml, hown, hts⟩ (mt_X4_findingOf l dC dI cI cZ cR cW xs _ o_b a_b g_g o_w a_w b w x1 x2 x3 hg r_4 hc_34) (cwV 3 hts gX4_broke_X4_findingOf rfl rfl rfl (by decide +kernel) ⟨Nat.le_of_ble_eq_true rfl, Nat.le_of_ble_eq_true rfl⟩) hK hE hP hD hS hA ⟨rfl, rfl, rfl, rfl, rfl, rfl, rfl⟩ 4 0 rfl rfl rfl hl rfl rfl (Nat.le_of_ble_eq_true rfl) ⟨Nat.le_of_ble_eq_true rfl, Nat.le_of_ble_eq_true rfl⟩ dX4_broke_34 (fun H locs hP hD hS => ?_)
        refine W.widen (k := 0) (n := 0) (Nat.le_refl _) (Nat.le_refl _) ?_
        refine lv_istore (lv' := [(4, .int r_4), (0, .ref o_b), (1, .int x1), (2, .int x2), (3, .int x3)]) hx hb dX4_broke_37 hl (by decide) rfl (fun ls hl => ?_)
        refine lv_iload hx hb dX4_broke_39 (lv_at hl 0 rfl) ?_
        refine lv_if_eq (tgt := 51) hx hb dX4_broke_41 (by decide) (fun c_41 => ?_) (fun c_41 => ?_)
        · replace hd := ob_t c_41 hd
          refine lv_aload_n hx hb dX4_broke_51 rfl (lv_at hl 1 rfl) ?_
          refine va_get (D := (dC, dI)) (ci := 4) (v := .ref (a_b 3)) (C := RX4) (T := TX4) (N := 10) hx hb hts hi_X4 hown hK hP 0 rfl rfl 3 (by decide) kw1 (fun _ h9 => h9) rfl dX4_broke_52 ?_
          refine lv_aload_n hx hb dX4_broke_55 rfl (lv_at hl 1 rfl) ?_
          refine va_get (D := (dC, dI)) (ci := 4) (v := .ref (a_b 2)) (C := RX4) (T := TX4) (N := 10) hx hb hts hi_X4 hown hK hP 0 rfl rfl 2 (by decide) kw2 (fun _ h9 => h9) rfl dX4_broke_56 ?_
          obtain ⟨t_5, hc_59, hd⟩ := ob_s1 hd
          refine ob_Vv (isC := [11, 12, 13, 14, 15, 16, 5, 6, 7, 8, 9, 10]) (isR := [0, 1, 2, 3, 4]) (is2 := [0, 1, 2, 3, 4, 11, 12, 13, 14, 15, 16, 5, 6, 7, 8, 9, 10]) (wc := (ob_w1 (a_b 3) a_t cI t ++ ob_w1 (a_b 2) a_y cI y)) (wr := (List.filterMap (fun i => (ob_w4 o_b a_b cI b ++ ob_wr (a_b 0) cW 8 g_g ++ ob_w2 o_w a_w cI w ++ ob_w1 (a_b 2) a_y cI y ++ ob_w1 (a_b 3) a_t cI t)[i]?) [0, 1, 2, 3, 4])) (w1 := (ob_w1 (a_b 3) a_t cI t_5 ++ ob_w1 (a_b 2) a_y cI y)) (w2 := (ob_w4 o_b a_b cI b ++ ob_wr (a_b 0) cW 8 g_g ++ ob_w2 o_w a_w cI w ++ ob_w1 (a_b 2) a_y cI y ++ ob_w1 (a_b 3) a_t cI t_5)) (b := (a_b 3)) (As := [.ref (a_b 2)]) (rest := []) ⟨hx, hb, hml, hown, hts⟩ (mt_X1_become l dC dI cI cZ cR cW xs _ ((a_b 3)) a_t ((a_b 2)) a_y t y t_5 hc_59) (cwV 1 hts gX4_broke_X1_become rfl rfl rfl (by decide +kernel) ⟨Nat.le_of_ble_eq_true rfl, Nat.le_of_ble_eq_true rfl⟩) hK hE hP hD hS hA ⟨rfl, rfl, rfl, rfl, rfl, rfl, rfl⟩ 1 0 rfl rfl rfl hl rfl rfl (Nat.le_of_ble_eq_true rfl) ⟨Nat.le_of_ble_eq_true rfl, Nat.le_of_ble_eq_true rfl⟩ dX4_broke_59 (fun H locs hP hD hS => ?_)
          refine W.widen (k := 0) (n := 0) (Nat.le_refl _) (Nat.le_refl _) ?_
          refine lv_aload_n hx hb dX4_broke_62 rfl (lv_at hl 1 rfl) ?_
          refine va_get (D := (dC, dI)) (ci := 4) (v := .ref (a_b 3)) (C := RX4) (T := TX4) (N := 10) hx hb hts hi_X4 hown hK hP 0 rfl rfl 3 (by decide) kw1 (fun _ h9 => h9) rfl dX4_broke_63 ?_
          refine lv_aload_n hx hb dX4_broke_66 rfl (lv_at hl 1 rfl) ?_
          refine va_get (D := (dC, dI)) (ci := 4) (v := .ref (a_b 0)) (C := RX4) (T := TX4) (N := 10) hx hb hts hi_X4 hown hK hP 0 rfl rfl 0 (by decide) kw3 (fun _ h9 => h9) rfl dX4_broke_67 ?_
          refine lv_iload_n hx hb dX4_broke_70 rfl (lv_at hl 2 rfl) ?_
          obtain ⟨h1_71, hd⟩ := ob_nn hd
          refine va_aldq hx hb hK hP 2 3 rfl rfl h1_71 dX4_broke_71 ?_
          refine ob_rf (hg h1_71) ?_
          refine lv_iload_n hx hb dX4_broke_72 rfl (lv_at hl 3 rfl) ?_
          refine lv_iload_n hx hb dX4_broke_73 rfl (lv_at hl 4 rfl) ?_
          obtain ⟨r_6, t_7, hc_74, hd⟩ := ob_s2 hd
          refine ob_Vi (isC := [11, 12, 13, 14, 15, 16, 3, 4]) (isR := [0, 1, 2, 5, 6, 7, 8, 9, 10]) (is2 := [0, 1, 2, 15, 16, 3, 4, 5, 6, 7, 8, 9, 10, 11, 12, 13, 14]) (wc := (ob_w1 (a_b 3) a_t cI t_5 ++ ob_w2 o_w a_w cI w)) (wr := (List.filterMap (fun i => (ob_w4 o_b a_b cI b ++ ob_wr (a_b 0) cW 8 g_g ++ ob_w2 o_w a_w cI w ++ ob_w1 (a_b 2) a_y cI y ++ ob_w1 (a_b 3) a_t cI t_5)[i]?) [0, 1, 2, 5, 6, 7, 8, 9, 10])) (w1 := (ob_w1 (a_b 3) a_t cI t_7 ++ ob_w2 o_w a_w cI w)) (w2 := (ob_w4 o_b a_b cI b ++ ob_wr (a_b 0) cW 8 g_g ++ ob_w2 o_w a_w cI w ++ ob_w1 (a_b 2) a_y cI y ++ ob_w1 (a_b 3) a_t cI t_7)) (b := (a_b 3)) (As := [.ref o_w, .int x2, .int x3]) (rest := []) ⟨hx, hb, hml, hown, hts⟩ (mt_X1_goesAlong l dC dI cI cZ cR cW xs _ ((a_b 3)) a_t o_w a_w t_5 w x2 x3 r_6 t_7 hc_74) (cwV 3 hts gX4_broke_X1_goesAlong rfl rfl rfl (by decide +kernel) ⟨Nat.le_of_ble_eq_true rfl, Nat.le_of_ble_eq_true rfl⟩) hK hE hP hD hS hA ⟨rfl, rfl, rfl, rfl, rfl, rfl, rfl⟩ 1 0 rfl rfl rfl hl rfl rfl (Nat.le_of_ble_eq_true rfl) ⟨Nat.le_of_ble_eq_true rfl, Nat.le_of_ble_eq_true rfl⟩ dX4_broke_74 (fun H locs hP hD hS => ?_)
          refine W.widen (k := 0) (n := 0) (Nat.le_refl _) (Nat.le_refl _) ?_
          refine lv_if_eq (tgt := 86) hx hb dX4_broke_77 (by decide) (fun c_77 => ?_) (fun c_77 => ?_)
          · replace hd := ob_t c_77 hd
            refine lv_iconst (v := 0) hx hb dX4_broke_86 (by decide) ?_
            refine lv_istore (lv' := [(5, .int 0), (4, .int r_4), (0, .ref o_b), (1, .int x1), (2, .int x2), (3, .int x3)]) hx hb dX4_broke_87 hl (by decide) rfl (fun ls hl => ?_)
            refine lv_iconst (v := 0) hx hb dX4_broke_89 (by decide) ?_
            refine lv_istore (lv' := [(6, .int 0), (5, .int 0), (4, .int r_4), (0, .ref o_b), (1, .int x1), (2, .int x2), (3, .int x3)]) hx hb dX4_broke_90 hl (by decide) rfl (fun ls hl => ?_)
            exact L92  2000 _ _ b t_7 0 0 _ hP hD hS (lv_sub hl [3, 4, 5, 6, 1, 0] rfl) hd
          · replace hd := ob_f c_77 hd
            refine lv_sipush (v := 128) hx hb dX4_broke_80 (by decide) ?_
            refine lv_goto (tgt := 87) hx hb dX4_broke_83 (by decide) ?_
            refine lv_istore (lv' := [(5, .int 128), (4, .int r_4), (0, .ref o_b), (1, .int x1), (2, .int x2), (3, .int x3)]) hx hb dX4_broke_87 hl (by decide) rfl (fun ls hl => ?_)
            refine lv_iconst (v := 0) hx hb dX4_broke_89 (by decide) ?_
            refine lv_istore (lv' := [(6, .int 0), (5, .int 128), (4, .int r_4), (0, .ref o_b), (1, .int x1), (2, .int x2), (3, .int x3)]) hx hb dX4_broke_90 hl (by decide) rfl (fun ls hl => ?_)
            exact L92  2000 _ _ b t_7 128 0 _ hP hD hS (lv_sub hl [3, 4, 5, 6, 1, 0] rfl) hd
        · replace hd := ob_f c_41 hd
          refine lv_aload_n hx hb dX4_broke_44 rfl (lv_at hl 1 rfl) ?_
          refine lv_iload hx hb dX4_broke_45 (lv_at hl 0 rfl) ?_
          obtain ⟨r_8, b_9, hc_47, hd⟩ := ob_s2 hd
          refine ob_Vi (isC := [0, 1]) (isR := [2, 3, 4, 5, 6, 7, 8, 9, 10, 11, 12, 13, 14, 15, 16]) (is2 := [15, 16, 0, 1, 2, 3, 4, 5, 6, 7, 8, 9, 10, 11, 12, 13, 14]) (wc := (ob_w4 o_b a_b cI b)) (wr := (List.filterMap (fun i => (ob_w4 o_b a_b cI b ++ ob_wr (a_b 0) cW 8 g_g ++ ob_w2 o_w a_w cI w ++ ob_w1 (a_b 2) a_y cI y ++ ob_w1 (a_b 3) a_t cI t)[i]?) [2, 3, 4, 5, 6, 7, 8, 9, 10, 11, 12, 13, 14, 15, 16])) (w1 := (ob_w4 o_b a_b cI b_9)) (w2 := (ob_w4 o_b a_b cI b_9 ++ ob_wr (a_b 0) cW 8 g_g ++ ob_w2 o_w a_w cI w ++ ob_w1 (a_b 2) a_y cI y ++ ob_w1 (a_b 3) a_t cI t)) (b := o_b) (As := [.int r_4]) (rest := []) ⟨hx, hb, hml, hown, hts⟩ (mt_X4_found l dC dI cI cZ cR cW xs _ o_b a_b b r_4 r_8 b_9 hc_47) (cwV 1 hts gX4_broke_X4_found rfl rfl rfl (by decide +kernel) ⟨Nat.le_of_ble_eq_true rfl, Nat.le_of_ble_eq_true rfl⟩) hK hE hP hD hS hA ⟨rfl, rfl, rfl, rfl, rfl, rfl, rfl⟩ 4 0 rfl rfl rfl hl rfl rfl (Nat.le_of_ble_eq_true rfl) ⟨Nat.le_of_ble_eq_true rfl, Nat.le_of_ble_eq_true rfl⟩ dX4_broke_47 (fun H locs hP hD hS => ?_)
          refine W.widen (k := 0) (n := 0) (Nat.le_refl _) (Nat.le_refl _) ?_
          obtain ⟨e1, e2, e3⟩ := ob_pq hd
          subst e1
          subst e2
          subst e3
          exact ob_iret hx hb hr hlocks hP hD hS dX4_broke_50
      · replace hd := ob_t c_24 hd
        refine lv_ldc hx hb hown kw0 dX4_broke_27 ?_
        obtain ⟨e1, e2, e3⟩ := ob_pq hd
        subst e1
        subst e2
        subst e3
        exact ob_iret hx hb hr hlocks hP hD hS dX4_broke_29
  · replace hd := ob_f c_4 hd
    refine lv_ldc hx hb hown kw4 dX4_broke_7 ?_
    obtain ⟨e1, e2, e3⟩ := ob_pq hd
    subst e1
    subst e2
    subst e3
    exact ob_iret hx hb hr hlocks hP hD hS dX4_broke_9

def fd_X4_sworn_L139  (b : ob_B) (w : ob_B) (y : ob_B) (t : ob_B) (z6 : Int32) : Option (Int32 × ob_B × ob_B) := ob_b2 (fd_X4_unfound b z6) (fun r_15 b_16 => some (r_15, b_16, t))
def fd_X4_sworn_L72  : Nat → ob_B → ob_B → ob_B → ob_B → Int32 → Int32 → Int32 → Int32 → Int32 → Int32 → Option (Int32 × ob_B × ob_B)
  | 0, _, _, _, _, _, _, _, _, _, _ => none
  | fu + 1, b, w, y, t, x1, x2, x3, x4, z6, z7 => if 10 ≤ z7 then (fd_X4_sworn_L139 b w y t z6) else (ob_b1 (fd_X1_become t y) (fun t_7 => if x1 < 0 ∨ 7 ≤ Int32.toNatClampNeg x1 then none else (ob_lt (ob_A t_7 8 (upd (t_7.2 8) (Int32.toNatClampNeg x1) z7) : ob_B) (fun t_8 => if x2 < 0 ∨ 8 ≤ Int32.toNatClampNeg x2 then none else (ob_b2 (fd_X1_goesAlong t_8 w x3 x4) (fun r_9 t_10 => if r_9 = 0 then (ob_lt (z6 ||| 0 : Int32) (fun x_11 => ob_lt (z7 + 1 : Int32) (fun x_12 => fd_X4_sworn_L72 fu b w y t_10 x1 x2 x3 x4 x_11 x_12))) else (ob_lt (z6 ||| (1 <<< (z7 &&& 31)) : Int32) (fun x_13 => ob_lt (z7 + 1 : Int32) (fun x_14 => fd_X4_sworn_L72 fu b w y t_10 x1 x2 x3 x4 x_13 x_14)))))))))
def fd_X4_sworn  (b : ob_B) (w : ob_B) (y : ob_B) (t : ob_B) (x1 : Int32) (x2 : Int32) (x3 : Int32) (x4 : Int32) : Option (Int32 × ob_B × ob_B) := ob_b1 (fd_X4_isOath b y x1) (fun r_1 => if r_1 = 0 then (some ((-1000001), b, t)) else (ob_b1 (fd_X4_isRow x2) (fun r_2 => if r_2 = 0 then (some ((-1000001), b, t)) else (ob_b1 (fd_X4_isWithin x4 1 12) (fun r_3 => if r_3 = 0 then (some ((-1000001), b, t)) else (ob_b1 (fd_X4_findingOf b w x2 x3 x4) (fun r_4 => if r_4 = 0 then (if x1 < 0 ∨ 7 ≤ Int32.toNatClampNeg x1 then none else (if ((y.2 11) (Int32.toNatClampNeg x1)) = 0 then (fd_X4_sworn_L72 2000 b w y t x1 x2 x3 x4 0 0) else (some ((-1000002), b, t)))) else (ob_b2 (fd_X4_found b r_4) (fun r_5 b_6 => some (r_5, b_6, t))))))))))
set_option maxHeartbeats 4000000 in
set_option maxRecDepth 100000 in
theorem mt_X4_sworn (l : Launch) (dC : Nat → ClassId) (dI : Nat → Nat → Nat) (cI cZ cR cW : ClassId) (xs : Nat → Nat) (sz : Nat) (o_b : Nat) (a_b : Nat → Nat) (g_g : Nat → Option Nat) (o_w : Nat) (a_w : Nat → Nat) (a_y : Nat → Nat) (a_t : Nat → Nat) (b : ob_B) (w : ob_B) (y : ob_B) (t : ob_B) (x1 : Int32) (x2 : Int32) (x3 : Int32) (x4 : Int32) (hg : ¬ (x2 < 0 ∨ 8 ≤ Int32.toNatClampNeg x2) → g_g (Int32.toNatClampNeg x2) = some o_w) (rr : Int32) (b' : ob_B) (t' : ob_B) (hd : fd_X4_sworn b w y t x1 x2 x3 x4 = some (rr, b', t')) : ob_M l yX4_sworn wsX4_sworn ({ frames := 5, cells := 0, slots := 0, locals := 114 } : Room) (dC, dI) (ob_ty cI cZ cR cW) xs [.ref o_b, .int x1, .int x2, .int x3, .int x4] (ob_w4 o_b a_b cI b ++ ob_wr (a_b 0) cW 8 g_g ++ ob_w2 o_w a_w cI w ++ ob_w1 (a_b 2) a_y cI y ++ ob_w1 (a_b 3) a_t cI t) sz (ob_Qi (dC, dI) rr (ob_w4 o_b a_b cI b' ++ ob_wr (a_b 0) cW 8 g_g ++ ob_w2 o_w a_w cI w ++ ob_w1 (a_b 2) a_y cI y ++ ob_w1 (a_b 3) a_t cI t')) := by
  rw [fd_X4_sworn] at hd
  refine ob_in (cc := cX4_sworn) (maxL := 8) (ret := (some .int)) (own := RX4) (by decide) rfl rfl [(0, .ref o_b), (1, .int x1), (2, .int x2), (3, .int x3), (4, .int x4)] rfl (Nat.le_of_ble_eq_true rfl) ?_
  intro p e s m below meth c hx hb hr hml hown hts hlocks hnm hK A hA hE hP hD hS ls hl
  have kw0 := hts (.constant RX4 62 (-1000001)) (by decide +kernel)
  have kw1 := hts (.fieldLink RX4 25 "OathCoach" "route" "LOathCoach$Route;") (by decide +kernel)
  have kw2 := hts (.fieldLink RX4 166 "OathCoach$Route" "came" "[I") (by decide +kernel)
  have kw3 := hts (.constant RX4 137 (-1000002)) (by decide +kernel)
  have kw4 := hts (.fieldLink RX4 29 "OathCoach" "trial" "LOathCoach$Route;") (by decide +kernel)
  have kw5 := hts (.fieldLink RX4 183 "OathCoach$Route" "place" "[I") (by decide +kernel)
  have kw6 := hts (.fieldLink RX4 11 "OathCoach" "rows" "[LOathCoach$Row;") (by decide +kernel)
  have hi_X1 : ∀ w ∈ u_ws RX1 TX1 12, w ∈ wsX4_sworn := by decide +kernel
  have hi_X4 : ∀ w ∈ u_ws RX4 TX4 10, w ∈ wsX4_sworn := by decide +kernel
  have L139 : ∀ (H : Heap) (locs : List Loc) (b : ob_B) (t : ob_B) (z6 : Int32) (ls : Array Slot), va_P (dC, dI) vwCl (ob_w4 o_b a_b cI b ++ ob_wr (a_b 0) cW 8 g_g ++ ob_w2 o_w a_w cI w ++ ob_w1 (a_b 2) a_y cI y ++ ob_w1 (a_b 3) a_t cI t) H → va_D A (ob_w4 o_b a_b cI b ++ ob_wr (a_b 0) cW 8 g_g ++ ob_w2 o_w a_w cI w ++ ob_w1 (a_b 2) a_y cI y ++ ob_w1 (a_b 3) a_t cI t) → va_S A s.heap H locs → lv_has ls 8 [(0, .ref o_b), (6, .int z6)] → fd_X4_sworn_L139 b w y t z6 = some (rr, b', t') → W p l e ({ frames := 5, cells := 0, slots := 0, locals := 114 } : Room) s m (List.toArray [.ref o_b, .int x1, .int x2, .int x3, .int x4]) below meth c H locs 0 0 (MQ below ((ob_Qi (dC, dI) rr (ob_w4 o_b a_b cI b' ++ ob_wr (a_b 0) cW 8 g_g ++ ob_w2 o_w a_w cI w ++ ob_w1 (a_b 2) a_y cI y ++ ob_w1 (a_b 3) a_t cI t')) A) (List.toArray [.ref o_b, .int x1, .int x2, .int x3, .int x4]) s 0 0 A) (F0 m 139 ls []) := by
    intro  H locs b t z6 ls hP hD hS hl hd
    rw [fd_X4_sworn_L139] at hd
    refine lv_aload_n hx hb dX4_sworn_139 rfl (lv_at hl 0 rfl) ?_
    refine lv_iload hx hb dX4_sworn_140 (lv_at hl 1 rfl) ?_
    obtain ⟨r_15, b_16, hc_142, hd⟩ := ob_s2 hd
    refine ob_Vi (isC := [0, 1]) (isR := [2, 3, 4, 5, 6, 7, 8, 9, 10, 11, 12, 13, 14, 15, 16]) (is2 := [15, 16, 0, 1, 2, 3, 4, 5, 6, 7, 8, 9, 10, 11, 12, 13, 14]) (wc := (ob_w4 o_b a_b cI b)) (wr := (List.filterMap (fun i => (ob_w4 o_b a_b cI b ++ ob_wr (a_b 0) cW 8 g_g ++ ob_w2 o_w a_w cI w ++ ob_w1 (a_b 2) a_y cI y ++ ob_w1 (a_b 3) a_t cI t)[i]?) [2, 3, 4, 5, 6, 7, 8, 9, 10, 11, 12, 13, 14, 15, 16])) (w1 := (ob_w4 o_b a_b cI b_16)) (w2 := (ob_w4 o_b a_b cI b_16 ++ ob_wr (a_b 0) cW 8 g_g ++ ob_w2 o_w a_w cI w ++ ob_w1 (a_b 2) a_y cI y ++ ob_w1 (a_b 3) a_t cI t)) (b := o_b) (As := [.int z6]) (rest := []) ⟨hx, hb, hml, hown, hts⟩ (mt_X4_unfound l dC dI cI cZ cR cW xs _ o_b a_b b z6 r_15 b_16 hc_142) (cwV 1 hts gX4_sworn_X4_unfound rfl rfl rfl (by decide +kernel) ⟨Nat.le_of_ble_eq_true rfl, Nat.le_of_ble_eq_true rfl⟩) hK hE hP hD hS hA ⟨rfl, rfl, rfl, rfl, rfl, rfl, rfl⟩ 4 0 rfl rfl rfl hl rfl rfl (Nat.le_of_ble_eq_true rfl) ⟨Nat.le_of_ble_eq_true rfl, Nat.le_of_ble_eq_true rfl⟩ dX4_sworn_142 (fun H locs hP hD hS => ?_)
    refine W.widen (k := 0) (n := 0) (Nat.le_refl _) (Nat.le_refl _) ?_
    obtain ⟨e1, e2, e3⟩ := ob_pq hd
    subst e1
    subst e2
    subst e3
    exact ob_iret hx hb hr hlocks hP hD hS dX4_sworn_145
  have L72 : ∀  (fu : Nat), ∀ (H : Heap) (locs : List Loc) (b : ob_B) (t : ob_B) (z6 : Int32) (z7 : Int32) (ls : Array Slot), va_P (dC, dI) vwCl (ob_w4 o_b a_b cI b ++ ob_wr (a_b 0) cW 8 g_g ++ ob_w2 o_w a_w cI w ++ ob_w1 (a_b 2) a_y cI y ++ ob_w1 (a_b 3) a_t cI t) H → va_D A (ob_w4 o_b a_b cI b ++ ob_wr (a_b 0) cW 8 g_g ++ ob_w2 o_w a_w cI w ++ ob_w1 (a_b 2) a_y cI y ++ ob_w1 (a_b 3) a_t cI t) → va_S A s.heap H locs → lv_has ls 8 [(0, .ref o_b), (1, .int x1), (2, .int x2), (3, .int x3), (4, .int x4), (6, .int z6), (7, .int z7)] → fd_X4_sworn_L72 fu b w y t x1 x2 x3 x4 z6 z7 = some (rr, b', t') → W p l e ({ frames := 5, cells := 0, slots := 0, locals := 114 } : Room) s m (List.toArray [.ref o_b, .int x1, .int x2, .int x3, .int x4]) below meth c H locs 0 0 (MQ below ((ob_Qi (dC, dI) rr (ob_w4 o_b a_b cI b' ++ ob_wr (a_b 0) cW 8 g_g ++ ob_w2 o_w a_w cI w ++ ob_w1 (a_b 2) a_y cI y ++ ob_w1 (a_b 3) a_t cI t')) A) (List.toArray [.ref o_b, .int x1, .int x2, .int x3, .int x4]) s 0 0 A) (F0 m 72 ls []) := by
    intro  fu
    induction fu with
    | zero =>
      intro H locs b t z6 z7 ls hP hD hS hl hd
      rw [fd_X4_sworn_L72] at hd
      cases hd
    | succ fu ih =>
      intro H locs b t z6 z7 ls hP hD hS hl hd
      rw [fd_X4_sworn_L72] at hd
      refine lv_iload hx hb dX4_sworn_72 (lv_at hl 6 rfl) ?_
      refine lv_bipush (v := 10) hx hb dX4_sworn_74 (by decide) ?_
      refine lv_icmp_ge (tgt := 139) hx hb dX4_sworn_76 (by decide) (fun c_76 => ?_) (fun c_76 => ?_)
      · replace hd := ob_t c_76 hd
        exact L139   _ _ b t z6 _ hP hD hS (lv_sub hl [0, 5] rfl) hd
      · replace hd := ob_f c_76 hd
        refine lv_aload_n hx hb dX4_sworn_79 rfl (lv_at hl 0 rfl) ?_
        refine va_get (D := (dC, dI)) (ci := 4) (v := .ref (a_b 3)) (C := RX4) (T := TX4) (N := 10) hx hb hts hi_X4 hown hK hP 0 rfl rfl 3 (by decide) kw4 (fun _ h9 => h9) rfl dX4_sworn_80 ?_
        refine lv_aload_n hx hb dX4_sworn_83 rfl (lv_at hl 0 rfl) ?_
        refine va_get (D := (dC, dI)) (ci := 4) (v := .ref (a_b 2)) (C := RX4) (T := TX4) (N := 10) hx hb hts hi_X4 hown hK hP 0 rfl rfl 2 (by decide) kw1 (fun _ h9 => h9) rfl dX4_sworn_84 ?_
        obtain ⟨t_7, hc_87, hd⟩ := ob_s1 hd
        refine ob_Vv (isC := [11, 12, 13, 14, 15, 16, 5, 6, 7, 8, 9, 10]) (isR := [0, 1, 2, 3, 4]) (is2 := [0, 1, 2, 3, 4, 11, 12, 13, 14, 15, 16, 5, 6, 7, 8, 9, 10]) (wc := (ob_w1 (a_b 3) a_t cI t ++ ob_w1 (a_b 2) a_y cI y)) (wr := (List.filterMap (fun i => (ob_w4 o_b a_b cI b ++ ob_wr (a_b 0) cW 8 g_g ++ ob_w2 o_w a_w cI w ++ ob_w1 (a_b 2) a_y cI y ++ ob_w1 (a_b 3) a_t cI t)[i]?) [0, 1, 2, 3, 4])) (w1 := (ob_w1 (a_b 3) a_t cI t_7 ++ ob_w1 (a_b 2) a_y cI y)) (w2 := (ob_w4 o_b a_b cI b ++ ob_wr (a_b 0) cW 8 g_g ++ ob_w2 o_w a_w cI w ++ ob_w1 (a_b 2) a_y cI y ++ ob_w1 (a_b 3) a_t cI t_7)) (b := (a_b 3)) (As := [.ref (a_b 2)]) (rest := []) ⟨hx, hb, hml, hown, hts⟩ (mt_X1_become l dC dI cI cZ cR cW xs _ ((a_b 3)) a_t ((a_b 2)) a_y t y t_7 hc_87) (cwV 1 hts gX4_sworn_X1_become rfl rfl rfl (by decide +kernel) ⟨Nat.le_of_ble_eq_true rfl, Nat.le_of_ble_eq_true rfl⟩) hK hE hP hD hS hA ⟨rfl, rfl, rfl, rfl, rfl, rfl, rfl⟩ 1 0 rfl rfl rfl hl rfl rfl (Nat.le_of_ble_eq_true rfl) ⟨Nat.le_of_ble_eq_true rfl, Nat.le_of_ble_eq_true rfl⟩ dX4_sworn_87 (fun H locs hP hD hS => ?_)
        refine W.widen (k := 0) (n := 0) (Nat.le_refl _) (Nat.le_refl _) ?_
        refine lv_aload_n hx hb dX4_sworn_90 rfl (lv_at hl 0 rfl) ?_
        refine va_get (D := (dC, dI)) (ci := 4) (v := .ref (a_b 3)) (C := RX4) (T := TX4) (N := 10) hx hb hts hi_X4 hown hK hP 0 rfl rfl 3 (by decide) kw4 (fun _ h9 => h9) rfl dX4_sworn_91 ?_
        refine va_get (D := (dC, dI)) (ci := 1) (v := .ref (a_t 8)) (C := RX1) (T := TX1) (N := 12) hx hb hts hi_X1 hown hK hP 11 rfl rfl 8 (by decide) kw5 (fun _ h9 => h9) rfl dX4_sworn_94 ?_
        refine lv_iload_n hx hb dX4_sworn_97 rfl (lv_at hl 1 rfl) ?_
        refine lv_iload hx hb dX4_sworn_98 (lv_at hl 6 rfl) ?_
        obtain ⟨h1_100, hd⟩ := ob_nn hd
        refine va_iast hx hb hK hP hD hS 13 0 rfl rfl h1_100 dX4_sworn_100 (fun H locs hP hD hS => ?_)
        obtain ⟨t_8, et_8⟩ : ∃ z : ob_B, z = ob_A t_7 8 (upd (t_7.2 8) (Int32.toNatClampNeg x1) z7) := ⟨_, rfl⟩
        replace hd := ob_lx et_8 hd
        replace hP : va_P (dC, dI) vwCl (ob_w4 o_b a_b cI b ++ ob_wr (a_b 0) cW 8 g_g ++ ob_w2 o_w a_w cI w ++ ob_w1 (a_b 2) a_y cI y ++ ob_w1 (a_b 3) a_t cI t_8) H := by rw [et_8]; exact hP
        replace hD : va_D A (ob_w4 o_b a_b cI b ++ ob_wr (a_b 0) cW 8 g_g ++ ob_w2 o_w a_w cI w ++ ob_w1 (a_b 2) a_y cI y ++ ob_w1 (a_b 3) a_t cI t_8) := by rw [et_8]; exact hD
        clear et_8
        refine lv_iload hx hb dX4_sworn_101 (lv_at hl 5 rfl) ?_
        refine lv_aload_n hx hb dX4_sworn_103 rfl (lv_at hl 0 rfl) ?_
        refine va_get (D := (dC, dI)) (ci := 4) (v := .ref (a_b 3)) (C := RX4) (T := TX4) (N := 10) hx hb hts hi_X4 hown hK hP 0 rfl rfl 3 (by decide) kw4 (fun _ h9 => h9) rfl dX4_sworn_104 ?_
        refine lv_aload_n hx hb dX4_sworn_107 rfl (lv_at hl 0 rfl) ?_
        refine va_get (D := (dC, dI)) (ci := 4) (v := .ref (a_b 0)) (C := RX4) (T := TX4) (N := 10) hx hb hts hi_X4 hown hK hP 0 rfl rfl 0 (by decide) kw6 (fun _ h9 => h9) rfl dX4_sworn_108 ?_
        refine lv_iload_n hx hb dX4_sworn_111 rfl (lv_at hl 2 rfl) ?_
        obtain ⟨h1_112, hd⟩ := ob_nn hd
        refine va_aldq hx hb hK hP 2 3 rfl rfl h1_112 dX4_sworn_112 ?_
        refine ob_rf (hg h1_112) ?_
        refine lv_iload_n hx hb dX4_sworn_113 rfl (lv_at hl 3 rfl) ?_
        refine lv_iload hx hb dX4_sworn_114 (lv_at hl 4 rfl) ?_
        obtain ⟨r_9, t_10, hc_116, hd⟩ := ob_s2 hd
        refine ob_Vi (isC := [11, 12, 13, 14, 15, 16, 3, 4]) (isR := [0, 1, 2, 5, 6, 7, 8, 9, 10]) (is2 := [0, 1, 2, 15, 16, 3, 4, 5, 6, 7, 8, 9, 10, 11, 12, 13, 14]) (wc := (ob_w1 (a_b 3) a_t cI t_8 ++ ob_w2 o_w a_w cI w)) (wr := (List.filterMap (fun i => (ob_w4 o_b a_b cI b ++ ob_wr (a_b 0) cW 8 g_g ++ ob_w2 o_w a_w cI w ++ ob_w1 (a_b 2) a_y cI y ++ ob_w1 (a_b 3) a_t cI t_8)[i]?) [0, 1, 2, 5, 6, 7, 8, 9, 10])) (w1 := (ob_w1 (a_b 3) a_t cI t_10 ++ ob_w2 o_w a_w cI w)) (w2 := (ob_w4 o_b a_b cI b ++ ob_wr (a_b 0) cW 8 g_g ++ ob_w2 o_w a_w cI w ++ ob_w1 (a_b 2) a_y cI y ++ ob_w1 (a_b 3) a_t cI t_10)) (b := (a_b 3)) (As := [.ref o_w, .int x3, .int x4]) (rest := [.int z6]) ⟨hx, hb, hml, hown, hts⟩ (mt_X1_goesAlong l dC dI cI cZ cR cW xs _ ((a_b 3)) a_t o_w a_w t_8 w x3 x4 r_9 t_10 hc_116) (cwV 3 hts gX4_sworn_X1_goesAlong rfl rfl rfl (by decide +kernel) ⟨Nat.le_of_ble_eq_true rfl, Nat.le_of_ble_eq_true rfl⟩) hK hE hP hD hS hA ⟨rfl, rfl, rfl, rfl, rfl, rfl, rfl⟩ 1 0 rfl rfl rfl hl rfl rfl (Nat.le_of_ble_eq_true rfl) ⟨Nat.le_of_ble_eq_true rfl, Nat.le_of_ble_eq_true rfl⟩ dX4_sworn_116 (fun H locs hP hD hS => ?_)
        refine W.widen (k := 0) (n := 0) (Nat.le_refl _) (Nat.le_refl _) ?_
        refine lv_if_eq (tgt := 129) hx hb dX4_sworn_119 (by decide) (fun c_119 => ?_) (fun c_119 => ?_)
        · replace hd := ob_t c_119 hd
          refine lv_iconst (v := 0) hx hb dX4_sworn_129 (by decide) ?_
          refine lv_ior hx hb dX4_sworn_130 ?_
          refine lv_topi (fun x_11 ex_11 => ?_)
          replace hd := ob_lx ex_11 hd
          clear ex_11
          refine lv_istore (lv' := [(6, .int x_11), (0, .ref o_b), (1, .int x1), (2, .int x2), (3, .int x3), (4, .int x4), (7, .int z7)]) hx hb dX4_sworn_131 hl (by decide) rfl (fun ls hl => ?_)
          obtain ⟨x_12, ex_12⟩ : ∃ z : Int32, z = z7 + 1 := ⟨_, rfl⟩
          replace hd := ob_lx ex_12 hd
          refine lv_iinc (v := x_12) (lv' := [(7, .int x_12), (6, .int x_11), (0, .ref o_b), (1, .int x1), (2, .int x2), (3, .int x3), (4, .int x4)]) hx hb dX4_sworn_133 hl (k := 6) rfl (by rw [ex_12]; rfl) (by decide) rfl (fun ls hl => ?_)
          clear ex_12
          refine lv_goto (tgt := 72) hx hb dX4_sworn_136 (by decide) ?_
          exact ih _ _ b t_10 x_11 x_12 _ hP hD hS (lv_sub hl [2, 3, 4, 5, 6, 1, 0] rfl) hd
        · replace hd := ob_f c_119 hd
          refine lv_iconst (v := 1) hx hb dX4_sworn_122 (by decide) ?_
          refine lv_iload hx hb dX4_sworn_123 (lv_at hl 6 rfl) ?_
          refine lv_ishl hx hb dX4_sworn_125 ?_
          refine lv_goto (tgt := 130) hx hb dX4_sworn_126 (by decide) ?_
          refine lv_ior hx hb dX4_sworn_130 ?_
          refine lv_topi (fun x_13 ex_13 => ?_)
          replace hd := ob_lx ex_13 hd
          clear ex_13
          refine lv_istore (lv' := [(6, .int x_13), (0, .ref o_b), (1, .int x1), (2, .int x2), (3, .int x3), (4, .int x4), (7, .int z7)]) hx hb dX4_sworn_131 hl (by decide) rfl (fun ls hl => ?_)
          obtain ⟨x_14, ex_14⟩ : ∃ z : Int32, z = z7 + 1 := ⟨_, rfl⟩
          replace hd := ob_lx ex_14 hd
          refine lv_iinc (v := x_14) (lv' := [(7, .int x_14), (6, .int x_13), (0, .ref o_b), (1, .int x1), (2, .int x2), (3, .int x3), (4, .int x4)]) hx hb dX4_sworn_133 hl (k := 6) rfl (by rw [ex_14]; rfl) (by decide) rfl (fun ls hl => ?_)
          clear ex_14
          refine lv_goto (tgt := 72) hx hb dX4_sworn_136 (by decide) ?_
          exact ih _ _ b t_10 x_13 x_14 _ hP hD hS (lv_sub hl [2, 3, 4, 5, 6, 1, 0] rfl) hd
  refine lv_aload_n hx hb dX4_sworn_0 rfl (lv_at hl 0 rfl) ?_
  refine lv_iload_n hx hb dX4_sworn_1 rfl (lv_at hl 1 rfl) ?_
  obtain ⟨r_1, hc_2, hd⟩ := ob_s1 hd
  refine ob_Vi (isC := [0, 1, 5, 6, 7, 8, 9, 10]) (isR := [2, 3, 4, 11, 12, 13, 14, 15, 16]) (is2 := [9, 10, 0, 1, 2, 11, 12, 13, 14, 15, 16, 3, 4, 5, 6, 7, 8]) (wc := (ob_w4 o_b a_b cI b ++ ob_w1 (a_b 2) a_y cI y)) (wr := (List.filterMap (fun i => (ob_w4 o_b a_b cI b ++ ob_wr (a_b 0) cW 8 g_g ++ ob_w2 o_w a_w cI w ++ ob_w1 (a_b 2) a_y cI y ++ ob_w1 (a_b 3) a_t cI t)[i]?) [2, 3, 4, 11, 12, 13, 14, 15, 16])) (w1 := (ob_w4 o_b a_b cI b ++ ob_w1 (a_b 2) a_y cI y)) (w2 := (ob_w4 o_b a_b cI b ++ ob_wr (a_b 0) cW 8 g_g ++ ob_w2 o_w a_w cI w ++ ob_w1 (a_b 2) a_y cI y ++ ob_w1 (a_b 3) a_t cI t)) (b := o_b) (As := [.int x1]) (rest := []) ⟨hx, hb, hml, hown, hts⟩ (mt_X4_isOath l dC dI cI cZ cR cW xs _ o_b a_b a_y b y x1 r_1 hc_2) (cwV 1 hts gX4_sworn_X4_isOath rfl rfl rfl (by decide +kernel) ⟨Nat.le_of_ble_eq_true rfl, Nat.le_of_ble_eq_true rfl⟩) hK hE hP hD hS hA ⟨rfl, rfl, rfl, rfl, rfl, rfl, rfl⟩ 4 0 rfl rfl rfl hl rfl rfl (Nat.le_of_ble_eq_true rfl) ⟨Nat.le_of_ble_eq_true rfl, Nat.le_of_ble_eq_true rfl⟩ dX4_sworn_2 (fun H locs hP hD hS => ?_)
  refine W.widen (k := 0) (n := 0) (Nat.le_refl _) (Nat.le_refl _) ?_
  refine lv_if_eq (tgt := 26) hx hb dX4_sworn_5 (by decide) (fun c_5 => ?_) (fun c_5 => ?_)
  · replace hd := ob_t c_5 hd
    refine lv_ldc hx hb hown kw0 dX4_sworn_26 ?_
    obtain ⟨e1, e2, e3⟩ := ob_pq hd
    subst e1
    subst e2
    subst e3
    exact ob_iret hx hb hr hlocks hP hD hS dX4_sworn_28
  · replace hd := ob_f c_5 hd
    refine lv_iload_n hx hb dX4_sworn_8 rfl (lv_at hl 2 rfl) ?_
    obtain ⟨r_2, hc_9, hd⟩ := ob_s1 hd
    refine ob_Si (isC := []) (isR := [0, 1, 2, 3, 4, 5, 6, 7, 8, 9, 10, 11, 12, 13, 14, 15, 16]) (is2 := [0, 1, 2, 3, 4, 5, 6, 7, 8, 9, 10, 11, 12, 13, 14, 15, 16]) (wc := ([] : va_W)) (wr := (List.filterMap (fun i => (ob_w4 o_b a_b cI b ++ ob_wr (a_b 0) cW 8 g_g ++ ob_w2 o_w a_w cI w ++ ob_w1 (a_b 2) a_y cI y ++ ob_w1 (a_b 3) a_t cI t)[i]?) [0, 1, 2, 3, 4, 5, 6, 7, 8, 9, 10, 11, 12, 13, 14, 15, 16])) (w1 := ([] : va_W)) (w2 := (ob_w4 o_b a_b cI b ++ ob_wr (a_b 0) cW 8 g_g ++ ob_w2 o_w a_w cI w ++ ob_w1 (a_b 2) a_y cI y ++ ob_w1 (a_b 3) a_t cI t)) (As := [.int x2]) (rest := []) ⟨hx, hb, hml, hown, hts⟩ (mt_X4_isRow l dC dI cI cZ cR cW xs _ x2 r_2 hc_9) (va_cwS 1 hts gX4_sworn_X4_isRow rfl rfl rfl (by decide +kernel) ⟨Nat.le_of_ble_eq_true rfl, Nat.le_of_ble_eq_true rfl⟩) hK hE hP hD hS hA ⟨rfl, rfl, rfl, rfl, rfl, rfl, rfl⟩ hl rfl rfl (Nat.le_of_ble_eq_true rfl) ⟨Nat.le_of_ble_eq_true rfl, Nat.le_of_ble_eq_true rfl⟩ dX4_sworn_9 (fun H locs hP hD hS => ?_)
    refine W.widen (k := 0) (n := 0) (Nat.le_refl _) (Nat.le_refl _) ?_
    refine lv_if_eq (tgt := 26) hx hb dX4_sworn_12 (by decide) (fun c_12 => ?_) (fun c_12 => ?_)
    · replace hd := ob_t c_12 hd
      refine lv_ldc hx hb hown kw0 dX4_sworn_26 ?_
      obtain ⟨e1, e2, e3⟩ := ob_pq hd
      subst e1
      subst e2
      subst e3
      exact ob_iret hx hb hr hlocks hP hD hS dX4_sworn_28
    · replace hd := ob_f c_12 hd
      refine lv_iload hx hb dX4_sworn_15 (lv_at hl 4 rfl) ?_
      refine lv_iconst (v := 1) hx hb dX4_sworn_17 (by decide) ?_
      refine lv_bipush (v := 12) hx hb dX4_sworn_18 (by decide) ?_
      obtain ⟨r_3, hc_20, hd⟩ := ob_s1 hd
      refine ob_Si (isC := []) (isR := [0, 1, 2, 3, 4, 5, 6, 7, 8, 9, 10, 11, 12, 13, 14, 15, 16]) (is2 := [0, 1, 2, 3, 4, 5, 6, 7, 8, 9, 10, 11, 12, 13, 14, 15, 16]) (wc := ([] : va_W)) (wr := (List.filterMap (fun i => (ob_w4 o_b a_b cI b ++ ob_wr (a_b 0) cW 8 g_g ++ ob_w2 o_w a_w cI w ++ ob_w1 (a_b 2) a_y cI y ++ ob_w1 (a_b 3) a_t cI t)[i]?) [0, 1, 2, 3, 4, 5, 6, 7, 8, 9, 10, 11, 12, 13, 14, 15, 16])) (w1 := ([] : va_W)) (w2 := (ob_w4 o_b a_b cI b ++ ob_wr (a_b 0) cW 8 g_g ++ ob_w2 o_w a_w cI w ++ ob_w1 (a_b 2) a_y cI y ++ ob_w1 (a_b 3) a_t cI t)) (As := [.int x4, .int 1, .int 12]) (rest := []) ⟨hx, hb, hml, hown, hts⟩ (mt_X4_isWithin l dC dI cI cZ cR cW xs _ x4 1 12 r_3 hc_20) (va_cwS 3 hts gX4_sworn_X4_isWithin rfl rfl rfl (by decide +kernel) ⟨Nat.le_of_ble_eq_true rfl, Nat.le_of_ble_eq_true rfl⟩) hK hE hP hD hS hA ⟨rfl, rfl, rfl, rfl, rfl, rfl, rfl⟩ hl rfl rfl (Nat.le_of_ble_eq_true rfl) ⟨Nat.le_of_ble_eq_true rfl, Nat.le_of_ble_eq_true rfl⟩ dX4_sworn_20 (fun H locs hP hD hS => ?_)
      refine W.widen (k := 0) (n := 0) (Nat.le_refl _) (Nat.le_refl _) ?_
      refine lv_if_ne (tgt := 29) hx hb dX4_sworn_23 (by decide) (fun c_23 => ?_) (fun c_23 => ?_)
      · replace hd := ob_f c_23 hd
        refine lv_aload_n hx hb dX4_sworn_29 rfl (lv_at hl 0 rfl) ?_
        refine lv_iload_n hx hb dX4_sworn_30 rfl (lv_at hl 2 rfl) ?_
        refine lv_iload_n hx hb dX4_sworn_31 rfl (lv_at hl 3 rfl) ?_
        refine lv_iload hx hb dX4_sworn_32 (lv_at hl 4 rfl) ?_
        obtain ⟨r_4, hc_34, hd⟩ := ob_s1 hd
        refine ob_Vi (isC := [0, 1, 2, 3, 4]) (isR := [5, 6, 7, 8, 9, 10, 11, 12, 13, 14, 15, 16]) (is2 := [12, 13, 14, 15, 16, 0, 1, 2, 3, 4, 5, 6, 7, 8, 9, 10, 11]) (wc := (ob_w4 o_b a_b cI b ++ ob_wr (a_b 0) cW 8 g_g ++ ob_w2 o_w a_w cI w)) (wr := (List.filterMap (fun i => (ob_w4 o_b a_b cI b ++ ob_wr (a_b 0) cW 8 g_g ++ ob_w2 o_w a_w cI w ++ ob_w1 (a_b 2) a_y cI y ++ ob_w1 (a_b 3) a_t cI t)[i]?) [5, 6, 7, 8, 9, 10, 11, 12, 13, 14, 15, 16])) (w1 := (ob_w4 o_b a_b cI b ++ ob_wr (a_b 0) cW 8 g_g ++ ob_w2 o_w a_w cI w)) (w2 := (ob_w4 o_b a_b cI b ++ ob_wr (a_b 0) cW 8 g_g ++ ob_w2 o_w a_w cI w ++ ob_w1 (a_b 2) a_y cI y ++ ob_w1 (a_b 3) a_t cI t)) (b := o_b) (As := [.int x2, .int x3, .int x4]) (rest := []) ⟨hx, hb, hml, hown, hts⟩ (mt_X4_findingOf l dC dI cI cZ cR cW xs _ o_b a_b g_g o_w a_w b w x2 x3 x4 hg r_4 hc_34) (cwV 3 hts gX4_sworn_X4_findingOf rfl rfl rfl (by decide +kernel) ⟨Nat.le_of_ble_eq_true rfl, Nat.le_of_ble_eq_true rfl⟩) hK hE hP hD hS hA ⟨rfl, rfl, rfl, rfl, rfl, rfl, rfl⟩ 4 0 rfl rfl rfl hl rfl rfl (Nat.le_of_ble_eq_true rfl) ⟨Nat.le_of_ble_eq_true rfl, Nat.le_of_ble_eq_true rfl⟩ dX4_sworn_34 (fun H locs hP hD hS => ?_)
        refine W.widen (k := 0) (n := 0) (Nat.le_refl _) (Nat.le_refl _) ?_
        refine lv_istore (lv' := [(5, .int r_4), (0, .ref o_b), (1, .int x1), (2, .int x2), (3, .int x3), (4, .int x4)]) hx hb dX4_sworn_37 hl (by decide) rfl (fun ls hl => ?_)
        refine lv_iload hx hb dX4_sworn_39 (lv_at hl 0 rfl) ?_
        refine lv_if_eq (tgt := 51) hx hb dX4_sworn_41 (by decide) (fun c_41 => ?_) (fun c_41 => ?_)
        · replace hd := ob_t c_41 hd
          refine lv_aload_n hx hb dX4_sworn_51 rfl (lv_at hl 1 rfl) ?_
          refine va_get (D := (dC, dI)) (ci := 4) (v := .ref (a_b 2)) (C := RX4) (T := TX4) (N := 10) hx hb hts hi_X4 hown hK hP 0 rfl rfl 2 (by decide) kw1 (fun _ h9 => h9) rfl dX4_sworn_52 ?_
          refine va_get (D := (dC, dI)) (ci := 1) (v := .ref (a_y 11)) (C := RX1) (T := TX1) (N := 12) hx hb hts hi_X1 hown hK hP 5 rfl rfl 11 (by decide) kw2 (fun _ h9 => h9) rfl dX4_sworn_55 ?_
          refine lv_iload_n hx hb dX4_sworn_58 rfl (lv_at hl 2 rfl) ?_
          obtain ⟨h1_59, hd⟩ := ob_nn hd
          refine va_iald hx hb hK hP 10 0 rfl rfl h1_59 dX4_sworn_59 ?_
          refine lv_if_eq (tgt := 66) hx hb dX4_sworn_60 (by decide) (fun c_60 => ?_) (fun c_60 => ?_)
          · replace hd := ob_t c_60 hd
            refine lv_iconst (v := 0) hx hb dX4_sworn_66 (by decide) ?_
            refine lv_istore (lv' := [(6, .int 0), (5, .int r_4), (0, .ref o_b), (1, .int x1), (2, .int x2), (3, .int x3), (4, .int x4)]) hx hb dX4_sworn_67 hl (by decide) rfl (fun ls hl => ?_)
            refine lv_iconst (v := 0) hx hb dX4_sworn_69 (by decide) ?_
            refine lv_istore (lv' := [(7, .int 0), (6, .int 0), (5, .int r_4), (0, .ref o_b), (1, .int x1), (2, .int x2), (3, .int x3), (4, .int x4)]) hx hb dX4_sworn_70 hl (by decide) rfl (fun ls hl => ?_)
            exact L72  2000 _ _ b t 0 0 _ hP hD hS (lv_sub hl [3, 4, 5, 6, 7, 1, 0] rfl) hd
          · replace hd := ob_f c_60 hd
            refine lv_ldc hx hb hown kw3 dX4_sworn_63 ?_
            obtain ⟨e1, e2, e3⟩ := ob_pq hd
            subst e1
            subst e2
            subst e3
            exact ob_iret hx hb hr hlocks hP hD hS dX4_sworn_65
        · replace hd := ob_f c_41 hd
          refine lv_aload_n hx hb dX4_sworn_44 rfl (lv_at hl 1 rfl) ?_
          refine lv_iload hx hb dX4_sworn_45 (lv_at hl 0 rfl) ?_
          obtain ⟨r_5, b_6, hc_47, hd⟩ := ob_s2 hd
          refine ob_Vi (isC := [0, 1]) (isR := [2, 3, 4, 5, 6, 7, 8, 9, 10, 11, 12, 13, 14, 15, 16]) (is2 := [15, 16, 0, 1, 2, 3, 4, 5, 6, 7, 8, 9, 10, 11, 12, 13, 14]) (wc := (ob_w4 o_b a_b cI b)) (wr := (List.filterMap (fun i => (ob_w4 o_b a_b cI b ++ ob_wr (a_b 0) cW 8 g_g ++ ob_w2 o_w a_w cI w ++ ob_w1 (a_b 2) a_y cI y ++ ob_w1 (a_b 3) a_t cI t)[i]?) [2, 3, 4, 5, 6, 7, 8, 9, 10, 11, 12, 13, 14, 15, 16])) (w1 := (ob_w4 o_b a_b cI b_6)) (w2 := (ob_w4 o_b a_b cI b_6 ++ ob_wr (a_b 0) cW 8 g_g ++ ob_w2 o_w a_w cI w ++ ob_w1 (a_b 2) a_y cI y ++ ob_w1 (a_b 3) a_t cI t)) (b := o_b) (As := [.int r_4]) (rest := []) ⟨hx, hb, hml, hown, hts⟩ (mt_X4_found l dC dI cI cZ cR cW xs _ o_b a_b b r_4 r_5 b_6 hc_47) (cwV 1 hts gX4_sworn_X4_found rfl rfl rfl (by decide +kernel) ⟨Nat.le_of_ble_eq_true rfl, Nat.le_of_ble_eq_true rfl⟩) hK hE hP hD hS hA ⟨rfl, rfl, rfl, rfl, rfl, rfl, rfl⟩ 4 0 rfl rfl rfl hl rfl rfl (Nat.le_of_ble_eq_true rfl) ⟨Nat.le_of_ble_eq_true rfl, Nat.le_of_ble_eq_true rfl⟩ dX4_sworn_47 (fun H locs hP hD hS => ?_)
          refine W.widen (k := 0) (n := 0) (Nat.le_refl _) (Nat.le_refl _) ?_
          obtain ⟨e1, e2, e3⟩ := ob_pq hd
          subst e1
          subst e2
          subst e3
          exact ob_iret hx hb hr hlocks hP hD hS dX4_sworn_50
      · replace hd := ob_t c_23 hd
        refine lv_ldc hx hb hown kw0 dX4_sworn_26 ?_
        obtain ⟨e1, e2, e3⟩ := ob_pq hd
        subst e1
        subst e2
        subst e3
        exact ob_iret hx hb hr hlocks hP hD hS dX4_sworn_28

def fd_X4_who_L124  (b : ob_B) (w : ob_B) (y : ob_B) (t : ob_B) (z6 : Int32) : Option (Int32 × ob_B × ob_B) := ob_b2 (fd_X4_unfound b z6) (fun r_15 b_16 => some (r_15, b_16, t))
def fd_X4_who_L57  : Nat → ob_B → ob_B → ob_B → ob_B → Int32 → Int32 → Int32 → Int32 → Int32 → Int32 → Option (Int32 × ob_B × ob_B)
  | 0, _, _, _, _, _, _, _, _, _, _ => none
  | fu + 1, b, w, y, t, x1, x2, x3, x4, z6, z7 => if 6 ≤ z7 then (fd_X4_who_L124 b w y t z6) else (ob_b1 (fd_X1_become t y) (fun t_7 => if x1 < 0 ∨ 7 ≤ Int32.toNatClampNeg x1 then none else (ob_lt (ob_A t_7 7 (upd (t_7.2 7) (Int32.toNatClampNeg x1) z7) : ob_B) (fun t_8 => if x2 < 0 ∨ 8 ≤ Int32.toNatClampNeg x2 then none else (ob_b2 (fd_X1_goesAlong t_8 w x3 x4) (fun r_9 t_10 => if r_9 = 0 then (ob_lt (z6 ||| 0 : Int32) (fun x_11 => ob_lt (z7 + 1 : Int32) (fun x_12 => fd_X4_who_L57 fu b w y t_10 x1 x2 x3 x4 x_11 x_12))) else (ob_lt (z6 ||| (1 <<< (z7 &&& 31)) : Int32) (fun x_13 => ob_lt (z7 + 1 : Int32) (fun x_14 => fd_X4_who_L57 fu b w y t_10 x1 x2 x3 x4 x_13 x_14)))))))))
def fd_X4_who  (b : ob_B) (w : ob_B) (y : ob_B) (t : ob_B) (x1 : Int32) (x2 : Int32) (x3 : Int32) (x4 : Int32) : Option (Int32 × ob_B × ob_B) := ob_b1 (fd_X4_isOath b y x1) (fun r_1 => if r_1 = 0 then (some ((-1000001), b, t)) else (ob_b1 (fd_X4_isRow x2) (fun r_2 => if r_2 = 0 then (some ((-1000001), b, t)) else (ob_b1 (fd_X4_isWithin x4 1 12) (fun r_3 => if r_3 = 0 then (some ((-1000001), b, t)) else (ob_b1 (fd_X4_findingOf b w x2 x3 x4) (fun r_4 => if r_4 = 0 then (fd_X4_who_L57 2000 b w y t x1 x2 x3 x4 0 1) else (ob_b2 (fd_X4_found b r_4) (fun r_5 b_6 => some (r_5, b_6, t))))))))))
set_option maxHeartbeats 4000000 in
set_option maxRecDepth 100000 in
theorem mt_X4_who (l : Launch) (dC : Nat → ClassId) (dI : Nat → Nat → Nat) (cI cZ cR cW : ClassId) (xs : Nat → Nat) (sz : Nat) (o_b : Nat) (a_b : Nat → Nat) (g_g : Nat → Option Nat) (o_w : Nat) (a_w : Nat → Nat) (a_y : Nat → Nat) (a_t : Nat → Nat) (b : ob_B) (w : ob_B) (y : ob_B) (t : ob_B) (x1 : Int32) (x2 : Int32) (x3 : Int32) (x4 : Int32) (hg : ¬ (x2 < 0 ∨ 8 ≤ Int32.toNatClampNeg x2) → g_g (Int32.toNatClampNeg x2) = some o_w) (rr : Int32) (b' : ob_B) (t' : ob_B) (hd : fd_X4_who b w y t x1 x2 x3 x4 = some (rr, b', t')) : ob_M l yX4_who wsX4_who ({ frames := 5, cells := 0, slots := 0, locals := 114 } : Room) (dC, dI) (ob_ty cI cZ cR cW) xs [.ref o_b, .int x1, .int x2, .int x3, .int x4] (ob_w4 o_b a_b cI b ++ ob_wr (a_b 0) cW 8 g_g ++ ob_w2 o_w a_w cI w ++ ob_w1 (a_b 2) a_y cI y ++ ob_w1 (a_b 3) a_t cI t) sz (ob_Qi (dC, dI) rr (ob_w4 o_b a_b cI b' ++ ob_wr (a_b 0) cW 8 g_g ++ ob_w2 o_w a_w cI w ++ ob_w1 (a_b 2) a_y cI y ++ ob_w1 (a_b 3) a_t cI t')) := by
  rw [fd_X4_who] at hd
  refine ob_in (cc := cX4_who) (maxL := 8) (ret := (some .int)) (own := RX4) (by decide) rfl rfl [(0, .ref o_b), (1, .int x1), (2, .int x2), (3, .int x3), (4, .int x4)] rfl (Nat.le_of_ble_eq_true rfl) ?_
  intro p e s m below meth c hx hb hr hml hown hts hlocks hnm hK A hA hE hP hD hS ls hl
  have kw0 := hts (.constant RX4 62 (-1000001)) (by decide +kernel)
  have kw1 := hts (.fieldLink RX4 29 "OathCoach" "trial" "LOathCoach$Route;") (by decide +kernel)
  have kw2 := hts (.fieldLink RX4 25 "OathCoach" "route" "LOathCoach$Route;") (by decide +kernel)
  have kw3 := hts (.fieldLink RX4 213 "OathCoach$Route" "kind" "[I") (by decide +kernel)
  have kw4 := hts (.fieldLink RX4 11 "OathCoach" "rows" "[LOathCoach$Row;") (by decide +kernel)
  have hi_X1 : ∀ w ∈ u_ws RX1 TX1 12, w ∈ wsX4_who := by decide +kernel
  have hi_X4 : ∀ w ∈ u_ws RX4 TX4 10, w ∈ wsX4_who := by decide +kernel
  have L124 : ∀ (H : Heap) (locs : List Loc) (b : ob_B) (t : ob_B) (z6 : Int32) (ls : Array Slot), va_P (dC, dI) vwCl (ob_w4 o_b a_b cI b ++ ob_wr (a_b 0) cW 8 g_g ++ ob_w2 o_w a_w cI w ++ ob_w1 (a_b 2) a_y cI y ++ ob_w1 (a_b 3) a_t cI t) H → va_D A (ob_w4 o_b a_b cI b ++ ob_wr (a_b 0) cW 8 g_g ++ ob_w2 o_w a_w cI w ++ ob_w1 (a_b 2) a_y cI y ++ ob_w1 (a_b 3) a_t cI t) → va_S A s.heap H locs → lv_has ls 8 [(0, .ref o_b), (6, .int z6)] → fd_X4_who_L124 b w y t z6 = some (rr, b', t') → W p l e ({ frames := 5, cells := 0, slots := 0, locals := 114 } : Room) s m (List.toArray [.ref o_b, .int x1, .int x2, .int x3, .int x4]) below meth c H locs 0 0 (MQ below ((ob_Qi (dC, dI) rr (ob_w4 o_b a_b cI b' ++ ob_wr (a_b 0) cW 8 g_g ++ ob_w2 o_w a_w cI w ++ ob_w1 (a_b 2) a_y cI y ++ ob_w1 (a_b 3) a_t cI t')) A) (List.toArray [.ref o_b, .int x1, .int x2, .int x3, .int x4]) s 0 0 A) (F0 m 124 ls []) := by
    intro  H locs b t z6 ls hP hD hS hl hd
    rw [fd_X4_who_L124] at hd
    refine lv_aload_n hx hb dX4_who_124 rfl (lv_at hl 0 rfl) ?_
    refine lv_iload hx hb dX4_who_125 (lv_at hl 1 rfl) ?_
    obtain ⟨r_15, b_16, hc_127, hd⟩ := ob_s2 hd
    refine ob_Vi (isC := [0, 1]) (isR := [2, 3, 4, 5, 6, 7, 8, 9, 10, 11, 12, 13, 14, 15, 16]) (is2 := [15, 16, 0, 1, 2, 3, 4, 5, 6, 7, 8, 9, 10, 11, 12, 13, 14]) (wc := (ob_w4 o_b a_b cI b)) (wr := (List.filterMap (fun i => (ob_w4 o_b a_b cI b ++ ob_wr (a_b 0) cW 8 g_g ++ ob_w2 o_w a_w cI w ++ ob_w1 (a_b 2) a_y cI y ++ ob_w1 (a_b 3) a_t cI t)[i]?) [2, 3, 4, 5, 6, 7, 8, 9, 10, 11, 12, 13, 14, 15, 16])) (w1 := (ob_w4 o_b a_b cI b_16)) (w2 := (ob_w4 o_b a_b cI b_16 ++ ob_wr (a_b 0) cW 8 g_g ++ ob_w2 o_w a_w cI w ++ ob_w1 (a_b 2) a_y cI y ++ ob_w1 (a_b 3) a_t cI t)) (b := o_b) (As := [.int z6]) (rest := []) ⟨hx, hb, hml, hown, hts⟩ (mt_X4_unfound l dC dI cI cZ cR cW xs _ o_b a_b b z6 r_15 b_16 hc_127) (cwV 1 hts gX4_who_X4_unfound rfl rfl rfl (by decide +kernel) ⟨Nat.le_of_ble_eq_true rfl, Nat.le_of_ble_eq_true rfl⟩) hK hE hP hD hS hA ⟨rfl, rfl, rfl, rfl, rfl, rfl, rfl⟩ 4 0 rfl rfl rfl hl rfl rfl (Nat.le_of_ble_eq_true rfl) ⟨Nat.le_of_ble_eq_true rfl, Nat.le_of_ble_eq_true rfl⟩ dX4_who_127 (fun H locs hP hD hS => ?_)
    refine W.widen (k := 0) (n := 0) (Nat.le_refl _) (Nat.le_refl _) ?_
    obtain ⟨e1, e2, e3⟩ := ob_pq hd
    subst e1
    subst e2
    subst e3
    exact ob_iret hx hb hr hlocks hP hD hS dX4_who_130
  have L57 : ∀  (fu : Nat), ∀ (H : Heap) (locs : List Loc) (b : ob_B) (t : ob_B) (z6 : Int32) (z7 : Int32) (ls : Array Slot), va_P (dC, dI) vwCl (ob_w4 o_b a_b cI b ++ ob_wr (a_b 0) cW 8 g_g ++ ob_w2 o_w a_w cI w ++ ob_w1 (a_b 2) a_y cI y ++ ob_w1 (a_b 3) a_t cI t) H → va_D A (ob_w4 o_b a_b cI b ++ ob_wr (a_b 0) cW 8 g_g ++ ob_w2 o_w a_w cI w ++ ob_w1 (a_b 2) a_y cI y ++ ob_w1 (a_b 3) a_t cI t) → va_S A s.heap H locs → lv_has ls 8 [(0, .ref o_b), (1, .int x1), (2, .int x2), (3, .int x3), (4, .int x4), (6, .int z6), (7, .int z7)] → fd_X4_who_L57 fu b w y t x1 x2 x3 x4 z6 z7 = some (rr, b', t') → W p l e ({ frames := 5, cells := 0, slots := 0, locals := 114 } : Room) s m (List.toArray [.ref o_b, .int x1, .int x2, .int x3, .int x4]) below meth c H locs 0 0 (MQ below ((ob_Qi (dC, dI) rr (ob_w4 o_b a_b cI b' ++ ob_wr (a_b 0) cW 8 g_g ++ ob_w2 o_w a_w cI w ++ ob_w1 (a_b 2) a_y cI y ++ ob_w1 (a_b 3) a_t cI t')) A) (List.toArray [.ref o_b, .int x1, .int x2, .int x3, .int x4]) s 0 0 A) (F0 m 57 ls []) := by
    intro  fu
    induction fu with
    | zero =>
      intro H locs b t z6 z7 ls hP hD hS hl hd
      rw [fd_X4_who_L57] at hd
      cases hd
    | succ fu ih =>
      intro H locs b t z6 z7 ls hP hD hS hl hd
      rw [fd_X4_who_L57] at hd
      refine lv_iload hx hb dX4_who_57 (lv_at hl 6 rfl) ?_
      refine lv_bipush (v := 6) hx hb dX4_who_59 (by decide) ?_
      refine lv_icmp_ge (tgt := 124) hx hb dX4_who_61 (by decide) (fun c_61 => ?_) (fun c_61 => ?_)
      · replace hd := ob_t c_61 hd
        exact L124   _ _ b t z6 _ hP hD hS (lv_sub hl [0, 5] rfl) hd
      · replace hd := ob_f c_61 hd
        refine lv_aload_n hx hb dX4_who_64 rfl (lv_at hl 0 rfl) ?_
        refine va_get (D := (dC, dI)) (ci := 4) (v := .ref (a_b 3)) (C := RX4) (T := TX4) (N := 10) hx hb hts hi_X4 hown hK hP 0 rfl rfl 3 (by decide) kw1 (fun _ h9 => h9) rfl dX4_who_65 ?_
        refine lv_aload_n hx hb dX4_who_68 rfl (lv_at hl 0 rfl) ?_
        refine va_get (D := (dC, dI)) (ci := 4) (v := .ref (a_b 2)) (C := RX4) (T := TX4) (N := 10) hx hb hts hi_X4 hown hK hP 0 rfl rfl 2 (by decide) kw2 (fun _ h9 => h9) rfl dX4_who_69 ?_
        obtain ⟨t_7, hc_72, hd⟩ := ob_s1 hd
        refine ob_Vv (isC := [11, 12, 13, 14, 15, 16, 5, 6, 7, 8, 9, 10]) (isR := [0, 1, 2, 3, 4]) (is2 := [0, 1, 2, 3, 4, 11, 12, 13, 14, 15, 16, 5, 6, 7, 8, 9, 10]) (wc := (ob_w1 (a_b 3) a_t cI t ++ ob_w1 (a_b 2) a_y cI y)) (wr := (List.filterMap (fun i => (ob_w4 o_b a_b cI b ++ ob_wr (a_b 0) cW 8 g_g ++ ob_w2 o_w a_w cI w ++ ob_w1 (a_b 2) a_y cI y ++ ob_w1 (a_b 3) a_t cI t)[i]?) [0, 1, 2, 3, 4])) (w1 := (ob_w1 (a_b 3) a_t cI t_7 ++ ob_w1 (a_b 2) a_y cI y)) (w2 := (ob_w4 o_b a_b cI b ++ ob_wr (a_b 0) cW 8 g_g ++ ob_w2 o_w a_w cI w ++ ob_w1 (a_b 2) a_y cI y ++ ob_w1 (a_b 3) a_t cI t_7)) (b := (a_b 3)) (As := [.ref (a_b 2)]) (rest := []) ⟨hx, hb, hml, hown, hts⟩ (mt_X1_become l dC dI cI cZ cR cW xs _ ((a_b 3)) a_t ((a_b 2)) a_y t y t_7 hc_72) (cwV 1 hts gX4_who_X1_become rfl rfl rfl (by decide +kernel) ⟨Nat.le_of_ble_eq_true rfl, Nat.le_of_ble_eq_true rfl⟩) hK hE hP hD hS hA ⟨rfl, rfl, rfl, rfl, rfl, rfl, rfl⟩ 1 0 rfl rfl rfl hl rfl rfl (Nat.le_of_ble_eq_true rfl) ⟨Nat.le_of_ble_eq_true rfl, Nat.le_of_ble_eq_true rfl⟩ dX4_who_72 (fun H locs hP hD hS => ?_)
        refine W.widen (k := 0) (n := 0) (Nat.le_refl _) (Nat.le_refl _) ?_
        refine lv_aload_n hx hb dX4_who_75 rfl (lv_at hl 0 rfl) ?_
        refine va_get (D := (dC, dI)) (ci := 4) (v := .ref (a_b 3)) (C := RX4) (T := TX4) (N := 10) hx hb hts hi_X4 hown hK hP 0 rfl rfl 3 (by decide) kw1 (fun _ h9 => h9) rfl dX4_who_76 ?_
        refine va_get (D := (dC, dI)) (ci := 1) (v := .ref (a_t 7)) (C := RX1) (T := TX1) (N := 12) hx hb hts hi_X1 hown hK hP 11 rfl rfl 7 (by decide) kw3 (fun _ h9 => h9) rfl dX4_who_79 ?_
        refine lv_iload_n hx hb dX4_who_82 rfl (lv_at hl 1 rfl) ?_
        refine lv_iload hx hb dX4_who_83 (lv_at hl 6 rfl) ?_
        obtain ⟨h1_85, hd⟩ := ob_nn hd
        refine va_iast hx hb hK hP hD hS 12 0 rfl rfl h1_85 dX4_who_85 (fun H locs hP hD hS => ?_)
        obtain ⟨t_8, et_8⟩ : ∃ z : ob_B, z = ob_A t_7 7 (upd (t_7.2 7) (Int32.toNatClampNeg x1) z7) := ⟨_, rfl⟩
        replace hd := ob_lx et_8 hd
        replace hP : va_P (dC, dI) vwCl (ob_w4 o_b a_b cI b ++ ob_wr (a_b 0) cW 8 g_g ++ ob_w2 o_w a_w cI w ++ ob_w1 (a_b 2) a_y cI y ++ ob_w1 (a_b 3) a_t cI t_8) H := by rw [et_8]; exact hP
        replace hD : va_D A (ob_w4 o_b a_b cI b ++ ob_wr (a_b 0) cW 8 g_g ++ ob_w2 o_w a_w cI w ++ ob_w1 (a_b 2) a_y cI y ++ ob_w1 (a_b 3) a_t cI t_8) := by rw [et_8]; exact hD
        clear et_8
        refine lv_iload hx hb dX4_who_86 (lv_at hl 5 rfl) ?_
        refine lv_aload_n hx hb dX4_who_88 rfl (lv_at hl 0 rfl) ?_
        refine va_get (D := (dC, dI)) (ci := 4) (v := .ref (a_b 3)) (C := RX4) (T := TX4) (N := 10) hx hb hts hi_X4 hown hK hP 0 rfl rfl 3 (by decide) kw1 (fun _ h9 => h9) rfl dX4_who_89 ?_
        refine lv_aload_n hx hb dX4_who_92 rfl (lv_at hl 0 rfl) ?_
        refine va_get (D := (dC, dI)) (ci := 4) (v := .ref (a_b 0)) (C := RX4) (T := TX4) (N := 10) hx hb hts hi_X4 hown hK hP 0 rfl rfl 0 (by decide) kw4 (fun _ h9 => h9) rfl dX4_who_93 ?_
        refine lv_iload_n hx hb dX4_who_96 rfl (lv_at hl 2 rfl) ?_
        obtain ⟨h1_97, hd⟩ := ob_nn hd
        refine va_aldq hx hb hK hP 2 3 rfl rfl h1_97 dX4_who_97 ?_
        refine ob_rf (hg h1_97) ?_
        refine lv_iload_n hx hb dX4_who_98 rfl (lv_at hl 3 rfl) ?_
        refine lv_iload hx hb dX4_who_99 (lv_at hl 4 rfl) ?_
        obtain ⟨r_9, t_10, hc_101, hd⟩ := ob_s2 hd
        refine ob_Vi (isC := [11, 12, 13, 14, 15, 16, 3, 4]) (isR := [0, 1, 2, 5, 6, 7, 8, 9, 10]) (is2 := [0, 1, 2, 15, 16, 3, 4, 5, 6, 7, 8, 9, 10, 11, 12, 13, 14]) (wc := (ob_w1 (a_b 3) a_t cI t_8 ++ ob_w2 o_w a_w cI w)) (wr := (List.filterMap (fun i => (ob_w4 o_b a_b cI b ++ ob_wr (a_b 0) cW 8 g_g ++ ob_w2 o_w a_w cI w ++ ob_w1 (a_b 2) a_y cI y ++ ob_w1 (a_b 3) a_t cI t_8)[i]?) [0, 1, 2, 5, 6, 7, 8, 9, 10])) (w1 := (ob_w1 (a_b 3) a_t cI t_10 ++ ob_w2 o_w a_w cI w)) (w2 := (ob_w4 o_b a_b cI b ++ ob_wr (a_b 0) cW 8 g_g ++ ob_w2 o_w a_w cI w ++ ob_w1 (a_b 2) a_y cI y ++ ob_w1 (a_b 3) a_t cI t_10)) (b := (a_b 3)) (As := [.ref o_w, .int x3, .int x4]) (rest := [.int z6]) ⟨hx, hb, hml, hown, hts⟩ (mt_X1_goesAlong l dC dI cI cZ cR cW xs _ ((a_b 3)) a_t o_w a_w t_8 w x3 x4 r_9 t_10 hc_101) (cwV 3 hts gX4_who_X1_goesAlong rfl rfl rfl (by decide +kernel) ⟨Nat.le_of_ble_eq_true rfl, Nat.le_of_ble_eq_true rfl⟩) hK hE hP hD hS hA ⟨rfl, rfl, rfl, rfl, rfl, rfl, rfl⟩ 1 0 rfl rfl rfl hl rfl rfl (Nat.le_of_ble_eq_true rfl) ⟨Nat.le_of_ble_eq_true rfl, Nat.le_of_ble_eq_true rfl⟩ dX4_who_101 (fun H locs hP hD hS => ?_)
        refine W.widen (k := 0) (n := 0) (Nat.le_refl _) (Nat.le_refl _) ?_
        refine lv_if_eq (tgt := 114) hx hb dX4_who_104 (by decide) (fun c_104 => ?_) (fun c_104 => ?_)
        · replace hd := ob_t c_104 hd
          refine lv_iconst (v := 0) hx hb dX4_who_114 (by decide) ?_
          refine lv_ior hx hb dX4_who_115 ?_
          refine lv_topi (fun x_11 ex_11 => ?_)
          replace hd := ob_lx ex_11 hd
          clear ex_11
          refine lv_istore (lv' := [(6, .int x_11), (0, .ref o_b), (1, .int x1), (2, .int x2), (3, .int x3), (4, .int x4), (7, .int z7)]) hx hb dX4_who_116 hl (by decide) rfl (fun ls hl => ?_)
          obtain ⟨x_12, ex_12⟩ : ∃ z : Int32, z = z7 + 1 := ⟨_, rfl⟩
          replace hd := ob_lx ex_12 hd
          refine lv_iinc (v := x_12) (lv' := [(7, .int x_12), (6, .int x_11), (0, .ref o_b), (1, .int x1), (2, .int x2), (3, .int x3), (4, .int x4)]) hx hb dX4_who_118 hl (k := 6) rfl (by rw [ex_12]; rfl) (by decide) rfl (fun ls hl => ?_)
          clear ex_12
          refine lv_goto (tgt := 57) hx hb dX4_who_121 (by decide) ?_
          exact ih _ _ b t_10 x_11 x_12 _ hP hD hS (lv_sub hl [2, 3, 4, 5, 6, 1, 0] rfl) hd
        · replace hd := ob_f c_104 hd
          refine lv_iconst (v := 1) hx hb dX4_who_107 (by decide) ?_
          refine lv_iload hx hb dX4_who_108 (lv_at hl 6 rfl) ?_
          refine lv_ishl hx hb dX4_who_110 ?_
          refine lv_goto (tgt := 115) hx hb dX4_who_111 (by decide) ?_
          refine lv_ior hx hb dX4_who_115 ?_
          refine lv_topi (fun x_13 ex_13 => ?_)
          replace hd := ob_lx ex_13 hd
          clear ex_13
          refine lv_istore (lv' := [(6, .int x_13), (0, .ref o_b), (1, .int x1), (2, .int x2), (3, .int x3), (4, .int x4), (7, .int z7)]) hx hb dX4_who_116 hl (by decide) rfl (fun ls hl => ?_)
          obtain ⟨x_14, ex_14⟩ : ∃ z : Int32, z = z7 + 1 := ⟨_, rfl⟩
          replace hd := ob_lx ex_14 hd
          refine lv_iinc (v := x_14) (lv' := [(7, .int x_14), (6, .int x_13), (0, .ref o_b), (1, .int x1), (2, .int x2), (3, .int x3), (4, .int x4)]) hx hb dX4_who_118 hl (k := 6) rfl (by rw [ex_14]; rfl) (by decide) rfl (fun ls hl => ?_)
          clear ex_14
          refine lv_goto (tgt := 57) hx hb dX4_who_121 (by decide) ?_
          exact ih _ _ b t_10 x_13 x_14 _ hP hD hS (lv_sub hl [2, 3, 4, 5, 6, 1, 0] rfl) hd
  refine lv_aload_n hx hb dX4_who_0 rfl (lv_at hl 0 rfl) ?_
  refine lv_iload_n hx hb dX4_who_1 rfl (lv_at hl 1 rfl) ?_
  obtain ⟨r_1, hc_2, hd⟩ := ob_s1 hd
  refine ob_Vi (isC := [0, 1, 5, 6, 7, 8, 9, 10]) (isR := [2, 3, 4, 11, 12, 13, 14, 15, 16]) (is2 := [9, 10, 0, 1, 2, 11, 12, 13, 14, 15, 16, 3, 4, 5, 6, 7, 8]) (wc := (ob_w4 o_b a_b cI b ++ ob_w1 (a_b 2) a_y cI y)) (wr := (List.filterMap (fun i => (ob_w4 o_b a_b cI b ++ ob_wr (a_b 0) cW 8 g_g ++ ob_w2 o_w a_w cI w ++ ob_w1 (a_b 2) a_y cI y ++ ob_w1 (a_b 3) a_t cI t)[i]?) [2, 3, 4, 11, 12, 13, 14, 15, 16])) (w1 := (ob_w4 o_b a_b cI b ++ ob_w1 (a_b 2) a_y cI y)) (w2 := (ob_w4 o_b a_b cI b ++ ob_wr (a_b 0) cW 8 g_g ++ ob_w2 o_w a_w cI w ++ ob_w1 (a_b 2) a_y cI y ++ ob_w1 (a_b 3) a_t cI t)) (b := o_b) (As := [.int x1]) (rest := []) ⟨hx, hb, hml, hown, hts⟩ (mt_X4_isOath l dC dI cI cZ cR cW xs _ o_b a_b a_y b y x1 r_1 hc_2) (cwV 1 hts gX4_who_X4_isOath rfl rfl rfl (by decide +kernel) ⟨Nat.le_of_ble_eq_true rfl, Nat.le_of_ble_eq_true rfl⟩) hK hE hP hD hS hA ⟨rfl, rfl, rfl, rfl, rfl, rfl, rfl⟩ 4 0 rfl rfl rfl hl rfl rfl (Nat.le_of_ble_eq_true rfl) ⟨Nat.le_of_ble_eq_true rfl, Nat.le_of_ble_eq_true rfl⟩ dX4_who_2 (fun H locs hP hD hS => ?_)
  refine W.widen (k := 0) (n := 0) (Nat.le_refl _) (Nat.le_refl _) ?_
  refine lv_if_eq (tgt := 26) hx hb dX4_who_5 (by decide) (fun c_5 => ?_) (fun c_5 => ?_)
  · replace hd := ob_t c_5 hd
    refine lv_ldc hx hb hown kw0 dX4_who_26 ?_
    obtain ⟨e1, e2, e3⟩ := ob_pq hd
    subst e1
    subst e2
    subst e3
    exact ob_iret hx hb hr hlocks hP hD hS dX4_who_28
  · replace hd := ob_f c_5 hd
    refine lv_iload_n hx hb dX4_who_8 rfl (lv_at hl 2 rfl) ?_
    obtain ⟨r_2, hc_9, hd⟩ := ob_s1 hd
    refine ob_Si (isC := []) (isR := [0, 1, 2, 3, 4, 5, 6, 7, 8, 9, 10, 11, 12, 13, 14, 15, 16]) (is2 := [0, 1, 2, 3, 4, 5, 6, 7, 8, 9, 10, 11, 12, 13, 14, 15, 16]) (wc := ([] : va_W)) (wr := (List.filterMap (fun i => (ob_w4 o_b a_b cI b ++ ob_wr (a_b 0) cW 8 g_g ++ ob_w2 o_w a_w cI w ++ ob_w1 (a_b 2) a_y cI y ++ ob_w1 (a_b 3) a_t cI t)[i]?) [0, 1, 2, 3, 4, 5, 6, 7, 8, 9, 10, 11, 12, 13, 14, 15, 16])) (w1 := ([] : va_W)) (w2 := (ob_w4 o_b a_b cI b ++ ob_wr (a_b 0) cW 8 g_g ++ ob_w2 o_w a_w cI w ++ ob_w1 (a_b 2) a_y cI y ++ ob_w1 (a_b 3) a_t cI t)) (As := [.int x2]) (rest := []) ⟨hx, hb, hml, hown, hts⟩ (mt_X4_isRow l dC dI cI cZ cR cW xs _ x2 r_2 hc_9) (va_cwS 1 hts gX4_who_X4_isRow rfl rfl rfl (by decide +kernel) ⟨Nat.le_of_ble_eq_true rfl, Nat.le_of_ble_eq_true rfl⟩) hK hE hP hD hS hA ⟨rfl, rfl, rfl, rfl, rfl, rfl, rfl⟩ hl rfl rfl (Nat.le_of_ble_eq_true rfl) ⟨Nat.le_of_ble_eq_true rfl, Nat.le_of_ble_eq_true rfl⟩ dX4_who_9 (fun H locs hP hD hS => ?_)
    refine W.widen (k := 0) (n := 0) (Nat.le_refl _) (Nat.le_refl _) ?_
    refine lv_if_eq (tgt := 26) hx hb dX4_who_12 (by decide) (fun c_12 => ?_) (fun c_12 => ?_)
    · replace hd := ob_t c_12 hd
      refine lv_ldc hx hb hown kw0 dX4_who_26 ?_
      obtain ⟨e1, e2, e3⟩ := ob_pq hd
      subst e1
      subst e2
      subst e3
      exact ob_iret hx hb hr hlocks hP hD hS dX4_who_28
    · replace hd := ob_f c_12 hd
      refine lv_iload hx hb dX4_who_15 (lv_at hl 4 rfl) ?_
      refine lv_iconst (v := 1) hx hb dX4_who_17 (by decide) ?_
      refine lv_bipush (v := 12) hx hb dX4_who_18 (by decide) ?_
      obtain ⟨r_3, hc_20, hd⟩ := ob_s1 hd
      refine ob_Si (isC := []) (isR := [0, 1, 2, 3, 4, 5, 6, 7, 8, 9, 10, 11, 12, 13, 14, 15, 16]) (is2 := [0, 1, 2, 3, 4, 5, 6, 7, 8, 9, 10, 11, 12, 13, 14, 15, 16]) (wc := ([] : va_W)) (wr := (List.filterMap (fun i => (ob_w4 o_b a_b cI b ++ ob_wr (a_b 0) cW 8 g_g ++ ob_w2 o_w a_w cI w ++ ob_w1 (a_b 2) a_y cI y ++ ob_w1 (a_b 3) a_t cI t)[i]?) [0, 1, 2, 3, 4, 5, 6, 7, 8, 9, 10, 11, 12, 13, 14, 15, 16])) (w1 := ([] : va_W)) (w2 := (ob_w4 o_b a_b cI b ++ ob_wr (a_b 0) cW 8 g_g ++ ob_w2 o_w a_w cI w ++ ob_w1 (a_b 2) a_y cI y ++ ob_w1 (a_b 3) a_t cI t)) (As := [.int x4, .int 1, .int 12]) (rest := []) ⟨hx, hb, hml, hown, hts⟩ (mt_X4_isWithin l dC dI cI cZ cR cW xs _ x4 1 12 r_3 hc_20) (va_cwS 3 hts gX4_who_X4_isWithin rfl rfl rfl (by decide +kernel) ⟨Nat.le_of_ble_eq_true rfl, Nat.le_of_ble_eq_true rfl⟩) hK hE hP hD hS hA ⟨rfl, rfl, rfl, rfl, rfl, rfl, rfl⟩ hl rfl rfl (Nat.le_of_ble_eq_true rfl) ⟨Nat.le_of_ble_eq_true rfl, Nat.le_of_ble_eq_true rfl⟩ dX4_who_20 (fun H locs hP hD hS => ?_)
      refine W.widen (k := 0) (n := 0) (Nat.le_refl _) (Nat.le_refl _) ?_
      refine lv_if_ne (tgt := 29) hx hb dX4_who_23 (by decide) (fun c_23 => ?_) (fun c_23 => ?_)
      · replace hd := ob_f c_23 hd
        refine lv_aload_n hx hb dX4_who_29 rfl (lv_at hl 0 rfl) ?_
        refine lv_iload_n hx hb dX4_who_30 rfl (lv_at hl 2 rfl) ?_
        refine lv_iload_n hx hb dX4_who_31 rfl (lv_at hl 3 rfl) ?_
        refine lv_iload hx hb dX4_who_32 (lv_at hl 4 rfl) ?_
        obtain ⟨r_4, hc_34, hd⟩ := ob_s1 hd
        refine ob_Vi (isC := [0, 1, 2, 3, 4]) (isR := [5, 6, 7, 8, 9, 10, 11, 12, 13, 14, 15, 16]) (is2 := [12, 13, 14, 15, 16, 0, 1, 2, 3, 4, 5, 6, 7, 8, 9, 10, 11]) (wc := (ob_w4 o_b a_b cI b ++ ob_wr (a_b 0) cW 8 g_g ++ ob_w2 o_w a_w cI w)) (wr := (List.filterMap (fun i => (ob_w4 o_b a_b cI b ++ ob_wr (a_b 0) cW 8 g_g ++ ob_w2 o_w a_w cI w ++ ob_w1 (a_b 2) a_y cI y ++ ob_w1 (a_b 3) a_t cI t)[i]?) [5, 6, 7, 8, 9, 10, 11, 12, 13, 14, 15, 16])) (w1 := (ob_w4 o_b a_b cI b ++ ob_wr (a_b 0) cW 8 g_g ++ ob_w2 o_w a_w cI w)) (w2 := (ob_w4 o_b a_b cI b ++ ob_wr (a_b 0) cW 8 g_g ++ ob_w2 o_w a_w cI w ++ ob_w1 (a_b 2) a_y cI y ++ ob_w1 (a_b 3) a_t cI t)) (b := o_b) (As := [.int x2, .int x3, .int x4]) (rest := []) ⟨hx, hb, hml, hown, hts⟩ (mt_X4_findingOf l dC dI cI cZ cR cW xs _ o_b a_b g_g o_w a_w b w x2 x3 x4 hg r_4 hc_34) (cwV 3 hts gX4_who_X4_findingOf rfl rfl rfl (by decide +kernel) ⟨Nat.le_of_ble_eq_true rfl, Nat.le_of_ble_eq_true rfl⟩) hK hE hP hD hS hA ⟨rfl, rfl, rfl, rfl, rfl, rfl, rfl⟩ 4 0 rfl rfl rfl hl rfl rfl (Nat.le_of_ble_eq_true rfl) ⟨Nat.le_of_ble_eq_true rfl, Nat.le_of_ble_eq_true rfl⟩ dX4_who_34 (fun H locs hP hD hS => ?_)
        refine W.widen (k := 0) (n := 0) (Nat.le_refl _) (Nat.le_refl _) ?_
        refine lv_istore (lv' := [(5, .int r_4), (0, .ref o_b), (1, .int x1), (2, .int x2), (3, .int x3), (4, .int x4)]) hx hb dX4_who_37 hl (by decide) rfl (fun ls hl => ?_)
        refine lv_iload hx hb dX4_who_39 (lv_at hl 0 rfl) ?_
        refine lv_if_eq (tgt := 51) hx hb dX4_who_41 (by decide) (fun c_41 => ?_) (fun c_41 => ?_)
        · replace hd := ob_t c_41 hd
          refine lv_iconst (v := 0) hx hb dX4_who_51 (by decide) ?_
          refine lv_istore (lv' := [(6, .int 0), (5, .int r_4), (0, .ref o_b), (1, .int x1), (2, .int x2), (3, .int x3), (4, .int x4)]) hx hb dX4_who_52 hl (by decide) rfl (fun ls hl => ?_)
          refine lv_iconst (v := 1) hx hb dX4_who_54 (by decide) ?_
          refine lv_istore (lv' := [(7, .int 1), (6, .int 0), (5, .int r_4), (0, .ref o_b), (1, .int x1), (2, .int x2), (3, .int x3), (4, .int x4)]) hx hb dX4_who_55 hl (by decide) rfl (fun ls hl => ?_)
          exact L57  2000 _ _ b t 0 1 _ hP hD hS (lv_sub hl [3, 4, 5, 6, 7, 1, 0] rfl) hd
        · replace hd := ob_f c_41 hd
          refine lv_aload_n hx hb dX4_who_44 rfl (lv_at hl 1 rfl) ?_
          refine lv_iload hx hb dX4_who_45 (lv_at hl 0 rfl) ?_
          obtain ⟨r_5, b_6, hc_47, hd⟩ := ob_s2 hd
          refine ob_Vi (isC := [0, 1]) (isR := [2, 3, 4, 5, 6, 7, 8, 9, 10, 11, 12, 13, 14, 15, 16]) (is2 := [15, 16, 0, 1, 2, 3, 4, 5, 6, 7, 8, 9, 10, 11, 12, 13, 14]) (wc := (ob_w4 o_b a_b cI b)) (wr := (List.filterMap (fun i => (ob_w4 o_b a_b cI b ++ ob_wr (a_b 0) cW 8 g_g ++ ob_w2 o_w a_w cI w ++ ob_w1 (a_b 2) a_y cI y ++ ob_w1 (a_b 3) a_t cI t)[i]?) [2, 3, 4, 5, 6, 7, 8, 9, 10, 11, 12, 13, 14, 15, 16])) (w1 := (ob_w4 o_b a_b cI b_6)) (w2 := (ob_w4 o_b a_b cI b_6 ++ ob_wr (a_b 0) cW 8 g_g ++ ob_w2 o_w a_w cI w ++ ob_w1 (a_b 2) a_y cI y ++ ob_w1 (a_b 3) a_t cI t)) (b := o_b) (As := [.int r_4]) (rest := []) ⟨hx, hb, hml, hown, hts⟩ (mt_X4_found l dC dI cI cZ cR cW xs _ o_b a_b b r_4 r_5 b_6 hc_47) (cwV 1 hts gX4_who_X4_found rfl rfl rfl (by decide +kernel) ⟨Nat.le_of_ble_eq_true rfl, Nat.le_of_ble_eq_true rfl⟩) hK hE hP hD hS hA ⟨rfl, rfl, rfl, rfl, rfl, rfl, rfl⟩ 4 0 rfl rfl rfl hl rfl rfl (Nat.le_of_ble_eq_true rfl) ⟨Nat.le_of_ble_eq_true rfl, Nat.le_of_ble_eq_true rfl⟩ dX4_who_47 (fun H locs hP hD hS => ?_)
          refine W.widen (k := 0) (n := 0) (Nat.le_refl _) (Nat.le_refl _) ?_
          obtain ⟨e1, e2, e3⟩ := ob_pq hd
          subst e1
          subst e2
          subst e3
          exact ob_iret hx hb hr hlocks hP hD hS dX4_who_50
      · replace hd := ob_t c_23 hd
        refine lv_ldc hx hb hown kw0 dX4_who_26 ?_
        obtain ⟨e1, e2, e3⟩ := ob_pq hd
        subst e1
        subst e2
        subst e3
        exact ob_iret hx hb hr hlocks hP hD hS dX4_who_28
