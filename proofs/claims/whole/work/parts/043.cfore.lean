def fd_X4_buyOff_L113  (b : ob_B) (y : ob_B) (t : ob_B) (x3 : Int32) (z5 : Int32) (z6 : Int32) : Option (Int32 × ob_B) := if x3 = 1 then (some (z5, t)) else (if z5 = (-1000000) then (some (z5, t)) else (some (z6, t)))
def fd_X4_buyOff_L57  : Nat → ob_B → ob_B → ob_B → Int32 → Int32 → Int32 → Int32 → Int32 → Int32 → Int32 → Option (Int32 × ob_B)
  | 0, _, _, _, _, _, _, _, _, _, _ => none
  | fu + 1, b, y, t, x1, x2, x3, z4, z5, z6, z7 => if z4 < z7 then (fd_X4_buyOff_L113 b y t x3 z5 z6) else (ob_b1 (fd_J6_bitCount_0f7a4 z7) (fun r_6 => if (z7 &&& z4) = z7 then (if z6 ≤ r_6 then (ob_lt (z7 + 1 : Int32) (fun x_8 => fd_X4_buyOff_L57 fu b y t x1 x2 x3 z4 z5 z6 x_8)) else (ob_b2 (fd_X4_placeIfBought b y t z7 x2) (fun r_9 t_10 => if r_9 = x1 then (ob_lt (z7 + 1 : Int32) (fun x_12 => fd_X4_buyOff_L57 fu b y t_10 x1 x2 x3 z4 z7 r_6 x_12)) else (ob_lt (z7 + 1 : Int32) (fun x_11 => fd_X4_buyOff_L57 fu b y t_10 x1 x2 x3 z4 z5 z6 x_11))))) else (ob_lt (z7 + 1 : Int32) (fun x_7 => fd_X4_buyOff_L57 fu b y t x1 x2 x3 z4 z5 z6 x_7))))
def fd_X4_buyOff  (b : ob_B) (y : ob_B) (t : ob_B) (x1 : Int32) (x2 : Int32) (x3 : Int32) : Option (Int32 × ob_B) := ob_b1 (fd_X4_noRoute b y) (fun r_1 => if r_1 = 0 then (ob_b1 (fd_X4_isPlace x1) (fun r_2 => if r_2 = 0 then (some ((-1000001), t)) else (ob_b1 (fd_X4_isWithin x2 1 24) (fun r_3 => if r_3 = 0 then (some ((-1000001), t)) else (ob_b1 (fd_X4_isEither x3) (fun r_4 => if r_4 = 0 then (some ((-1000001), t)) else (ob_b1 (fd_X1_openBits y) (fun r_5 => fd_X4_buyOff_L57 2000 b y t x1 x2 x3 r_5 (-1000000) 8 0)))))))) else (some ((-1000002), t)))
set_option maxHeartbeats 4000000 in
set_option maxRecDepth 100000 in
theorem mt_X4_buyOff (l : Launch) (dC : Nat → ClassId) (dI : Nat → Nat → Nat) (cI cZ cR cW : ClassId) (xs : Nat → Nat) (sz : Nat) (o_b : Nat) (a_b : Nat → Nat) (a_y : Nat → Nat) (a_t : Nat → Nat) (b : ob_B) (y : ob_B) (t : ob_B) (x1 : Int32) (x2 : Int32) (x3 : Int32)  (rr : Int32) (t' : ob_B) (hd : fd_X4_buyOff b y t x1 x2 x3 = some (rr, t')) : ob_M l yX4_buyOff wsX4_buyOff ({ frames := 6, cells := 0, slots := 0, locals := 135 } : Room) (dC, dI) (ob_ty cI cZ cR cW) xs [.ref o_b, .int x1, .int x2, .int x3] (ob_w4 o_b a_b cI b ++ ob_w1 (a_b 2) a_y cI y ++ ob_w1 (a_b 3) a_t cI t) sz (ob_Qi (dC, dI) rr (ob_w4 o_b a_b cI b ++ ob_w1 (a_b 2) a_y cI y ++ ob_w1 (a_b 3) a_t cI t')) := by
  rw [fd_X4_buyOff] at hd
  refine ob_in (cc := cX4_buyOff) (maxL := 9) (ret := (some .int)) (own := RX4) (by decide) rfl rfl [(0, .ref o_b), (1, .int x1), (2, .int x2), (3, .int x3)] rfl (Nat.le_of_ble_eq_true rfl) ?_
  intro p e s m below meth c hx hb hr hml hown hts hlocks hnm hK A hA hE hP hD hS ls hl
  have kw0 := hts (.constant RX4 62 (-1000001)) (by decide +kernel)
  have kw1 := hts (.fieldLink RX4 25 "OathCoach" "route" "LOathCoach$Route;") (by decide +kernel)
  have kw2 := hts (.constant RX4 205 (-1000000)) (by decide +kernel)
  have kw3 := hts (.constant RX4 137 (-1000002)) (by decide +kernel)
  have hi_X4 : ∀ w ∈ u_ws RX4 TX4 10, w ∈ wsX4_buyOff := by decide +kernel
  have L113 : ∀ (H : Heap) (locs : List Loc) (t : ob_B) (z5 : Int32) (z6 : Int32) (ls : Array Slot), va_P (dC, dI) vwCl (ob_w4 o_b a_b cI b ++ ob_w1 (a_b 2) a_y cI y ++ ob_w1 (a_b 3) a_t cI t) H → va_D A (ob_w4 o_b a_b cI b ++ ob_w1 (a_b 2) a_y cI y ++ ob_w1 (a_b 3) a_t cI t) → va_S A s.heap H locs → lv_has ls 9 [(3, .int x3), (5, .int z5), (6, .int z6)] → fd_X4_buyOff_L113 b y t x3 z5 z6 = some (rr, t') → W p l e ({ frames := 6, cells := 0, slots := 0, locals := 135 } : Room) s m (List.toArray [.ref o_b, .int x1, .int x2, .int x3]) below meth c H locs 0 0 (MQ below ((ob_Qi (dC, dI) rr (ob_w4 o_b a_b cI b ++ ob_w1 (a_b 2) a_y cI y ++ ob_w1 (a_b 3) a_t cI t')) A) (List.toArray [.ref o_b, .int x1, .int x2, .int x3]) s 0 0 A) (F0 m 113 ls []) := by
    intro  H locs t z5 z6 ls hP hD hS hl hd
    rw [fd_X4_buyOff_L113] at hd
    refine lv_iload_n hx hb dX4_buyOff_113 rfl (lv_at hl 0 rfl) ?_
    refine lv_iconst (v := 1) hx hb dX4_buyOff_114 (by decide) ?_
    refine lv_icmp_eq (tgt := 125) hx hb dX4_buyOff_115 (by decide) (fun c_115 => ?_) (fun c_115 => ?_)
    · replace hd := ob_t c_115 hd
      refine lv_iload hx hb dX4_buyOff_125 (lv_at hl 1 rfl) ?_
      refine lv_goto (tgt := 132) hx hb dX4_buyOff_127 (by decide) ?_
      obtain ⟨e1, e2⟩ := ob_pp hd
      subst e1
      subst e2
      exact ob_iret hx hb hr hlocks hP hD hS dX4_buyOff_132
    · replace hd := ob_f c_115 hd
      refine lv_iload hx hb dX4_buyOff_118 (lv_at hl 1 rfl) ?_
      refine lv_ldc hx hb hown kw2 dX4_buyOff_120 ?_
      refine lv_icmp_ne (tgt := 130) hx hb dX4_buyOff_122 (by decide) (fun c_122 => ?_) (fun c_122 => ?_)
      · replace hd := ob_f c_122 hd
        refine lv_iload hx hb dX4_buyOff_130 (lv_at hl 2 rfl) ?_
        obtain ⟨e1, e2⟩ := ob_pp hd
        subst e1
        subst e2
        exact ob_iret hx hb hr hlocks hP hD hS dX4_buyOff_132
      · replace hd := ob_t c_122 hd
        refine lv_iload hx hb dX4_buyOff_125 (lv_at hl 1 rfl) ?_
        refine lv_goto (tgt := 132) hx hb dX4_buyOff_127 (by decide) ?_
        obtain ⟨e1, e2⟩ := ob_pp hd
        subst e1
        subst e2
        exact ob_iret hx hb hr hlocks hP hD hS dX4_buyOff_132
  have L57 : ∀  (fu : Nat), ∀ (H : Heap) (locs : List Loc) (t : ob_B) (z4 : Int32) (z5 : Int32) (z6 : Int32) (z7 : Int32) (ls : Array Slot), va_P (dC, dI) vwCl (ob_w4 o_b a_b cI b ++ ob_w1 (a_b 2) a_y cI y ++ ob_w1 (a_b 3) a_t cI t) H → va_D A (ob_w4 o_b a_b cI b ++ ob_w1 (a_b 2) a_y cI y ++ ob_w1 (a_b 3) a_t cI t) → va_S A s.heap H locs → lv_has ls 9 [(0, .ref o_b), (1, .int x1), (2, .int x2), (3, .int x3), (4, .int z4), (5, .int z5), (6, .int z6), (7, .int z7)] → fd_X4_buyOff_L57 fu b y t x1 x2 x3 z4 z5 z6 z7 = some (rr, t') → W p l e ({ frames := 6, cells := 0, slots := 0, locals := 135 } : Room) s m (List.toArray [.ref o_b, .int x1, .int x2, .int x3]) below meth c H locs 0 0 (MQ below ((ob_Qi (dC, dI) rr (ob_w4 o_b a_b cI b ++ ob_w1 (a_b 2) a_y cI y ++ ob_w1 (a_b 3) a_t cI t')) A) (List.toArray [.ref o_b, .int x1, .int x2, .int x3]) s 0 0 A) (F0 m 57 ls []) := by
    intro  fu
    induction fu with
    | zero =>
      intro H locs t z4 z5 z6 z7 ls hP hD hS hl hd
      rw [fd_X4_buyOff_L57] at hd
      cases hd
    | succ fu ih =>
      intro H locs t z4 z5 z6 z7 ls hP hD hS hl hd
      rw [fd_X4_buyOff_L57] at hd
      refine lv_iload hx hb dX4_buyOff_57 (lv_at hl 7 rfl) ?_
      refine lv_iload hx hb dX4_buyOff_59 (lv_at hl 4 rfl) ?_
      refine lv_icmp_gt (tgt := 113) hx hb dX4_buyOff_61 (by decide) (fun c_61 => ?_) (fun c_61 => ?_)
      · replace hd := ob_t c_61 hd
        exact L113   _ _ t z5 z6 _ hP hD hS (lv_sub hl [3, 5, 6] rfl) hd
      · replace hd := ob_f c_61 hd
        refine lv_iload hx hb dX4_buyOff_64 (lv_at hl 7 rfl) ?_
        obtain ⟨r_6, hc_66, hd⟩ := ob_s1 hd
        refine ob_Si (isC := []) (isR := [0, 1, 2, 3, 4, 5, 6, 7, 8, 9, 10, 11, 12, 13]) (is2 := [0, 1, 2, 3, 4, 5, 6, 7, 8, 9, 10, 11, 12, 13]) (wc := ([] : va_W)) (wr := (List.filterMap (fun i => (ob_w4 o_b a_b cI b ++ ob_w1 (a_b 2) a_y cI y ++ ob_w1 (a_b 3) a_t cI t)[i]?) [0, 1, 2, 3, 4, 5, 6, 7, 8, 9, 10, 11, 12, 13])) (w1 := ([] : va_W)) (w2 := (ob_w4 o_b a_b cI b ++ ob_w1 (a_b 2) a_y cI y ++ ob_w1 (a_b 3) a_t cI t)) (As := [.int z7]) (rest := []) ⟨hx, hb, hml, hown, hts⟩ (mt_J6_bitCount_0f7a4 l dC dI cI cZ cR cW xs _ z7 r_6 hc_66) (va_cwS 1 hts gX4_buyOff_J6_bitCount_0f7a4 rfl rfl rfl (by decide +kernel) ⟨Nat.le_of_ble_eq_true rfl, Nat.le_of_ble_eq_true rfl⟩) hK hE hP hD hS hA ⟨rfl, rfl, rfl, rfl, rfl, rfl, rfl⟩ hl rfl rfl (Nat.le_of_ble_eq_true rfl) ⟨Nat.le_of_ble_eq_true rfl, Nat.le_of_ble_eq_true rfl⟩ dX4_buyOff_66 (fun H locs hP hD hS => ?_)
        refine W.widen (k := 0) (n := 0) (Nat.le_refl _) (Nat.le_refl _) ?_
        refine lv_istore (lv' := [(8, .int r_6), (0, .ref o_b), (1, .int x1), (2, .int x2), (3, .int x3), (4, .int z4), (5, .int z5), (6, .int z6), (7, .int z7)]) hx hb dX4_buyOff_69 hl (by decide) rfl (fun ls hl => ?_)
        refine lv_iload hx hb dX4_buyOff_71 (lv_at hl 8 rfl) ?_
        refine lv_iload hx hb dX4_buyOff_73 (lv_at hl 5 rfl) ?_
        refine lv_iand hx hb dX4_buyOff_75 ?_
        refine lv_iload hx hb dX4_buyOff_76 (lv_at hl 8 rfl) ?_
        refine lv_icmp_ne (tgt := 107) hx hb dX4_buyOff_78 (by decide) (fun c_78 => ?_) (fun c_78 => ?_)
        · replace hd := ob_f c_78 hd
          obtain ⟨x_7, ex_7⟩ : ∃ z : Int32, z = z7 + 1 := ⟨_, rfl⟩
          replace hd := ob_lx ex_7 hd
          refine lv_iinc (v := x_7) (lv' := [(7, .int x_7), (8, .int r_6), (0, .ref o_b), (1, .int x1), (2, .int x2), (3, .int x3), (4, .int z4), (5, .int z5), (6, .int z6)]) hx hb dX4_buyOff_107 hl (k := 8) rfl (by rw [ex_7]; rfl) (by decide) rfl (fun ls hl => ?_)
          clear ex_7
          refine lv_goto (tgt := 57) hx hb dX4_buyOff_110 (by decide) ?_
          exact ih _ _ t z4 z5 z6 x_7 _ hP hD hS (lv_sub hl [2, 3, 4, 5, 6, 7, 8, 0] rfl) hd
        · replace hd := ob_t c_78 hd
          refine lv_iload hx hb dX4_buyOff_81 (lv_at hl 0 rfl) ?_
          refine lv_iload hx hb dX4_buyOff_83 (lv_at hl 7 rfl) ?_
          refine lv_icmp_ge (tgt := 107) hx hb dX4_buyOff_85 (by decide) (fun c_85 => ?_) (fun c_85 => ?_)
          · replace hd := ob_t c_85 hd
            obtain ⟨x_8, ex_8⟩ : ∃ z : Int32, z = z7 + 1 := ⟨_, rfl⟩
            replace hd := ob_lx ex_8 hd
            refine lv_iinc (v := x_8) (lv' := [(7, .int x_8), (8, .int r_6), (0, .ref o_b), (1, .int x1), (2, .int x2), (3, .int x3), (4, .int z4), (5, .int z5), (6, .int z6)]) hx hb dX4_buyOff_107 hl (k := 8) rfl (by rw [ex_8]; rfl) (by decide) rfl (fun ls hl => ?_)
            clear ex_8
            refine lv_goto (tgt := 57) hx hb dX4_buyOff_110 (by decide) ?_
            exact ih _ _ t z4 z5 z6 x_8 _ hP hD hS (lv_sub hl [2, 3, 4, 5, 6, 7, 8, 0] rfl) hd
          · replace hd := ob_f c_85 hd
            refine lv_aload_n hx hb dX4_buyOff_88 rfl (lv_at hl 1 rfl) ?_
            refine lv_iload hx hb dX4_buyOff_89 (lv_at hl 8 rfl) ?_
            refine lv_iload_n hx hb dX4_buyOff_91 rfl (lv_at hl 3 rfl) ?_
            obtain ⟨r_9, t_10, hc_92, hd⟩ := ob_s2 hd
            refine ob_Vi (isC := [0, 1, 2, 3, 4, 5, 6, 7, 8, 9, 10, 11, 12, 13]) (isR := []) (is2 := [0, 1, 2, 3, 4, 5, 6, 7, 8, 9, 10, 11, 12, 13]) (wc := (ob_w4 o_b a_b cI b ++ ob_w1 (a_b 2) a_y cI y ++ ob_w1 (a_b 3) a_t cI t)) (wr := ([] : va_W)) (w1 := (ob_w4 o_b a_b cI b ++ ob_w1 (a_b 2) a_y cI y ++ ob_w1 (a_b 3) a_t cI t_10)) (w2 := (ob_w4 o_b a_b cI b ++ ob_w1 (a_b 2) a_y cI y ++ ob_w1 (a_b 3) a_t cI t_10)) (b := o_b) (As := [.int z7, .int x2]) (rest := []) ⟨hx, hb, hml, hown, hts⟩ (mt_X4_placeIfBought l dC dI cI cZ cR cW xs _ o_b a_b a_y a_t b y t z7 x2 r_9 t_10 hc_92) (cwV 2 hts gX4_buyOff_X4_placeIfBought rfl rfl rfl (by decide +kernel) ⟨Nat.le_of_ble_eq_true rfl, Nat.le_of_ble_eq_true rfl⟩) hK hE hP hD hS hA ⟨rfl, rfl, rfl, rfl, rfl, rfl, rfl⟩ 4 0 rfl rfl rfl hl rfl rfl (Nat.le_of_ble_eq_true rfl) ⟨Nat.le_of_ble_eq_true rfl, Nat.le_of_ble_eq_true rfl⟩ dX4_buyOff_92 (fun H locs hP hD hS => ?_)
            refine W.widen (k := 0) (n := 0) (Nat.le_refl _) (Nat.le_refl _) ?_
            refine lv_iload_n hx hb dX4_buyOff_95 rfl (lv_at hl 2 rfl) ?_
            refine lv_icmp_ne (tgt := 107) hx hb dX4_buyOff_96 (by decide) (fun c_96 => ?_) (fun c_96 => ?_)
            · replace hd := ob_f c_96 hd
              obtain ⟨x_11, ex_11⟩ : ∃ z : Int32, z = z7 + 1 := ⟨_, rfl⟩
              replace hd := ob_lx ex_11 hd
              refine lv_iinc (v := x_11) (lv' := [(7, .int x_11), (8, .int r_6), (0, .ref o_b), (1, .int x1), (2, .int x2), (3, .int x3), (4, .int z4), (5, .int z5), (6, .int z6)]) hx hb dX4_buyOff_107 hl (k := 8) rfl (by rw [ex_11]; rfl) (by decide) rfl (fun ls hl => ?_)
              clear ex_11
              refine lv_goto (tgt := 57) hx hb dX4_buyOff_110 (by decide) ?_
              exact ih _ _ t_10 z4 z5 z6 x_11 _ hP hD hS (lv_sub hl [2, 3, 4, 5, 6, 7, 8, 0] rfl) hd
            · replace hd := ob_t c_96 hd
              refine lv_iload hx hb dX4_buyOff_99 (lv_at hl 8 rfl) ?_
              refine lv_istore (lv' := [(5, .int z7), (8, .int r_6), (0, .ref o_b), (1, .int x1), (2, .int x2), (3, .int x3), (4, .int z4), (6, .int z6), (7, .int z7)]) hx hb dX4_buyOff_101 hl (by decide) rfl (fun ls hl => ?_)
              refine lv_iload hx hb dX4_buyOff_103 (lv_at hl 1 rfl) ?_
              refine lv_istore (lv' := [(6, .int r_6), (5, .int z7), (8, .int r_6), (0, .ref o_b), (1, .int x1), (2, .int x2), (3, .int x3), (4, .int z4), (7, .int z7)]) hx hb dX4_buyOff_105 hl (by decide) rfl (fun ls hl => ?_)
              obtain ⟨x_12, ex_12⟩ : ∃ z : Int32, z = z7 + 1 := ⟨_, rfl⟩
              replace hd := ob_lx ex_12 hd
              refine lv_iinc (v := x_12) (lv' := [(7, .int x_12), (6, .int r_6), (5, .int z7), (8, .int r_6), (0, .ref o_b), (1, .int x1), (2, .int x2), (3, .int x3), (4, .int z4)]) hx hb dX4_buyOff_107 hl (k := 8) rfl (by rw [ex_12]; rfl) (by decide) rfl (fun ls hl => ?_)
              clear ex_12
              refine lv_goto (tgt := 57) hx hb dX4_buyOff_110 (by decide) ?_
              exact ih _ _ t_10 z4 z7 r_6 x_12 _ hP hD hS (lv_sub hl [4, 5, 6, 7, 8, 2, 1, 0] rfl) hd
  refine lv_aload_n hx hb dX4_buyOff_0 rfl (lv_at hl 0 rfl) ?_
  obtain ⟨r_1, hc_1, hd⟩ := ob_s1 hd
  refine ob_Vi (isC := [0, 1, 2, 3, 4, 5, 6, 7]) (isR := [8, 9, 10, 11, 12, 13]) (is2 := [6, 7, 8, 9, 10, 11, 12, 13, 0, 1, 2, 3, 4, 5]) (wc := (ob_w4 o_b a_b cI b ++ ob_w1 (a_b 2) a_y cI y)) (wr := (List.filterMap (fun i => (ob_w4 o_b a_b cI b ++ ob_w1 (a_b 2) a_y cI y ++ ob_w1 (a_b 3) a_t cI t)[i]?) [8, 9, 10, 11, 12, 13])) (w1 := (ob_w4 o_b a_b cI b ++ ob_w1 (a_b 2) a_y cI y)) (w2 := (ob_w4 o_b a_b cI b ++ ob_w1 (a_b 2) a_y cI y ++ ob_w1 (a_b 3) a_t cI t)) (b := o_b) (As := []) (rest := []) ⟨hx, hb, hml, hown, hts⟩ (mt_X4_noRoute l dC dI cI cZ cR cW xs _ o_b a_b a_y b y r_1 hc_1) (cwV 0 hts gX4_buyOff_X4_noRoute rfl rfl rfl (by decide +kernel) ⟨Nat.le_of_ble_eq_true rfl, Nat.le_of_ble_eq_true rfl⟩) hK hE hP hD hS hA ⟨rfl, rfl, rfl, rfl, rfl, rfl, rfl⟩ 4 0 rfl rfl rfl hl rfl rfl (Nat.le_of_ble_eq_true rfl) ⟨Nat.le_of_ble_eq_true rfl, Nat.le_of_ble_eq_true rfl⟩ dX4_buyOff_1 (fun H locs hP hD hS => ?_)
  refine W.widen (k := 0) (n := 0) (Nat.le_refl _) (Nat.le_refl _) ?_
  refine lv_if_eq (tgt := 10) hx hb dX4_buyOff_4 (by decide) (fun c_4 => ?_) (fun c_4 => ?_)
  · replace hd := ob_t c_4 hd
    refine lv_iload_n hx hb dX4_buyOff_10 rfl (lv_at hl 1 rfl) ?_
    obtain ⟨r_2, hc_11, hd⟩ := ob_s1 hd
    refine ob_Si (isC := []) (isR := [0, 1, 2, 3, 4, 5, 6, 7, 8, 9, 10, 11, 12, 13]) (is2 := [0, 1, 2, 3, 4, 5, 6, 7, 8, 9, 10, 11, 12, 13]) (wc := ([] : va_W)) (wr := (List.filterMap (fun i => (ob_w4 o_b a_b cI b ++ ob_w1 (a_b 2) a_y cI y ++ ob_w1 (a_b 3) a_t cI t)[i]?) [0, 1, 2, 3, 4, 5, 6, 7, 8, 9, 10, 11, 12, 13])) (w1 := ([] : va_W)) (w2 := (ob_w4 o_b a_b cI b ++ ob_w1 (a_b 2) a_y cI y ++ ob_w1 (a_b 3) a_t cI t)) (As := [.int x1]) (rest := []) ⟨hx, hb, hml, hown, hts⟩ (mt_X4_isPlace l dC dI cI cZ cR cW xs _ x1 r_2 hc_11) (va_cwS 1 hts gX4_buyOff_X4_isPlace rfl rfl rfl (by decide +kernel) ⟨Nat.le_of_ble_eq_true rfl, Nat.le_of_ble_eq_true rfl⟩) hK hE hP hD hS hA ⟨rfl, rfl, rfl, rfl, rfl, rfl, rfl⟩ hl rfl rfl (Nat.le_of_ble_eq_true rfl) ⟨Nat.le_of_ble_eq_true rfl, Nat.le_of_ble_eq_true rfl⟩ dX4_buyOff_11 (fun H locs hP hD hS => ?_)
    refine W.widen (k := 0) (n := 0) (Nat.le_refl _) (Nat.le_refl _) ?_
    refine lv_if_eq (tgt := 34) hx hb dX4_buyOff_14 (by decide) (fun c_14 => ?_) (fun c_14 => ?_)
    · replace hd := ob_t c_14 hd
      refine lv_ldc hx hb hown kw0 dX4_buyOff_34 ?_
      obtain ⟨e1, e2⟩ := ob_pp hd
      subst e1
      subst e2
      exact ob_iret hx hb hr hlocks hP hD hS dX4_buyOff_36
    · replace hd := ob_f c_14 hd
      refine lv_iload_n hx hb dX4_buyOff_17 rfl (lv_at hl 2 rfl) ?_
      refine lv_iconst (v := 1) hx hb dX4_buyOff_18 (by decide) ?_
      refine lv_bipush (v := 24) hx hb dX4_buyOff_19 (by decide) ?_
      obtain ⟨r_3, hc_21, hd⟩ := ob_s1 hd
      refine ob_Si (isC := []) (isR := [0, 1, 2, 3, 4, 5, 6, 7, 8, 9, 10, 11, 12, 13]) (is2 := [0, 1, 2, 3, 4, 5, 6, 7, 8, 9, 10, 11, 12, 13]) (wc := ([] : va_W)) (wr := (List.filterMap (fun i => (ob_w4 o_b a_b cI b ++ ob_w1 (a_b 2) a_y cI y ++ ob_w1 (a_b 3) a_t cI t)[i]?) [0, 1, 2, 3, 4, 5, 6, 7, 8, 9, 10, 11, 12, 13])) (w1 := ([] : va_W)) (w2 := (ob_w4 o_b a_b cI b ++ ob_w1 (a_b 2) a_y cI y ++ ob_w1 (a_b 3) a_t cI t)) (As := [.int x2, .int 1, .int 24]) (rest := []) ⟨hx, hb, hml, hown, hts⟩ (mt_X4_isWithin l dC dI cI cZ cR cW xs _ x2 1 24 r_3 hc_21) (va_cwS 3 hts gX4_buyOff_X4_isWithin rfl rfl rfl (by decide +kernel) ⟨Nat.le_of_ble_eq_true rfl, Nat.le_of_ble_eq_true rfl⟩) hK hE hP hD hS hA ⟨rfl, rfl, rfl, rfl, rfl, rfl, rfl⟩ hl rfl rfl (Nat.le_of_ble_eq_true rfl) ⟨Nat.le_of_ble_eq_true rfl, Nat.le_of_ble_eq_true rfl⟩ dX4_buyOff_21 (fun H locs hP hD hS => ?_)
      refine W.widen (k := 0) (n := 0) (Nat.le_refl _) (Nat.le_refl _) ?_
      refine lv_if_eq (tgt := 34) hx hb dX4_buyOff_24 (by decide) (fun c_24 => ?_) (fun c_24 => ?_)
      · replace hd := ob_t c_24 hd
        refine lv_ldc hx hb hown kw0 dX4_buyOff_34 ?_
        obtain ⟨e1, e2⟩ := ob_pp hd
        subst e1
        subst e2
        exact ob_iret hx hb hr hlocks hP hD hS dX4_buyOff_36
      · replace hd := ob_f c_24 hd
        refine lv_iload_n hx hb dX4_buyOff_27 rfl (lv_at hl 3 rfl) ?_
        obtain ⟨r_4, hc_28, hd⟩ := ob_s1 hd
        refine ob_Si (isC := []) (isR := [0, 1, 2, 3, 4, 5, 6, 7, 8, 9, 10, 11, 12, 13]) (is2 := [0, 1, 2, 3, 4, 5, 6, 7, 8, 9, 10, 11, 12, 13]) (wc := ([] : va_W)) (wr := (List.filterMap (fun i => (ob_w4 o_b a_b cI b ++ ob_w1 (a_b 2) a_y cI y ++ ob_w1 (a_b 3) a_t cI t)[i]?) [0, 1, 2, 3, 4, 5, 6, 7, 8, 9, 10, 11, 12, 13])) (w1 := ([] : va_W)) (w2 := (ob_w4 o_b a_b cI b ++ ob_w1 (a_b 2) a_y cI y ++ ob_w1 (a_b 3) a_t cI t)) (As := [.int x3]) (rest := []) ⟨hx, hb, hml, hown, hts⟩ (mt_X4_isEither l dC dI cI cZ cR cW xs _ x3 r_4 hc_28) (va_cwS 1 hts gX4_buyOff_X4_isEither rfl rfl rfl (by decide +kernel) ⟨Nat.le_of_ble_eq_true rfl, Nat.le_of_ble_eq_true rfl⟩) hK hE hP hD hS hA ⟨rfl, rfl, rfl, rfl, rfl, rfl, rfl⟩ hl rfl rfl (Nat.le_of_ble_eq_true rfl) ⟨Nat.le_of_ble_eq_true rfl, Nat.le_of_ble_eq_true rfl⟩ dX4_buyOff_28 (fun H locs hP hD hS => ?_)
        refine W.widen (k := 0) (n := 0) (Nat.le_refl _) (Nat.le_refl _) ?_
        refine lv_if_ne (tgt := 37) hx hb dX4_buyOff_31 (by decide) (fun c_31 => ?_) (fun c_31 => ?_)
        · replace hd := ob_f c_31 hd
          refine lv_aload_n hx hb dX4_buyOff_37 rfl (lv_at hl 0 rfl) ?_
          refine va_get (D := (dC, dI)) (ci := 4) (v := .ref (a_b 2)) (C := RX4) (T := TX4) (N := 10) hx hb hts hi_X4 hown hK hP 0 rfl rfl 2 (by decide) kw1 (fun _ h9 => h9) rfl dX4_buyOff_38 ?_
          obtain ⟨r_5, hc_41, hd⟩ := ob_s1 hd
          refine ob_Vi (isC := [2, 3, 4, 5, 6, 7]) (isR := [0, 1, 8, 9, 10, 11, 12, 13]) (is2 := [0, 1, 8, 9, 10, 11, 12, 13, 2, 3, 4, 5, 6, 7]) (wc := (ob_w1 (a_b 2) a_y cI y)) (wr := (List.filterMap (fun i => (ob_w4 o_b a_b cI b ++ ob_w1 (a_b 2) a_y cI y ++ ob_w1 (a_b 3) a_t cI t)[i]?) [0, 1, 8, 9, 10, 11, 12, 13])) (w1 := (ob_w1 (a_b 2) a_y cI y)) (w2 := (ob_w4 o_b a_b cI b ++ ob_w1 (a_b 2) a_y cI y ++ ob_w1 (a_b 3) a_t cI t)) (b := (a_b 2)) (As := []) (rest := []) ⟨hx, hb, hml, hown, hts⟩ (mt_X1_openBits l dC dI cI cZ cR cW xs _ ((a_b 2)) a_y y r_5 hc_41) (cwV 0 hts gX4_buyOff_X1_openBits rfl rfl rfl (by decide +kernel) ⟨Nat.le_of_ble_eq_true rfl, Nat.le_of_ble_eq_true rfl⟩) hK hE hP hD hS hA ⟨rfl, rfl, rfl, rfl, rfl, rfl, rfl⟩ 1 0 rfl rfl rfl hl rfl rfl (Nat.le_of_ble_eq_true rfl) ⟨Nat.le_of_ble_eq_true rfl, Nat.le_of_ble_eq_true rfl⟩ dX4_buyOff_41 (fun H locs hP hD hS => ?_)
          refine W.widen (k := 0) (n := 0) (Nat.le_refl _) (Nat.le_refl _) ?_
          refine lv_istore (lv' := [(4, .int r_5), (0, .ref o_b), (1, .int x1), (2, .int x2), (3, .int x3)]) hx hb dX4_buyOff_44 hl (by decide) rfl (fun ls hl => ?_)
          refine lv_ldc hx hb hown kw2 dX4_buyOff_46 ?_
          refine lv_istore (lv' := [(5, .int (-1000000)), (4, .int r_5), (0, .ref o_b), (1, .int x1), (2, .int x2), (3, .int x3)]) hx hb dX4_buyOff_48 hl (by decide) rfl (fun ls hl => ?_)
          refine lv_bipush (v := 8) hx hb dX4_buyOff_50 (by decide) ?_
          refine lv_istore (lv' := [(6, .int 8), (5, .int (-1000000)), (4, .int r_5), (0, .ref o_b), (1, .int x1), (2, .int x2), (3, .int x3)]) hx hb dX4_buyOff_52 hl (by decide) rfl (fun ls hl => ?_)
          refine lv_iconst (v := 0) hx hb dX4_buyOff_54 (by decide) ?_
          refine lv_istore (lv' := [(7, .int 0), (6, .int 8), (5, .int (-1000000)), (4, .int r_5), (0, .ref o_b), (1, .int x1), (2, .int x2), (3, .int x3)]) hx hb dX4_buyOff_55 hl (by decide) rfl (fun ls hl => ?_)
          exact L57  2000 _ _ t r_5 (-1000000) 8 0 _ hP hD hS (lv_sub hl [4, 5, 6, 7, 3, 2, 1, 0] rfl) hd
        · replace hd := ob_t c_31 hd
          refine lv_ldc hx hb hown kw0 dX4_buyOff_34 ?_
          obtain ⟨e1, e2⟩ := ob_pp hd
          subst e1
          subst e2
          exact ob_iret hx hb hr hlocks hP hD hS dX4_buyOff_36
  · replace hd := ob_f c_4 hd
    refine lv_ldc hx hb hown kw3 dX4_buyOff_7 ?_
    obtain ⟨e1, e2⟩ := ob_pp hd
    subst e1
    subst e2
    exact ob_iret hx hb hr hlocks hP hD hS dX4_buyOff_9

def fd_X4_holds_L44  : Nat → ob_B → ob_B → ob_B → Int32 → Int32 → Int32 → Int32 → Int32 → Option (Int32 × ob_B)
  | 0, _, _, _, _, _, _, _, _ => none
  | fu + 1, b, y, t, x1, z2, z3, z4, z5 => if (y.1 4) ≤ z5 then (some (z4, t)) else (ob_lt (1 <<< (z5 &&& 31) : Int32) (fun x_6 => if (z2 &&& x_6) = 0 then (ob_lt (z5 + 1 : Int32) (fun x_7 => fd_X4_holds_L44 fu b y t x1 z2 z3 z4 x_7)) else (ob_b2 (fd_X4_placeIfBought b y t x_6 x1) (fun r_8 t_9 => if r_8 = z3 then (ob_lt (z5 + 1 : Int32) (fun x_10 => fd_X4_holds_L44 fu b y t_9 x1 z2 z3 z4 x_10)) else (ob_lt (z4 ||| x_6 : Int32) (fun x_11 => ob_lt (z5 + 1 : Int32) (fun x_12 => fd_X4_holds_L44 fu b y t_9 x1 z2 z3 x_11 x_12)))))))
def fd_X4_holds  (b : ob_B) (y : ob_B) (t : ob_B) (x1 : Int32) : Option (Int32 × ob_B) := ob_b1 (fd_X4_noRoute b y) (fun r_1 => if r_1 = 0 then (ob_b1 (fd_X4_isWithin x1 1 60) (fun r_2 => if r_2 = 0 then (some ((-1000001), t)) else (ob_b1 (fd_X1_openBits y) (fun r_3 => ob_b2 (fd_X4_placeIfBought b y t 0 x1) (fun r_4 t_5 => fd_X4_holds_L44 2000 b y t_5 x1 r_3 r_4 0 0))))) else (some ((-1000002), t)))
set_option maxHeartbeats 4000000 in
set_option maxRecDepth 100000 in
theorem mt_X4_holds (l : Launch) (dC : Nat → ClassId) (dI : Nat → Nat → Nat) (cI cZ cR cW : ClassId) (xs : Nat → Nat) (sz : Nat) (o_b : Nat) (a_b : Nat → Nat) (a_y : Nat → Nat) (a_t : Nat → Nat) (b : ob_B) (y : ob_B) (t : ob_B) (x1 : Int32)  (rr : Int32) (t' : ob_B) (hd : fd_X4_holds b y t x1 = some (rr, t')) : ob_M l yX4_holds wsX4_holds ({ frames := 6, cells := 0, slots := 0, locals := 135 } : Room) (dC, dI) (ob_ty cI cZ cR cW) xs [.ref o_b, .int x1] (ob_w4 o_b a_b cI b ++ ob_w1 (a_b 2) a_y cI y ++ ob_w1 (a_b 3) a_t cI t) sz (ob_Qi (dC, dI) rr (ob_w4 o_b a_b cI b ++ ob_w1 (a_b 2) a_y cI y ++ ob_w1 (a_b 3) a_t cI t')) := by
  rw [fd_X4_holds] at hd
  refine ob_in (cc := cX4_holds) (maxL := 7) (ret := (some .int)) (own := RX4) (by decide) rfl rfl [(0, .ref o_b), (1, .int x1)] rfl (Nat.le_of_ble_eq_true rfl) ?_
  intro p e s m below meth c hx hb hr hml hown hts hlocks hnm hK A hA hE hP hD hS ls hl
  have kw0 := hts (.fieldLink RX4 25 "OathCoach" "route" "LOathCoach$Route;") (by decide +kernel)
  have kw1 := hts (.constant RX4 62 (-1000001)) (by decide +kernel)
  have kw2 := hts (.constant RX4 137 (-1000002)) (by decide +kernel)
  have kw3 := hts (.fieldLink RX4 130 "OathCoach$Route" "oaths" "I") (by decide +kernel)
  have hi_X1 : ∀ w ∈ u_ws RX1 TX1 12, w ∈ wsX4_holds := by decide +kernel
  have hi_X4 : ∀ w ∈ u_ws RX4 TX4 10, w ∈ wsX4_holds := by decide +kernel
  have L44 : ∀  (fu : Nat), ∀ (H : Heap) (locs : List Loc) (t : ob_B) (z2 : Int32) (z3 : Int32) (z4 : Int32) (z5 : Int32) (ls : Array Slot), va_P (dC, dI) vwCl (ob_w4 o_b a_b cI b ++ ob_w1 (a_b 2) a_y cI y ++ ob_w1 (a_b 3) a_t cI t) H → va_D A (ob_w4 o_b a_b cI b ++ ob_w1 (a_b 2) a_y cI y ++ ob_w1 (a_b 3) a_t cI t) → va_S A s.heap H locs → lv_has ls 7 [(0, .ref o_b), (1, .int x1), (2, .int z2), (3, .int z3), (4, .int z4), (5, .int z5)] → fd_X4_holds_L44 fu b y t x1 z2 z3 z4 z5 = some (rr, t') → W p l e ({ frames := 6, cells := 0, slots := 0, locals := 135 } : Room) s m (List.toArray [.ref o_b, .int x1]) below meth c H locs 0 0 (MQ below ((ob_Qi (dC, dI) rr (ob_w4 o_b a_b cI b ++ ob_w1 (a_b 2) a_y cI y ++ ob_w1 (a_b 3) a_t cI t')) A) (List.toArray [.ref o_b, .int x1]) s 0 0 A) (F0 m 44 ls []) := by
    intro  fu
    induction fu with
    | zero =>
      intro H locs t z2 z3 z4 z5 ls hP hD hS hl hd
      rw [fd_X4_holds_L44] at hd
      cases hd
    | succ fu ih =>
      intro H locs t z2 z3 z4 z5 ls hP hD hS hl hd
      rw [fd_X4_holds_L44] at hd
      refine lv_iload hx hb dX4_holds_44 (lv_at hl 5 rfl) ?_
      refine lv_aload_n hx hb dX4_holds_46 rfl (lv_at hl 0 rfl) ?_
      refine va_get (D := (dC, dI)) (ci := 4) (v := .ref (a_b 2)) (C := RX4) (T := TX4) (N := 10) hx hb hts hi_X4 hown hK hP 0 rfl rfl 2 (by decide) kw0 (fun _ h9 => h9) rfl dX4_holds_47 ?_
      refine va_get (D := (dC, dI)) (ci := 1) (v := .int (y.1 4)) (C := RX1) (T := TX1) (N := 12) hx hb hts hi_X1 hown hK hP 2 rfl rfl 4 (by decide) kw3 (fun _ h9 => h9) rfl dX4_holds_50 ?_
      refine lv_icmp_ge (tgt := 93) hx hb dX4_holds_53 (by decide) (fun c_53 => ?_) (fun c_53 => ?_)
      · replace hd := ob_t c_53 hd
        refine lv_iload hx hb dX4_holds_93 (lv_at hl 4 rfl) ?_
        obtain ⟨e1, e2⟩ := ob_pp hd
        subst e1
        subst e2
        exact ob_iret hx hb hr hlocks hP hD hS dX4_holds_95
      · replace hd := ob_f c_53 hd
        refine lv_iconst (v := 1) hx hb dX4_holds_56 (by decide) ?_
        refine lv_iload hx hb dX4_holds_57 (lv_at hl 5 rfl) ?_
        refine lv_ishl hx hb dX4_holds_59 ?_
        refine lv_topi (fun x_6 ex_6 => ?_)
        replace hd := ob_lx ex_6 hd
        clear ex_6
        refine lv_istore (lv' := [(6, .int x_6), (0, .ref o_b), (1, .int x1), (2, .int z2), (3, .int z3), (4, .int z4), (5, .int z5)]) hx hb dX4_holds_60 hl (by decide) rfl (fun ls hl => ?_)
        refine lv_iload_n hx hb dX4_holds_62 rfl (lv_at hl 3 rfl) ?_
        refine lv_iload hx hb dX4_holds_63 (lv_at hl 0 rfl) ?_
        refine lv_iand hx hb dX4_holds_65 ?_
        refine lv_if_eq (tgt := 87) hx hb dX4_holds_66 (by decide) (fun c_66 => ?_) (fun c_66 => ?_)
        · replace hd := ob_t c_66 hd
          obtain ⟨x_7, ex_7⟩ : ∃ z : Int32, z = z5 + 1 := ⟨_, rfl⟩
          replace hd := ob_lx ex_7 hd
          refine lv_iinc (v := x_7) (lv' := [(5, .int x_7), (6, .int x_6), (0, .ref o_b), (1, .int x1), (2, .int z2), (3, .int z3), (4, .int z4)]) hx hb dX4_holds_87 hl (k := 6) rfl (by rw [ex_7]; rfl) (by decide) rfl (fun ls hl => ?_)
          clear ex_7
          refine lv_goto (tgt := 44) hx hb dX4_holds_90 (by decide) ?_
          exact ih _ _ t z2 z3 z4 x_7 _ hP hD hS (lv_sub hl [2, 3, 4, 5, 6, 0] rfl) hd
        · replace hd := ob_f c_66 hd
          refine lv_aload_n hx hb dX4_holds_69 rfl (lv_at hl 1 rfl) ?_
          refine lv_iload hx hb dX4_holds_70 (lv_at hl 0 rfl) ?_
          refine lv_iload_n hx hb dX4_holds_72 rfl (lv_at hl 2 rfl) ?_
          obtain ⟨r_8, t_9, hc_73, hd⟩ := ob_s2 hd
          refine ob_Vi (isC := [0, 1, 2, 3, 4, 5, 6, 7, 8, 9, 10, 11, 12, 13]) (isR := []) (is2 := [0, 1, 2, 3, 4, 5, 6, 7, 8, 9, 10, 11, 12, 13]) (wc := (ob_w4 o_b a_b cI b ++ ob_w1 (a_b 2) a_y cI y ++ ob_w1 (a_b 3) a_t cI t)) (wr := ([] : va_W)) (w1 := (ob_w4 o_b a_b cI b ++ ob_w1 (a_b 2) a_y cI y ++ ob_w1 (a_b 3) a_t cI t_9)) (w2 := (ob_w4 o_b a_b cI b ++ ob_w1 (a_b 2) a_y cI y ++ ob_w1 (a_b 3) a_t cI t_9)) (b := o_b) (As := [.int x_6, .int x1]) (rest := []) ⟨hx, hb, hml, hown, hts⟩ (mt_X4_placeIfBought l dC dI cI cZ cR cW xs _ o_b a_b a_y a_t b y t x_6 x1 r_8 t_9 hc_73) (cwV 2 hts gX4_holds_X4_placeIfBought rfl rfl rfl (by decide +kernel) ⟨Nat.le_of_ble_eq_true rfl, Nat.le_of_ble_eq_true rfl⟩) hK hE hP hD hS hA ⟨rfl, rfl, rfl, rfl, rfl, rfl, rfl⟩ 4 0 rfl rfl rfl hl rfl rfl (Nat.le_of_ble_eq_true rfl) ⟨Nat.le_of_ble_eq_true rfl, Nat.le_of_ble_eq_true rfl⟩ dX4_holds_73 (fun H locs hP hD hS => ?_)
          refine W.widen (k := 0) (n := 0) (Nat.le_refl _) (Nat.le_refl _) ?_
          refine lv_iload_n hx hb dX4_holds_76 rfl (lv_at hl 4 rfl) ?_
          refine lv_icmp_eq (tgt := 87) hx hb dX4_holds_77 (by decide) (fun c_77 => ?_) (fun c_77 => ?_)
          · replace hd := ob_t c_77 hd
            obtain ⟨x_10, ex_10⟩ : ∃ z : Int32, z = z5 + 1 := ⟨_, rfl⟩
            replace hd := ob_lx ex_10 hd
            refine lv_iinc (v := x_10) (lv' := [(5, .int x_10), (6, .int x_6), (0, .ref o_b), (1, .int x1), (2, .int z2), (3, .int z3), (4, .int z4)]) hx hb dX4_holds_87 hl (k := 6) rfl (by rw [ex_10]; rfl) (by decide) rfl (fun ls hl => ?_)
            clear ex_10
            refine lv_goto (tgt := 44) hx hb dX4_holds_90 (by decide) ?_
            exact ih _ _ t_9 z2 z3 z4 x_10 _ hP hD hS (lv_sub hl [2, 3, 4, 5, 6, 0] rfl) hd
          · replace hd := ob_f c_77 hd
            refine lv_iload hx hb dX4_holds_80 (lv_at hl 5 rfl) ?_
            refine lv_iload hx hb dX4_holds_82 (lv_at hl 0 rfl) ?_
            refine lv_ior hx hb dX4_holds_84 ?_
            refine lv_topi (fun x_11 ex_11 => ?_)
            replace hd := ob_lx ex_11 hd
            clear ex_11
            refine lv_istore (lv' := [(4, .int x_11), (6, .int x_6), (0, .ref o_b), (1, .int x1), (2, .int z2), (3, .int z3), (5, .int z5)]) hx hb dX4_holds_85 hl (by decide) rfl (fun ls hl => ?_)
            obtain ⟨x_12, ex_12⟩ : ∃ z : Int32, z = z5 + 1 := ⟨_, rfl⟩
            replace hd := ob_lx ex_12 hd
            refine lv_iinc (v := x_12) (lv' := [(5, .int x_12), (4, .int x_11), (6, .int x_6), (0, .ref o_b), (1, .int x1), (2, .int z2), (3, .int z3)]) hx hb dX4_holds_87 hl (k := 6) rfl (by rw [ex_12]; rfl) (by decide) rfl (fun ls hl => ?_)
            clear ex_12
            refine lv_goto (tgt := 44) hx hb dX4_holds_90 (by decide) ?_
            exact ih _ _ t_9 z2 z3 x_11 x_12 _ hP hD hS (lv_sub hl [3, 4, 5, 6, 1, 0] rfl) hd
  refine lv_aload_n hx hb dX4_holds_0 rfl (lv_at hl 0 rfl) ?_
  obtain ⟨r_1, hc_1, hd⟩ := ob_s1 hd
  refine ob_Vi (isC := [0, 1, 2, 3, 4, 5, 6, 7]) (isR := [8, 9, 10, 11, 12, 13]) (is2 := [6, 7, 8, 9, 10, 11, 12, 13, 0, 1, 2, 3, 4, 5]) (wc := (ob_w4 o_b a_b cI b ++ ob_w1 (a_b 2) a_y cI y)) (wr := (List.filterMap (fun i => (ob_w4 o_b a_b cI b ++ ob_w1 (a_b 2) a_y cI y ++ ob_w1 (a_b 3) a_t cI t)[i]?) [8, 9, 10, 11, 12, 13])) (w1 := (ob_w4 o_b a_b cI b ++ ob_w1 (a_b 2) a_y cI y)) (w2 := (ob_w4 o_b a_b cI b ++ ob_w1 (a_b 2) a_y cI y ++ ob_w1 (a_b 3) a_t cI t)) (b := o_b) (As := []) (rest := []) ⟨hx, hb, hml, hown, hts⟩ (mt_X4_noRoute l dC dI cI cZ cR cW xs _ o_b a_b a_y b y r_1 hc_1) (cwV 0 hts gX4_holds_X4_noRoute rfl rfl rfl (by decide +kernel) ⟨Nat.le_of_ble_eq_true rfl, Nat.le_of_ble_eq_true rfl⟩) hK hE hP hD hS hA ⟨rfl, rfl, rfl, rfl, rfl, rfl, rfl⟩ 4 0 rfl rfl rfl hl rfl rfl (Nat.le_of_ble_eq_true rfl) ⟨Nat.le_of_ble_eq_true rfl, Nat.le_of_ble_eq_true rfl⟩ dX4_holds_1 (fun H locs hP hD hS => ?_)
  refine W.widen (k := 0) (n := 0) (Nat.le_refl _) (Nat.le_refl _) ?_
  refine lv_if_eq (tgt := 10) hx hb dX4_holds_4 (by decide) (fun c_4 => ?_) (fun c_4 => ?_)
  · replace hd := ob_t c_4 hd
    refine lv_iload_n hx hb dX4_holds_10 rfl (lv_at hl 1 rfl) ?_
    refine lv_iconst (v := 1) hx hb dX4_holds_11 (by decide) ?_
    refine lv_bipush (v := 60) hx hb dX4_holds_12 (by decide) ?_
    obtain ⟨r_2, hc_14, hd⟩ := ob_s1 hd
    refine ob_Si (isC := []) (isR := [0, 1, 2, 3, 4, 5, 6, 7, 8, 9, 10, 11, 12, 13]) (is2 := [0, 1, 2, 3, 4, 5, 6, 7, 8, 9, 10, 11, 12, 13]) (wc := ([] : va_W)) (wr := (List.filterMap (fun i => (ob_w4 o_b a_b cI b ++ ob_w1 (a_b 2) a_y cI y ++ ob_w1 (a_b 3) a_t cI t)[i]?) [0, 1, 2, 3, 4, 5, 6, 7, 8, 9, 10, 11, 12, 13])) (w1 := ([] : va_W)) (w2 := (ob_w4 o_b a_b cI b ++ ob_w1 (a_b 2) a_y cI y ++ ob_w1 (a_b 3) a_t cI t)) (As := [.int x1, .int 1, .int 60]) (rest := []) ⟨hx, hb, hml, hown, hts⟩ (mt_X4_isWithin l dC dI cI cZ cR cW xs _ x1 1 60 r_2 hc_14) (va_cwS 3 hts gX4_holds_X4_isWithin rfl rfl rfl (by decide +kernel) ⟨Nat.le_of_ble_eq_true rfl, Nat.le_of_ble_eq_true rfl⟩) hK hE hP hD hS hA ⟨rfl, rfl, rfl, rfl, rfl, rfl, rfl⟩ hl rfl rfl (Nat.le_of_ble_eq_true rfl) ⟨Nat.le_of_ble_eq_true rfl, Nat.le_of_ble_eq_true rfl⟩ dX4_holds_14 (fun H locs hP hD hS => ?_)
    refine W.widen (k := 0) (n := 0) (Nat.le_refl _) (Nat.le_refl _) ?_
    refine lv_if_ne (tgt := 23) hx hb dX4_holds_17 (by decide) (fun c_17 => ?_) (fun c_17 => ?_)
    · replace hd := ob_f c_17 hd
      refine lv_aload_n hx hb dX4_holds_23 rfl (lv_at hl 0 rfl) ?_
      refine va_get (D := (dC, dI)) (ci := 4) (v := .ref (a_b 2)) (C := RX4) (T := TX4) (N := 10) hx hb hts hi_X4 hown hK hP 0 rfl rfl 2 (by decide) kw0 (fun _ h9 => h9) rfl dX4_holds_24 ?_
      obtain ⟨r_3, hc_27, hd⟩ := ob_s1 hd
      refine ob_Vi (isC := [2, 3, 4, 5, 6, 7]) (isR := [0, 1, 8, 9, 10, 11, 12, 13]) (is2 := [0, 1, 8, 9, 10, 11, 12, 13, 2, 3, 4, 5, 6, 7]) (wc := (ob_w1 (a_b 2) a_y cI y)) (wr := (List.filterMap (fun i => (ob_w4 o_b a_b cI b ++ ob_w1 (a_b 2) a_y cI y ++ ob_w1 (a_b 3) a_t cI t)[i]?) [0, 1, 8, 9, 10, 11, 12, 13])) (w1 := (ob_w1 (a_b 2) a_y cI y)) (w2 := (ob_w4 o_b a_b cI b ++ ob_w1 (a_b 2) a_y cI y ++ ob_w1 (a_b 3) a_t cI t)) (b := (a_b 2)) (As := []) (rest := []) ⟨hx, hb, hml, hown, hts⟩ (mt_X1_openBits l dC dI cI cZ cR cW xs _ ((a_b 2)) a_y y r_3 hc_27) (cwV 0 hts gX4_holds_X1_openBits rfl rfl rfl (by decide +kernel) ⟨Nat.le_of_ble_eq_true rfl, Nat.le_of_ble_eq_true rfl⟩) hK hE hP hD hS hA ⟨rfl, rfl, rfl, rfl, rfl, rfl, rfl⟩ 1 0 rfl rfl rfl hl rfl rfl (Nat.le_of_ble_eq_true rfl) ⟨Nat.le_of_ble_eq_true rfl, Nat.le_of_ble_eq_true rfl⟩ dX4_holds_27 (fun H locs hP hD hS => ?_)
      refine W.widen (k := 0) (n := 0) (Nat.le_refl _) (Nat.le_refl _) ?_
      refine lv_istore_n (lv' := [(2, .int r_3), (0, .ref o_b), (1, .int x1)]) hx hb dX4_holds_30 rfl hl (by decide) rfl (fun ls hl => ?_)
      refine lv_aload_n hx hb dX4_holds_31 rfl (lv_at hl 1 rfl) ?_
      refine lv_iconst (v := 0) hx hb dX4_holds_32 (by decide) ?_
      refine lv_iload_n hx hb dX4_holds_33 rfl (lv_at hl 2 rfl) ?_
      obtain ⟨r_4, t_5, hc_34, hd⟩ := ob_s2 hd
      refine ob_Vi (isC := [0, 1, 2, 3, 4, 5, 6, 7, 8, 9, 10, 11, 12, 13]) (isR := []) (is2 := [0, 1, 2, 3, 4, 5, 6, 7, 8, 9, 10, 11, 12, 13]) (wc := (ob_w4 o_b a_b cI b ++ ob_w1 (a_b 2) a_y cI y ++ ob_w1 (a_b 3) a_t cI t)) (wr := ([] : va_W)) (w1 := (ob_w4 o_b a_b cI b ++ ob_w1 (a_b 2) a_y cI y ++ ob_w1 (a_b 3) a_t cI t_5)) (w2 := (ob_w4 o_b a_b cI b ++ ob_w1 (a_b 2) a_y cI y ++ ob_w1 (a_b 3) a_t cI t_5)) (b := o_b) (As := [.int 0, .int x1]) (rest := []) ⟨hx, hb, hml, hown, hts⟩ (mt_X4_placeIfBought l dC dI cI cZ cR cW xs _ o_b a_b a_y a_t b y t 0 x1 r_4 t_5 hc_34) (cwV 2 hts gX4_holds_X4_placeIfBought rfl rfl rfl (by decide +kernel) ⟨Nat.le_of_ble_eq_true rfl, Nat.le_of_ble_eq_true rfl⟩) hK hE hP hD hS hA ⟨rfl, rfl, rfl, rfl, rfl, rfl, rfl⟩ 4 0 rfl rfl rfl hl rfl rfl (Nat.le_of_ble_eq_true rfl) ⟨Nat.le_of_ble_eq_true rfl, Nat.le_of_ble_eq_true rfl⟩ dX4_holds_34 (fun H locs hP hD hS => ?_)
      refine W.widen (k := 0) (n := 0) (Nat.le_refl _) (Nat.le_refl _) ?_
      refine lv_istore_n (lv' := [(3, .int r_4), (2, .int r_3), (0, .ref o_b), (1, .int x1)]) hx hb dX4_holds_37 rfl hl (by decide) rfl (fun ls hl => ?_)
      refine lv_iconst (v := 0) hx hb dX4_holds_38 (by decide) ?_
      refine lv_istore (lv' := [(4, .int 0), (3, .int r_4), (2, .int r_3), (0, .ref o_b), (1, .int x1)]) hx hb dX4_holds_39 hl (by decide) rfl (fun ls hl => ?_)
      refine lv_iconst (v := 0) hx hb dX4_holds_41 (by decide) ?_
      refine lv_istore (lv' := [(5, .int 0), (4, .int 0), (3, .int r_4), (2, .int r_3), (0, .ref o_b), (1, .int x1)]) hx hb dX4_holds_42 hl (by decide) rfl (fun ls hl => ?_)
      exact L44  2000 _ _ t_5 r_3 r_4 0 0 _ hP hD hS (lv_sub hl [4, 5, 3, 2, 1, 0] rfl) hd
    · replace hd := ob_t c_17 hd
      refine lv_ldc hx hb hown kw1 dX4_holds_20 ?_
      obtain ⟨e1, e2⟩ := ob_pp hd
      subst e1
      subst e2
      exact ob_iret hx hb hr hlocks hP hD hS dX4_holds_22
  · replace hd := ob_f c_4 hd
    refine lv_ldc hx hb hown kw2 dX4_holds_7 ?_
    obtain ⟨e1, e2⟩ := ob_pp hd
    subst e1
    subst e2
    exact ob_iret hx hb hr hlocks hP hD hS dX4_holds_9

def fd_X4_order_L60  (b : ob_B) (y : ob_B) (t : ob_B) (z2 : Int32) (z4 : Int32) : Option (Int32 × ob_B) := ob_b1 (fd_X4_bitAt z4 z2) (fun r_8 => some (r_8, t))
def fd_X4_order_L32  : Nat → ob_B → ob_B → ob_B → Int32 → Int32 → Option (Int32 × ob_B)
  | 0, _, _, _, _, _ => none
  | fu + 1, b, y, t, z2, z3 => if 60 ≤ z3 then (some ((-1000000), t)) else (ob_b2 (fd_X1_passHour t) (fun r_3 t_4 => ob_b1 (fd_J6_bitCount_0f7a4 r_3) (fun r_5 => if r_5 ≤ z2 then (ob_lt (z2 - r_5 : Int32) (fun x_6 => ob_lt (z3 + 1 : Int32) (fun x_7 => fd_X4_order_L32 fu b y t_4 x_6 x_7))) else (fd_X4_order_L60 b y t_4 z2 r_3))))
def fd_X4_order  (b : ob_B) (y : ob_B) (t : ob_B) (x1 : Int32) : Option (Int32 × ob_B) := ob_b1 (fd_X4_noRoute b y) (fun r_1 => if r_1 = 0 then (if 0 ≤ x1 then (ob_b1 (fd_X1_become t y) (fun t_2 => fd_X4_order_L32 2000 b y t_2 x1 0)) else (some ((-1000001), t))) else (some ((-1000002), t)))
set_option maxHeartbeats 4000000 in
set_option maxRecDepth 100000 in
theorem mt_X4_order (l : Launch) (dC : Nat → ClassId) (dI : Nat → Nat → Nat) (cI cZ cR cW : ClassId) (xs : Nat → Nat) (sz : Nat) (o_b : Nat) (a_b : Nat → Nat) (a_y : Nat → Nat) (a_t : Nat → Nat) (b : ob_B) (y : ob_B) (t : ob_B) (x1 : Int32)  (rr : Int32) (t' : ob_B) (hd : fd_X4_order b y t x1 = some (rr, t')) : ob_M l yX4_order wsX4_order ({ frames := 4, cells := 0, slots := 0, locals := 90 } : Room) (dC, dI) (ob_ty cI cZ cR cW) xs [.ref o_b, .int x1] (ob_w4 o_b a_b cI b ++ ob_w1 (a_b 2) a_y cI y ++ ob_w1 (a_b 3) a_t cI t) sz (ob_Qi (dC, dI) rr (ob_w4 o_b a_b cI b ++ ob_w1 (a_b 2) a_y cI y ++ ob_w1 (a_b 3) a_t cI t')) := by
  rw [fd_X4_order] at hd
  refine ob_in (cc := cX4_order) (maxL := 6) (ret := (some .int)) (own := RX4) (by decide) rfl rfl [(0, .ref o_b), (1, .int x1)] rfl (Nat.le_of_ble_eq_true rfl) ?_
  intro p e s m below meth c hx hb hr hml hown hts hlocks hnm hK A hA hE hP hD hS ls hl
  have kw0 := hts (.fieldLink RX4 29 "OathCoach" "trial" "LOathCoach$Route;") (by decide +kernel)
  have kw1 := hts (.fieldLink RX4 25 "OathCoach" "route" "LOathCoach$Route;") (by decide +kernel)
  have kw2 := hts (.constant RX4 62 (-1000001)) (by decide +kernel)
  have kw3 := hts (.constant RX4 137 (-1000002)) (by decide +kernel)
  have kw4 := hts (.constant RX4 205 (-1000000)) (by decide +kernel)
  have hi_X4 : ∀ w ∈ u_ws RX4 TX4 10, w ∈ wsX4_order := by decide +kernel
  have L60 : ∀ (H : Heap) (locs : List Loc) (t : ob_B) (z2 : Int32) (z4 : Int32) (ls : Array Slot), va_P (dC, dI) vwCl (ob_w4 o_b a_b cI b ++ ob_w1 (a_b 2) a_y cI y ++ ob_w1 (a_b 3) a_t cI t) H → va_D A (ob_w4 o_b a_b cI b ++ ob_w1 (a_b 2) a_y cI y ++ ob_w1 (a_b 3) a_t cI t) → va_S A s.heap H locs → lv_has ls 6 [(2, .int z2), (4, .int z4)] → fd_X4_order_L60 b y t z2 z4 = some (rr, t') → W p l e ({ frames := 4, cells := 0, slots := 0, locals := 90 } : Room) s m (List.toArray [.ref o_b, .int x1]) below meth c H locs 0 0 (MQ below ((ob_Qi (dC, dI) rr (ob_w4 o_b a_b cI b ++ ob_w1 (a_b 2) a_y cI y ++ ob_w1 (a_b 3) a_t cI t')) A) (List.toArray [.ref o_b, .int x1]) s 0 0 A) (F0 m 60 ls []) := by
    intro  H locs t z2 z4 ls hP hD hS hl hd
    rw [fd_X4_order_L60] at hd
    refine lv_iload hx hb dX4_order_60 (lv_at hl 1 rfl) ?_
    refine lv_iload_n hx hb dX4_order_62 rfl (lv_at hl 0 rfl) ?_
    obtain ⟨r_8, hc_63, hd⟩ := ob_s1 hd
    refine ob_Si (isC := []) (isR := [0, 1, 2, 3, 4, 5, 6, 7, 8, 9, 10, 11, 12, 13]) (is2 := [0, 1, 2, 3, 4, 5, 6, 7, 8, 9, 10, 11, 12, 13]) (wc := ([] : va_W)) (wr := (List.filterMap (fun i => (ob_w4 o_b a_b cI b ++ ob_w1 (a_b 2) a_y cI y ++ ob_w1 (a_b 3) a_t cI t)[i]?) [0, 1, 2, 3, 4, 5, 6, 7, 8, 9, 10, 11, 12, 13])) (w1 := ([] : va_W)) (w2 := (ob_w4 o_b a_b cI b ++ ob_w1 (a_b 2) a_y cI y ++ ob_w1 (a_b 3) a_t cI t)) (As := [.int z4, .int z2]) (rest := []) ⟨hx, hb, hml, hown, hts⟩ (mt_X4_bitAt l dC dI cI cZ cR cW xs _ z4 z2 r_8 hc_63) (va_cwS 2 hts gX4_order_X4_bitAt rfl rfl rfl (by decide +kernel) ⟨Nat.le_of_ble_eq_true rfl, Nat.le_of_ble_eq_true rfl⟩) hK hE hP hD hS hA ⟨rfl, rfl, rfl, rfl, rfl, rfl, rfl⟩ hl rfl rfl (Nat.le_of_ble_eq_true rfl) ⟨Nat.le_of_ble_eq_true rfl, Nat.le_of_ble_eq_true rfl⟩ dX4_order_63 (fun H locs hP hD hS => ?_)
    refine W.widen (k := 0) (n := 0) (Nat.le_refl _) (Nat.le_refl _) ?_
    obtain ⟨e1, e2⟩ := ob_pp hd
    subst e1
    subst e2
    exact ob_iret hx hb hr hlocks hP hD hS dX4_order_66
  have L32 : ∀  (fu : Nat), ∀ (H : Heap) (locs : List Loc) (t : ob_B) (z2 : Int32) (z3 : Int32) (ls : Array Slot), va_P (dC, dI) vwCl (ob_w4 o_b a_b cI b ++ ob_w1 (a_b 2) a_y cI y ++ ob_w1 (a_b 3) a_t cI t) H → va_D A (ob_w4 o_b a_b cI b ++ ob_w1 (a_b 2) a_y cI y ++ ob_w1 (a_b 3) a_t cI t) → va_S A s.heap H locs → lv_has ls 6 [(0, .ref o_b), (2, .int z2), (3, .int z3)] → fd_X4_order_L32 fu b y t z2 z3 = some (rr, t') → W p l e ({ frames := 4, cells := 0, slots := 0, locals := 90 } : Room) s m (List.toArray [.ref o_b, .int x1]) below meth c H locs 0 0 (MQ below ((ob_Qi (dC, dI) rr (ob_w4 o_b a_b cI b ++ ob_w1 (a_b 2) a_y cI y ++ ob_w1 (a_b 3) a_t cI t')) A) (List.toArray [.ref o_b, .int x1]) s 0 0 A) (F0 m 32 ls []) := by
    intro  fu
    induction fu with
    | zero =>
      intro H locs t z2 z3 ls hP hD hS hl hd
      rw [fd_X4_order_L32] at hd
      cases hd
    | succ fu ih =>
      intro H locs t z2 z3 ls hP hD hS hl hd
      rw [fd_X4_order_L32] at hd
      refine lv_iload_n hx hb dX4_order_32 rfl (lv_at hl 2 rfl) ?_
      refine lv_bipush (v := 60) hx hb dX4_order_33 (by decide) ?_
      refine lv_icmp_ge (tgt := 78) hx hb dX4_order_35 (by decide) (fun c_35 => ?_) (fun c_35 => ?_)
      · replace hd := ob_t c_35 hd
        refine lv_ldc hx hb hown kw4 dX4_order_78 ?_
        obtain ⟨e1, e2⟩ := ob_pp hd
        subst e1
        subst e2
        exact ob_iret hx hb hr hlocks hP hD hS dX4_order_80
      · replace hd := ob_f c_35 hd
        refine lv_aload_n hx hb dX4_order_38 rfl (lv_at hl 0 rfl) ?_
        refine va_get (D := (dC, dI)) (ci := 4) (v := .ref (a_b 3)) (C := RX4) (T := TX4) (N := 10) hx hb hts hi_X4 hown hK hP 0 rfl rfl 3 (by decide) kw0 (fun _ h9 => h9) rfl dX4_order_39 ?_
        obtain ⟨r_3, t_4, hc_42, hd⟩ := ob_s2 hd
        refine ob_Vi (isC := [8, 9, 10, 11, 12, 13]) (isR := [0, 1, 2, 3, 4, 5, 6, 7]) (is2 := [0, 1, 2, 3, 4, 5, 6, 7, 8, 9, 10, 11, 12, 13]) (wc := (ob_w1 (a_b 3) a_t cI t)) (wr := (List.filterMap (fun i => (ob_w4 o_b a_b cI b ++ ob_w1 (a_b 2) a_y cI y ++ ob_w1 (a_b 3) a_t cI t)[i]?) [0, 1, 2, 3, 4, 5, 6, 7])) (w1 := (ob_w1 (a_b 3) a_t cI t_4)) (w2 := (ob_w4 o_b a_b cI b ++ ob_w1 (a_b 2) a_y cI y ++ ob_w1 (a_b 3) a_t cI t_4)) (b := (a_b 3)) (As := []) (rest := []) ⟨hx, hb, hml, hown, hts⟩ (mt_X1_passHour l dC dI cI cZ cR cW xs _ ((a_b 3)) a_t t r_3 t_4 hc_42) (cwV 0 hts gX4_order_X1_passHour rfl rfl rfl (by decide +kernel) ⟨Nat.le_of_ble_eq_true rfl, Nat.le_of_ble_eq_true rfl⟩) hK hE hP hD hS hA ⟨rfl, rfl, rfl, rfl, rfl, rfl, rfl⟩ 1 0 rfl rfl rfl hl rfl rfl (Nat.le_of_ble_eq_true rfl) ⟨Nat.le_of_ble_eq_true rfl, Nat.le_of_ble_eq_true rfl⟩ dX4_order_42 (fun H locs hP hD hS => ?_)
        refine W.widen (k := 0) (n := 0) (Nat.le_refl _) (Nat.le_refl _) ?_
        refine lv_istore (lv' := [(4, .int r_3), (0, .ref o_b), (2, .int z2), (3, .int z3)]) hx hb dX4_order_45 hl (by decide) rfl (fun ls hl => ?_)
        refine lv_iload hx hb dX4_order_47 (lv_at hl 0 rfl) ?_
        obtain ⟨r_5, hc_49, hd⟩ := ob_s1 hd
        refine ob_Si (isC := []) (isR := [0, 1, 2, 3, 4, 5, 6, 7, 8, 9, 10, 11, 12, 13]) (is2 := [0, 1, 2, 3, 4, 5, 6, 7, 8, 9, 10, 11, 12, 13]) (wc := ([] : va_W)) (wr := (List.filterMap (fun i => (ob_w4 o_b a_b cI b ++ ob_w1 (a_b 2) a_y cI y ++ ob_w1 (a_b 3) a_t cI t_4)[i]?) [0, 1, 2, 3, 4, 5, 6, 7, 8, 9, 10, 11, 12, 13])) (w1 := ([] : va_W)) (w2 := (ob_w4 o_b a_b cI b ++ ob_w1 (a_b 2) a_y cI y ++ ob_w1 (a_b 3) a_t cI t_4)) (As := [.int r_3]) (rest := []) ⟨hx, hb, hml, hown, hts⟩ (mt_J6_bitCount_0f7a4 l dC dI cI cZ cR cW xs _ r_3 r_5 hc_49) (va_cwS 1 hts gX4_order_J6_bitCount_0f7a4 rfl rfl rfl (by decide +kernel) ⟨Nat.le_of_ble_eq_true rfl, Nat.le_of_ble_eq_true rfl⟩) hK hE hP hD hS hA ⟨rfl, rfl, rfl, rfl, rfl, rfl, rfl⟩ hl rfl rfl (Nat.le_of_ble_eq_true rfl) ⟨Nat.le_of_ble_eq_true rfl, Nat.le_of_ble_eq_true rfl⟩ dX4_order_49 (fun H locs hP hD hS => ?_)
        refine W.widen (k := 0) (n := 0) (Nat.le_refl _) (Nat.le_refl _) ?_
        refine lv_istore (lv' := [(5, .int r_5), (4, .int r_3), (0, .ref o_b), (2, .int z2), (3, .int z3)]) hx hb dX4_order_52 hl (by decide) rfl (fun ls hl => ?_)
        refine lv_iload_n hx hb dX4_order_54 rfl (lv_at hl 3 rfl) ?_
        refine lv_iload hx hb dX4_order_55 (lv_at hl 0 rfl) ?_
        refine lv_icmp_ge (tgt := 67) hx hb dX4_order_57 (by decide) (fun c_57 => ?_) (fun c_57 => ?_)
        · replace hd := ob_t c_57 hd
          refine lv_iload_n hx hb dX4_order_67 rfl (lv_at hl 3 rfl) ?_
          refine lv_iload hx hb dX4_order_68 (lv_at hl 0 rfl) ?_
          refine lv_isub hx hb dX4_order_70 ?_
          refine lv_topi (fun x_6 ex_6 => ?_)
          replace hd := ob_lx ex_6 hd
          clear ex_6
          refine lv_istore_n (lv' := [(2, .int x_6), (5, .int r_5), (4, .int r_3), (0, .ref o_b), (3, .int z3)]) hx hb dX4_order_71 rfl hl (by decide) rfl (fun ls hl => ?_)
          obtain ⟨x_7, ex_7⟩ : ∃ z : Int32, z = z3 + 1 := ⟨_, rfl⟩
          replace hd := ob_lx ex_7 hd
          refine lv_iinc (v := x_7) (lv' := [(3, .int x_7), (2, .int x_6), (5, .int r_5), (4, .int r_3), (0, .ref o_b)]) hx hb dX4_order_72 hl (k := 4) rfl (by rw [ex_7]; rfl) (by decide) rfl (fun ls hl => ?_)
          clear ex_7
          refine lv_goto (tgt := 32) hx hb dX4_order_75 (by decide) ?_
          exact ih _ _ t_4 x_6 x_7 _ hP hD hS (lv_sub hl [4, 1, 0] rfl) hd
        · replace hd := ob_f c_57 hd
          exact L60   _ _ t_4 z2 r_3 _ hP hD hS (lv_sub hl [3, 1] rfl) hd
  refine lv_aload_n hx hb dX4_order_0 rfl (lv_at hl 0 rfl) ?_
  obtain ⟨r_1, hc_1, hd⟩ := ob_s1 hd
  refine ob_Vi (isC := [0, 1, 2, 3, 4, 5, 6, 7]) (isR := [8, 9, 10, 11, 12, 13]) (is2 := [6, 7, 8, 9, 10, 11, 12, 13, 0, 1, 2, 3, 4, 5]) (wc := (ob_w4 o_b a_b cI b ++ ob_w1 (a_b 2) a_y cI y)) (wr := (List.filterMap (fun i => (ob_w4 o_b a_b cI b ++ ob_w1 (a_b 2) a_y cI y ++ ob_w1 (a_b 3) a_t cI t)[i]?) [8, 9, 10, 11, 12, 13])) (w1 := (ob_w4 o_b a_b cI b ++ ob_w1 (a_b 2) a_y cI y)) (w2 := (ob_w4 o_b a_b cI b ++ ob_w1 (a_b 2) a_y cI y ++ ob_w1 (a_b 3) a_t cI t)) (b := o_b) (As := []) (rest := []) ⟨hx, hb, hml, hown, hts⟩ (mt_X4_noRoute l dC dI cI cZ cR cW xs _ o_b a_b a_y b y r_1 hc_1) (cwV 0 hts gX4_order_X4_noRoute rfl rfl rfl (by decide +kernel) ⟨Nat.le_of_ble_eq_true rfl, Nat.le_of_ble_eq_true rfl⟩) hK hE hP hD hS hA ⟨rfl, rfl, rfl, rfl, rfl, rfl, rfl⟩ 4 0 rfl rfl rfl hl rfl rfl (Nat.le_of_ble_eq_true rfl) ⟨Nat.le_of_ble_eq_true rfl, Nat.le_of_ble_eq_true rfl⟩ dX4_order_1 (fun H locs hP hD hS => ?_)
  refine W.widen (k := 0) (n := 0) (Nat.le_refl _) (Nat.le_refl _) ?_
  refine lv_if_eq (tgt := 10) hx hb dX4_order_4 (by decide) (fun c_4 => ?_) (fun c_4 => ?_)
  · replace hd := ob_t c_4 hd
    refine lv_iload_n hx hb dX4_order_10 rfl (lv_at hl 1 rfl) ?_
    refine lv_if_ge (tgt := 17) hx hb dX4_order_11 (by decide) (fun c_11 => ?_) (fun c_11 => ?_)
    · replace hd := ob_t c_11 hd
      refine lv_aload_n hx hb dX4_order_17 rfl (lv_at hl 0 rfl) ?_
      refine va_get (D := (dC, dI)) (ci := 4) (v := .ref (a_b 3)) (C := RX4) (T := TX4) (N := 10) hx hb hts hi_X4 hown hK hP 0 rfl rfl 3 (by decide) kw0 (fun _ h9 => h9) rfl dX4_order_18 ?_
      refine lv_aload_n hx hb dX4_order_21 rfl (lv_at hl 0 rfl) ?_
      refine va_get (D := (dC, dI)) (ci := 4) (v := .ref (a_b 2)) (C := RX4) (T := TX4) (N := 10) hx hb hts hi_X4 hown hK hP 0 rfl rfl 2 (by decide) kw1 (fun _ h9 => h9) rfl dX4_order_22 ?_
      obtain ⟨t_2, hc_25, hd⟩ := ob_s1 hd
      refine ob_Vv (isC := [8, 9, 10, 11, 12, 13, 2, 3, 4, 5, 6, 7]) (isR := [0, 1]) (is2 := [0, 1, 8, 9, 10, 11, 12, 13, 2, 3, 4, 5, 6, 7]) (wc := (ob_w1 (a_b 3) a_t cI t ++ ob_w1 (a_b 2) a_y cI y)) (wr := (List.filterMap (fun i => (ob_w4 o_b a_b cI b ++ ob_w1 (a_b 2) a_y cI y ++ ob_w1 (a_b 3) a_t cI t)[i]?) [0, 1])) (w1 := (ob_w1 (a_b 3) a_t cI t_2 ++ ob_w1 (a_b 2) a_y cI y)) (w2 := (ob_w4 o_b a_b cI b ++ ob_w1 (a_b 2) a_y cI y ++ ob_w1 (a_b 3) a_t cI t_2)) (b := (a_b 3)) (As := [.ref (a_b 2)]) (rest := []) ⟨hx, hb, hml, hown, hts⟩ (mt_X1_become l dC dI cI cZ cR cW xs _ ((a_b 3)) a_t ((a_b 2)) a_y t y t_2 hc_25) (cwV 1 hts gX4_order_X1_become rfl rfl rfl (by decide +kernel) ⟨Nat.le_of_ble_eq_true rfl, Nat.le_of_ble_eq_true rfl⟩) hK hE hP hD hS hA ⟨rfl, rfl, rfl, rfl, rfl, rfl, rfl⟩ 1 0 rfl rfl rfl hl rfl rfl (Nat.le_of_ble_eq_true rfl) ⟨Nat.le_of_ble_eq_true rfl, Nat.le_of_ble_eq_true rfl⟩ dX4_order_25 (fun H locs hP hD hS => ?_)
      refine W.widen (k := 0) (n := 0) (Nat.le_refl _) (Nat.le_refl _) ?_
      refine lv_iload_n hx hb dX4_order_28 rfl (lv_at hl 1 rfl) ?_
      refine lv_istore_n (lv' := [(2, .int x1), (0, .ref o_b), (1, .int x1)]) hx hb dX4_order_29 rfl hl (by decide) rfl (fun ls hl => ?_)
      refine lv_iconst (v := 0) hx hb dX4_order_30 (by decide) ?_
      refine lv_istore_n (lv' := [(3, .int 0), (2, .int x1), (0, .ref o_b), (1, .int x1)]) hx hb dX4_order_31 rfl hl (by decide) rfl (fun ls hl => ?_)
      exact L32  2000 _ _ t_2 x1 0 _ hP hD hS (lv_sub hl [2, 1, 0] rfl) hd
    · replace hd := ob_f c_11 hd
      refine lv_ldc hx hb hown kw2 dX4_order_14 ?_
      obtain ⟨e1, e2⟩ := ob_pp hd
      subst e1
      subst e2
      exact ob_iret hx hb hr hlocks hP hD hS dX4_order_16
  · replace hd := ob_f c_4 hd
    refine lv_ldc hx hb hown kw3 dX4_order_7 ?_
    obtain ⟨e1, e2⟩ := ob_pp hd
    subst e1
    subst e2
    exact ob_iret hx hb hr hlocks hP hD hS dX4_order_9

def fd_X4_drawn_L96 (k_58 : ob_B → ob_B → ob_B → Int32 → Int32 → Int64 → Int32 → Option (Int32 × ob_B)) (b : ob_B) (y : ob_B) (t : ob_B) (x1 : Int32) (x3 : Int32) (z4 : Int64) (z6 : Int32) : Option (Int32 × ob_B) := ob_b2 (fd_X1_passHour t) (fun r_11 t_12 => ob_lt (z6 + 1 : Int32) (fun x_13 => k_58 b y t_12 x1 x3 z4 x_13))
def fd_X4_drawn_L110  (b : ob_B) (y : ob_B) (t : ob_B) (x3 : Int32) : Option (Int32 × ob_B) := if x3 = 0 then (some (t.1 0, t)) else (ob_b1 (fd_X1_openBits t) (fun r_9 => ob_b1 (fd_J6_bitCount_0f7a4 r_9) (fun r_10 => some (r_10, t))))
def fd_X4_drawn_L58  : Nat → ob_B → ob_B → ob_B → Int32 → Int32 → Int64 → Int32 → Option (Int32 × ob_B)
  | 0, _, _, _, _, _, _, _ => none
  | fu + 1, b, y, t, x1, x3, z4, z6 => if x1 ≤ z6 then (fd_X4_drawn_L110 b y t x3) else (ob_lt ((z4 * 16807) - (z4 * 16807) / 2147483647 * 2147483647 : Int64) (fun x_7 => if (lg_cmp (x_7 - x_7 / 3 * 3) 0) = 0 then (ob_b1 (fd_X1_openByDraw t x_7) (fun t_8 => fd_X4_drawn_L96 (fd_X4_drawn_L58 fu) b y t_8 x1 x3 x_7 z6)) else (fd_X4_drawn_L96 (fd_X4_drawn_L58 fu) b y t x1 x3 x_7 z6)))
def fd_X4_drawn  (b : ob_B) (y : ob_B) (t : ob_B) (x1 : Int32) (x2 : Int32) (x3 : Int32) : Option (Int32 × ob_B) := ob_b1 (fd_X4_noRoute b y) (fun r_1 => if r_1 = 0 then (ob_b1 (fd_X4_isWithin x1 0 60) (fun r_2 => if r_2 = 0 then (some ((-1000001), t)) else (ob_b1 (fd_X4_isWithin x2 1 999999) (fun r_3 => if r_3 = 0 then (some ((-1000001), t)) else (ob_b1 (fd_X4_isEither x3) (fun r_4 => if r_4 = 0 then (some ((-1000001), t)) else (ob_b1 (fd_X1_become t y) (fun t_5 => ob_lt (Int32.toInt64 x2 : Int64) (fun x_6 => fd_X4_drawn_L58 2000 b y t_5 x1 x3 x_6 0))))))))) else (some ((-1000002), t)))
set_option maxHeartbeats 4000000 in
set_option maxRecDepth 100000 in
theorem mt_X4_drawn (l : Launch) (dC : Nat → ClassId) (dI : Nat → Nat → Nat) (cI cZ cR cW : ClassId) (xs : Nat → Nat) (sz : Nat) (o_b : Nat) (a_b : Nat → Nat) (a_y : Nat → Nat) (a_t : Nat → Nat) (b : ob_B) (y : ob_B) (t : ob_B) (x1 : Int32) (x2 : Int32) (x3 : Int32)  (rr : Int32) (t' : ob_B) (hd : fd_X4_drawn b y t x1 x2 x3 = some (rr, t')) : ob_M l yX4_drawn wsX4_drawn ({ frames := 4, cells := 0, slots := 0, locals := 90 } : Room) (dC, dI) (ob_ty cI cZ cR cW) xs [.ref o_b, .int x1, .int x2, .int x3] (ob_w4 o_b a_b cI b ++ ob_w1 (a_b 2) a_y cI y ++ ob_w1 (a_b 3) a_t cI t) sz (ob_Qi (dC, dI) rr (ob_w4 o_b a_b cI b ++ ob_w1 (a_b 2) a_y cI y ++ ob_w1 (a_b 3) a_t cI t')) := by
  rw [fd_X4_drawn] at hd
  refine ob_in (cc := cX4_drawn) (maxL := 7) (ret := (some .int)) (own := RX4) (by decide) rfl rfl [(0, .ref o_b), (1, .int x1), (2, .int x2), (3, .int x3)] rfl (Nat.le_of_ble_eq_true rfl) ?_
  intro p e s m below meth c hx hb hr hml hown hts hlocks hnm hK A hA hE hP hD hS ls hl
  have kw0 := hts (.constant RX4 62 (-1000001)) (by decide +kernel)
  have kw1 := hts (.constant RX4 234 (999999)) (by decide +kernel)
  have kw2 := hts (.fieldLink RX4 29 "OathCoach" "trial" "LOathCoach$Route;") (by decide +kernel)
  have kw3 := hts (.fieldLink RX4 25 "OathCoach" "route" "LOathCoach$Route;") (by decide +kernel)
  have kw4 := hts (.constant RX4 137 (-1000002)) (by decide +kernel)
  have kw5 := hts (.constantLong RX4 235 (16807)) (by decide +kernel)
  have kw6 := hts (.constantLong RX4 237 (2147483647)) (by decide +kernel)
  have kw7 := hts (.constantLong RX4 239 (3)) (by decide +kernel)
  have kw8 := hts (.fieldLink RX4 152 "OathCoach$Route" "at" "I") (by decide +kernel)
  have hi_X1 : ∀ w ∈ u_ws RX1 TX1 12, w ∈ wsX4_drawn := by decide +kernel
  have hi_X4 : ∀ w ∈ u_ws RX4 TX4 10, w ∈ wsX4_drawn := by decide +kernel
  have L96 : ∀ (k_58 : ob_B → ob_B → ob_B → Int32 → Int32 → Int64 → Int32 → Option (Int32 × ob_B)) (hk_58 : ∀ (H : Heap) (locs : List Loc) (t : ob_B) (z4 : Int64) (z6 : Int32) (ls : Array Slot), va_P (dC, dI) vwCl (ob_w4 o_b a_b cI b ++ ob_w1 (a_b 2) a_y cI y ++ ob_w1 (a_b 3) a_t cI t) H → va_D A (ob_w4 o_b a_b cI b ++ ob_w1 (a_b 2) a_y cI y ++ ob_w1 (a_b 3) a_t cI t) → va_S A s.heap H locs → lv_has ls 7 [(0, .ref o_b), (1, .int x1), (3, .int x3), (4, .long z4), (6, .int z6)] → k_58 b y t x1 x3 z4 z6 = some (rr, t') → W p l e ({ frames := 4, cells := 0, slots := 0, locals := 90 } : Room) s m (List.toArray [.ref o_b, .int x1, .int x2, .int x3]) below meth c H locs 0 0 (MQ below ((ob_Qi (dC, dI) rr (ob_w4 o_b a_b cI b ++ ob_w1 (a_b 2) a_y cI y ++ ob_w1 (a_b 3) a_t cI t')) A) (List.toArray [.ref o_b, .int x1, .int x2, .int x3]) s 0 0 A) (F0 m 58 ls [])), ∀ (H : Heap) (locs : List Loc) (t : ob_B) (z4 : Int64) (z6 : Int32) (ls : Array Slot), va_P (dC, dI) vwCl (ob_w4 o_b a_b cI b ++ ob_w1 (a_b 2) a_y cI y ++ ob_w1 (a_b 3) a_t cI t) H → va_D A (ob_w4 o_b a_b cI b ++ ob_w1 (a_b 2) a_y cI y ++ ob_w1 (a_b 3) a_t cI t) → va_S A s.heap H locs → lv_has ls 7 [(0, .ref o_b), (1, .int x1), (3, .int x3), (4, .long z4), (6, .int z6)] → fd_X4_drawn_L96 k_58 b y t x1 x3 z4 z6 = some (rr, t') → W p l e ({ frames := 4, cells := 0, slots := 0, locals := 90 } : Room) s m (List.toArray [.ref o_b, .int x1, .int x2, .int x3]) below meth c H locs 0 0 (MQ below ((ob_Qi (dC, dI) rr (ob_w4 o_b a_b cI b ++ ob_w1 (a_b 2) a_y cI y ++ ob_w1 (a_b 3) a_t cI t')) A) (List.toArray [.ref o_b, .int x1, .int x2, .int x3]) s 0 0 A) (F0 m 96 ls []) := by
    intro k_58 hk_58 H locs t z4 z6 ls hP hD hS hl hd
    rw [fd_X4_drawn_L96] at hd
    refine lv_aload_n hx hb dX4_drawn_96 rfl (lv_at hl 0 rfl) ?_
    refine va_get (D := (dC, dI)) (ci := 4) (v := .ref (a_b 3)) (C := RX4) (T := TX4) (N := 10) hx hb hts hi_X4 hown hK hP 0 rfl rfl 3 (by decide) kw2 (fun _ h9 => h9) rfl dX4_drawn_97 ?_
    obtain ⟨r_11, t_12, hc_100, hd⟩ := ob_s2 hd
    refine ob_Vi (isC := [8, 9, 10, 11, 12, 13]) (isR := [0, 1, 2, 3, 4, 5, 6, 7]) (is2 := [0, 1, 2, 3, 4, 5, 6, 7, 8, 9, 10, 11, 12, 13]) (wc := (ob_w1 (a_b 3) a_t cI t)) (wr := (List.filterMap (fun i => (ob_w4 o_b a_b cI b ++ ob_w1 (a_b 2) a_y cI y ++ ob_w1 (a_b 3) a_t cI t)[i]?) [0, 1, 2, 3, 4, 5, 6, 7])) (w1 := (ob_w1 (a_b 3) a_t cI t_12)) (w2 := (ob_w4 o_b a_b cI b ++ ob_w1 (a_b 2) a_y cI y ++ ob_w1 (a_b 3) a_t cI t_12)) (b := (a_b 3)) (As := []) (rest := []) ⟨hx, hb, hml, hown, hts⟩ (mt_X1_passHour l dC dI cI cZ cR cW xs _ ((a_b 3)) a_t t r_11 t_12 hc_100) (cwV 0 hts gX4_drawn_X1_passHour rfl rfl rfl (by decide +kernel) ⟨Nat.le_of_ble_eq_true rfl, Nat.le_of_ble_eq_true rfl⟩) hK hE hP hD hS hA ⟨rfl, rfl, rfl, rfl, rfl, rfl, rfl⟩ 1 0 rfl rfl rfl hl rfl rfl (Nat.le_of_ble_eq_true rfl) ⟨Nat.le_of_ble_eq_true rfl, Nat.le_of_ble_eq_true rfl⟩ dX4_drawn_100 (fun H locs hP hD hS => ?_)
    refine W.widen (k := 0) (n := 0) (Nat.le_refl _) (Nat.le_refl _) ?_
    refine lv_pop hx hb dX4_drawn_103 rfl ?_
    obtain ⟨x_13, ex_13⟩ : ∃ z : Int32, z = z6 + 1 := ⟨_, rfl⟩
    replace hd := ob_lx ex_13 hd
    refine lv_iinc (v := x_13) (lv' := [(6, .int x_13), (0, .ref o_b), (1, .int x1), (3, .int x3), (4, .long z4)]) hx hb dX4_drawn_104 hl (k := 4) rfl (by rw [ex_13]; rfl) (by decide) rfl (fun ls hl => ?_)
    clear ex_13
    refine lv_goto (tgt := 58) hx hb dX4_drawn_107 (by decide) ?_
    exact hk_58 _ _ t_12 z4 x_13 _ hP hD hS (lv_sub hl [1, 2, 3, 4, 0] rfl) hd
  have L110 : ∀ (H : Heap) (locs : List Loc) (t : ob_B)  (ls : Array Slot), va_P (dC, dI) vwCl (ob_w4 o_b a_b cI b ++ ob_w1 (a_b 2) a_y cI y ++ ob_w1 (a_b 3) a_t cI t) H → va_D A (ob_w4 o_b a_b cI b ++ ob_w1 (a_b 2) a_y cI y ++ ob_w1 (a_b 3) a_t cI t) → va_S A s.heap H locs → lv_has ls 7 [(0, .ref o_b), (3, .int x3)] → fd_X4_drawn_L110 b y t x3 = some (rr, t') → W p l e ({ frames := 4, cells := 0, slots := 0, locals := 90 } : Room) s m (List.toArray [.ref o_b, .int x1, .int x2, .int x3]) below meth c H locs 0 0 (MQ below ((ob_Qi (dC, dI) rr (ob_w4 o_b a_b cI b ++ ob_w1 (a_b 2) a_y cI y ++ ob_w1 (a_b 3) a_t cI t')) A) (List.toArray [.ref o_b, .int x1, .int x2, .int x3]) s 0 0 A) (F0 m 110 ls []) := by
    intro  H locs t ls hP hD hS hl hd
    rw [fd_X4_drawn_L110] at hd
    refine lv_iload_n hx hb dX4_drawn_110 rfl (lv_at hl 1 rfl) ?_
    refine lv_if_ne (tgt := 124) hx hb dX4_drawn_111 (by decide) (fun c_111 => ?_) (fun c_111 => ?_)
    · replace hd := ob_f c_111 hd
      refine lv_aload_n hx hb dX4_drawn_124 rfl (lv_at hl 0 rfl) ?_
      refine va_get (D := (dC, dI)) (ci := 4) (v := .ref (a_b 3)) (C := RX4) (T := TX4) (N := 10) hx hb hts hi_X4 hown hK hP 0 rfl rfl 3 (by decide) kw2 (fun _ h9 => h9) rfl dX4_drawn_125 ?_
      obtain ⟨r_9, hc_128, hd⟩ := ob_s1 hd
      refine ob_Vi (isC := [8, 9, 10, 11, 12, 13]) (isR := [0, 1, 2, 3, 4, 5, 6, 7]) (is2 := [0, 1, 2, 3, 4, 5, 6, 7, 8, 9, 10, 11, 12, 13]) (wc := (ob_w1 (a_b 3) a_t cI t)) (wr := (List.filterMap (fun i => (ob_w4 o_b a_b cI b ++ ob_w1 (a_b 2) a_y cI y ++ ob_w1 (a_b 3) a_t cI t)[i]?) [0, 1, 2, 3, 4, 5, 6, 7])) (w1 := (ob_w1 (a_b 3) a_t cI t)) (w2 := (ob_w4 o_b a_b cI b ++ ob_w1 (a_b 2) a_y cI y ++ ob_w1 (a_b 3) a_t cI t)) (b := (a_b 3)) (As := []) (rest := []) ⟨hx, hb, hml, hown, hts⟩ (mt_X1_openBits l dC dI cI cZ cR cW xs _ ((a_b 3)) a_t t r_9 hc_128) (cwV 0 hts gX4_drawn_X1_openBits rfl rfl rfl (by decide +kernel) ⟨Nat.le_of_ble_eq_true rfl, Nat.le_of_ble_eq_true rfl⟩) hK hE hP hD hS hA ⟨rfl, rfl, rfl, rfl, rfl, rfl, rfl⟩ 1 0 rfl rfl rfl hl rfl rfl (Nat.le_of_ble_eq_true rfl) ⟨Nat.le_of_ble_eq_true rfl, Nat.le_of_ble_eq_true rfl⟩ dX4_drawn_128 (fun H locs hP hD hS => ?_)
      refine W.widen (k := 0) (n := 0) (Nat.le_refl _) (Nat.le_refl _) ?_
      obtain ⟨r_10, hc_131, hd⟩ := ob_s1 hd
      refine ob_Si (isC := []) (isR := [0, 1, 2, 3, 4, 5, 6, 7, 8, 9, 10, 11, 12, 13]) (is2 := [0, 1, 2, 3, 4, 5, 6, 7, 8, 9, 10, 11, 12, 13]) (wc := ([] : va_W)) (wr := (List.filterMap (fun i => (ob_w4 o_b a_b cI b ++ ob_w1 (a_b 2) a_y cI y ++ ob_w1 (a_b 3) a_t cI t)[i]?) [0, 1, 2, 3, 4, 5, 6, 7, 8, 9, 10, 11, 12, 13])) (w1 := ([] : va_W)) (w2 := (ob_w4 o_b a_b cI b ++ ob_w1 (a_b 2) a_y cI y ++ ob_w1 (a_b 3) a_t cI t)) (As := [.int r_9]) (rest := []) ⟨hx, hb, hml, hown, hts⟩ (mt_J6_bitCount_0f7a4 l dC dI cI cZ cR cW xs _ r_9 r_10 hc_131) (va_cwS 1 hts gX4_drawn_J6_bitCount_0f7a4 rfl rfl rfl (by decide +kernel) ⟨Nat.le_of_ble_eq_true rfl, Nat.le_of_ble_eq_true rfl⟩) hK hE hP hD hS hA ⟨rfl, rfl, rfl, rfl, rfl, rfl, rfl⟩ hl rfl rfl (Nat.le_of_ble_eq_true rfl) ⟨Nat.le_of_ble_eq_true rfl, Nat.le_of_ble_eq_true rfl⟩ dX4_drawn_131 (fun H locs hP hD hS => ?_)
      refine W.widen (k := 0) (n := 0) (Nat.le_refl _) (Nat.le_refl _) ?_
      obtain ⟨e1, e2⟩ := ob_pp hd
      subst e1
      subst e2
      exact ob_iret hx hb hr hlocks hP hD hS dX4_drawn_134
    · replace hd := ob_t c_111 hd
      refine lv_aload_n hx hb dX4_drawn_114 rfl (lv_at hl 0 rfl) ?_
      refine va_get (D := (dC, dI)) (ci := 4) (v := .ref (a_b 3)) (C := RX4) (T := TX4) (N := 10) hx hb hts hi_X4 hown hK hP 0 rfl rfl 3 (by decide) kw2 (fun _ h9 => h9) rfl dX4_drawn_115 ?_
      refine va_get (D := (dC, dI)) (ci := 1) (v := .int (t.1 0)) (C := RX1) (T := TX1) (N := 12) hx hb hts hi_X1 hown hK hP 8 rfl rfl 0 (by decide) kw8 (fun _ h9 => h9) rfl dX4_drawn_118 ?_
      refine lv_goto (tgt := 134) hx hb dX4_drawn_121 (by decide) ?_
      obtain ⟨e1, e2⟩ := ob_pp hd
      subst e1
      subst e2
      exact ob_iret hx hb hr hlocks hP hD hS dX4_drawn_134
  have L58 : ∀  (fu : Nat), ∀ (H : Heap) (locs : List Loc) (t : ob_B) (z4 : Int64) (z6 : Int32) (ls : Array Slot), va_P (dC, dI) vwCl (ob_w4 o_b a_b cI b ++ ob_w1 (a_b 2) a_y cI y ++ ob_w1 (a_b 3) a_t cI t) H → va_D A (ob_w4 o_b a_b cI b ++ ob_w1 (a_b 2) a_y cI y ++ ob_w1 (a_b 3) a_t cI t) → va_S A s.heap H locs → lv_has ls 7 [(0, .ref o_b), (1, .int x1), (3, .int x3), (4, .long z4), (6, .int z6)] → fd_X4_drawn_L58 fu b y t x1 x3 z4 z6 = some (rr, t') → W p l e ({ frames := 4, cells := 0, slots := 0, locals := 90 } : Room) s m (List.toArray [.ref o_b, .int x1, .int x2, .int x3]) below meth c H locs 0 0 (MQ below ((ob_Qi (dC, dI) rr (ob_w4 o_b a_b cI b ++ ob_w1 (a_b 2) a_y cI y ++ ob_w1 (a_b 3) a_t cI t')) A) (List.toArray [.ref o_b, .int x1, .int x2, .int x3]) s 0 0 A) (F0 m 58 ls []) := by
    intro  fu
    induction fu with
    | zero =>
      intro H locs t z4 z6 ls hP hD hS hl hd
      rw [fd_X4_drawn_L58] at hd
      cases hd
    | succ fu ih =>
      intro H locs t z4 z6 ls hP hD hS hl hd
      rw [fd_X4_drawn_L58] at hd
      refine lv_iload hx hb dX4_drawn_58 (lv_at hl 4 rfl) ?_
      refine lv_iload_n hx hb dX4_drawn_60 rfl (lv_at hl 1 rfl) ?_
      refine lv_icmp_ge (tgt := 110) hx hb dX4_drawn_61 (by decide) (fun c_61 => ?_) (fun c_61 => ?_)
      · replace hd := ob_t c_61 hd
        exact L110   _ _ t _ hP hD hS (lv_sub hl [0, 2] rfl) hd
      · replace hd := ob_f c_61 hd
        refine lv_lload hx hb dX4_drawn_64 (lv_at hl 3 rfl) ?_
        refine lv_ldc2 hx hb hown kw5 dX4_drawn_66 ?_
        refine lv_lmul hx hb dX4_drawn_69 ?_
        refine lv_ldc2 hx hb hown kw6 dX4_drawn_70 ?_
        refine lv_lrem hx hb dX4_drawn_73 (by decide) ?_
        refine lv_topl (fun x_7 ex_7 => ?_)
        replace hd := ob_lx ex_7 hd
        clear ex_7
        refine lv_lstore (lv' := [(4, .long x_7), (0, .ref o_b), (1, .int x1), (3, .int x3), (6, .int z6)]) hx hb dX4_drawn_74 hl (by decide) rfl (fun ls hl => ?_)
        refine lv_lload hx hb dX4_drawn_76 (lv_at hl 0 rfl) ?_
        refine lv_ldc2 hx hb hown kw7 dX4_drawn_78 ?_
        refine lv_lrem hx hb dX4_drawn_81 (by decide) ?_
        refine lv_lconst (v := 0) hx hb dX4_drawn_82 (by decide) ?_
        refine W.lcmp hx hb dX4_drawn_83 ?_
        refine lv_if_ne (tgt := 96) hx hb dX4_drawn_84 (by decide) (fun c_84 => ?_) (fun c_84 => ?_)
        · replace hd := ob_f c_84 hd
          exact L96 (fd_X4_drawn_L58 fu) ih  _ _ t x_7 z6 _ hP hD hS (lv_sub hl [1, 2, 3, 0, 4] rfl) hd
        · replace hd := ob_t c_84 hd
          refine lv_aload_n hx hb dX4_drawn_87 rfl (lv_at hl 1 rfl) ?_
          refine va_get (D := (dC, dI)) (ci := 4) (v := .ref (a_b 3)) (C := RX4) (T := TX4) (N := 10) hx hb hts hi_X4 hown hK hP 0 rfl rfl 3 (by decide) kw2 (fun _ h9 => h9) rfl dX4_drawn_88 ?_
          refine lv_lload hx hb dX4_drawn_91 (lv_at hl 0 rfl) ?_
          obtain ⟨t_8, hc_93, hd⟩ := ob_s1 hd
          refine ob_Vv (isC := [8, 9, 10, 11, 12, 13]) (isR := [0, 1, 2, 3, 4, 5, 6, 7]) (is2 := [0, 1, 2, 3, 4, 5, 6, 7, 8, 9, 10, 11, 12, 13]) (wc := (ob_w1 (a_b 3) a_t cI t)) (wr := (List.filterMap (fun i => (ob_w4 o_b a_b cI b ++ ob_w1 (a_b 2) a_y cI y ++ ob_w1 (a_b 3) a_t cI t)[i]?) [0, 1, 2, 3, 4, 5, 6, 7])) (w1 := (ob_w1 (a_b 3) a_t cI t_8)) (w2 := (ob_w4 o_b a_b cI b ++ ob_w1 (a_b 2) a_y cI y ++ ob_w1 (a_b 3) a_t cI t_8)) (b := (a_b 3)) (As := [.long x_7]) (rest := []) ⟨hx, hb, hml, hown, hts⟩ (mt_X1_openByDraw l dC dI cI cZ cR cW xs _ ((a_b 3)) a_t t x_7 t_8 hc_93) (cwV 1 hts gX4_drawn_X1_openByDraw rfl rfl rfl (by decide +kernel) ⟨Nat.le_of_ble_eq_true rfl, Nat.le_of_ble_eq_true rfl⟩) hK hE hP hD hS hA ⟨rfl, rfl, rfl, rfl, rfl, rfl, rfl⟩ 1 0 rfl rfl rfl hl rfl rfl (Nat.le_of_ble_eq_true rfl) ⟨Nat.le_of_ble_eq_true rfl, Nat.le_of_ble_eq_true rfl⟩ dX4_drawn_93 (fun H locs hP hD hS => ?_)
          refine W.widen (k := 0) (n := 0) (Nat.le_refl _) (Nat.le_refl _) ?_
          exact L96 (fd_X4_drawn_L58 fu) ih  _ _ t_8 x_7 z6 _ hP hD hS (lv_sub hl [1, 2, 3, 0, 4] rfl) hd
  refine lv_aload_n hx hb dX4_drawn_0 rfl (lv_at hl 0 rfl) ?_
  obtain ⟨r_1, hc_1, hd⟩ := ob_s1 hd
  refine ob_Vi (isC := [0, 1, 2, 3, 4, 5, 6, 7]) (isR := [8, 9, 10, 11, 12, 13]) (is2 := [6, 7, 8, 9, 10, 11, 12, 13, 0, 1, 2, 3, 4, 5]) (wc := (ob_w4 o_b a_b cI b ++ ob_w1 (a_b 2) a_y cI y)) (wr := (List.filterMap (fun i => (ob_w4 o_b a_b cI b ++ ob_w1 (a_b 2) a_y cI y ++ ob_w1 (a_b 3) a_t cI t)[i]?) [8, 9, 10, 11, 12, 13])) (w1 := (ob_w4 o_b a_b cI b ++ ob_w1 (a_b 2) a_y cI y)) (w2 := (ob_w4 o_b a_b cI b ++ ob_w1 (a_b 2) a_y cI y ++ ob_w1 (a_b 3) a_t cI t)) (b := o_b) (As := []) (rest := []) ⟨hx, hb, hml, hown, hts⟩ (mt_X4_noRoute l dC dI cI cZ cR cW xs _ o_b a_b a_y b y r_1 hc_1) (cwV 0 hts gX4_drawn_X4_noRoute rfl rfl rfl (by decide +kernel) ⟨Nat.le_of_ble_eq_true rfl, Nat.le_of_ble_eq_true rfl⟩) hK hE hP hD hS hA ⟨rfl, rfl, rfl, rfl, rfl, rfl, rfl⟩ 4 0 rfl rfl rfl hl rfl rfl (Nat.le_of_ble_eq_true rfl) ⟨Nat.le_of_ble_eq_true rfl, Nat.le_of_ble_eq_true rfl⟩ dX4_drawn_1 (fun H locs hP hD hS => ?_)
  refine W.widen (k := 0) (n := 0) (Nat.le_refl _) (Nat.le_refl _) ?_
  refine lv_if_eq (tgt := 10) hx hb dX4_drawn_4 (by decide) (fun c_4 => ?_) (fun c_4 => ?_)
  · replace hd := ob_t c_4 hd
    refine lv_iload_n hx hb dX4_drawn_10 rfl (lv_at hl 1 rfl) ?_
    refine lv_iconst (v := 0) hx hb dX4_drawn_11 (by decide) ?_
    refine lv_bipush (v := 60) hx hb dX4_drawn_12 (by decide) ?_
    obtain ⟨r_2, hc_14, hd⟩ := ob_s1 hd
    refine ob_Si (isC := []) (isR := [0, 1, 2, 3, 4, 5, 6, 7, 8, 9, 10, 11, 12, 13]) (is2 := [0, 1, 2, 3, 4, 5, 6, 7, 8, 9, 10, 11, 12, 13]) (wc := ([] : va_W)) (wr := (List.filterMap (fun i => (ob_w4 o_b a_b cI b ++ ob_w1 (a_b 2) a_y cI y ++ ob_w1 (a_b 3) a_t cI t)[i]?) [0, 1, 2, 3, 4, 5, 6, 7, 8, 9, 10, 11, 12, 13])) (w1 := ([] : va_W)) (w2 := (ob_w4 o_b a_b cI b ++ ob_w1 (a_b 2) a_y cI y ++ ob_w1 (a_b 3) a_t cI t)) (As := [.int x1, .int 0, .int 60]) (rest := []) ⟨hx, hb, hml, hown, hts⟩ (mt_X4_isWithin l dC dI cI cZ cR cW xs _ x1 0 60 r_2 hc_14) (va_cwS 3 hts gX4_drawn_X4_isWithin rfl rfl rfl (by decide +kernel) ⟨Nat.le_of_ble_eq_true rfl, Nat.le_of_ble_eq_true rfl⟩) hK hE hP hD hS hA ⟨rfl, rfl, rfl, rfl, rfl, rfl, rfl⟩ hl rfl rfl (Nat.le_of_ble_eq_true rfl) ⟨Nat.le_of_ble_eq_true rfl, Nat.le_of_ble_eq_true rfl⟩ dX4_drawn_14 (fun H locs hP hD hS => ?_)
    refine W.widen (k := 0) (n := 0) (Nat.le_refl _) (Nat.le_refl _) ?_
    refine lv_if_eq (tgt := 37) hx hb dX4_drawn_17 (by decide) (fun c_17 => ?_) (fun c_17 => ?_)
    · replace hd := ob_t c_17 hd
      refine lv_ldc hx hb hown kw0 dX4_drawn_37 ?_
      obtain ⟨e1, e2⟩ := ob_pp hd
      subst e1
      subst e2
      exact ob_iret hx hb hr hlocks hP hD hS dX4_drawn_39
    · replace hd := ob_f c_17 hd
      refine lv_iload_n hx hb dX4_drawn_20 rfl (lv_at hl 2 rfl) ?_
      refine lv_iconst (v := 1) hx hb dX4_drawn_21 (by decide) ?_
      refine lv_ldc hx hb hown kw1 dX4_drawn_22 ?_
      obtain ⟨r_3, hc_24, hd⟩ := ob_s1 hd
      refine ob_Si (isC := []) (isR := [0, 1, 2, 3, 4, 5, 6, 7, 8, 9, 10, 11, 12, 13]) (is2 := [0, 1, 2, 3, 4, 5, 6, 7, 8, 9, 10, 11, 12, 13]) (wc := ([] : va_W)) (wr := (List.filterMap (fun i => (ob_w4 o_b a_b cI b ++ ob_w1 (a_b 2) a_y cI y ++ ob_w1 (a_b 3) a_t cI t)[i]?) [0, 1, 2, 3, 4, 5, 6, 7, 8, 9, 10, 11, 12, 13])) (w1 := ([] : va_W)) (w2 := (ob_w4 o_b a_b cI b ++ ob_w1 (a_b 2) a_y cI y ++ ob_w1 (a_b 3) a_t cI t)) (As := [.int x2, .int 1, .int 999999]) (rest := []) ⟨hx, hb, hml, hown, hts⟩ (mt_X4_isWithin l dC dI cI cZ cR cW xs _ x2 1 999999 r_3 hc_24) (va_cwS 3 hts gX4_drawn_X4_isWithin rfl rfl rfl (by decide +kernel) ⟨Nat.le_of_ble_eq_true rfl, Nat.le_of_ble_eq_true rfl⟩) hK hE hP hD hS hA ⟨rfl, rfl, rfl, rfl, rfl, rfl, rfl⟩ hl rfl rfl (Nat.le_of_ble_eq_true rfl) ⟨Nat.le_of_ble_eq_true rfl, Nat.le_of_ble_eq_true rfl⟩ dX4_drawn_24 (fun H locs hP hD hS => ?_)
      refine W.widen (k := 0) (n := 0) (Nat.le_refl _) (Nat.le_refl _) ?_
      refine lv_if_eq (tgt := 37) hx hb dX4_drawn_27 (by decide) (fun c_27 => ?_) (fun c_27 => ?_)
      · replace hd := ob_t c_27 hd
        refine lv_ldc hx hb hown kw0 dX4_drawn_37 ?_
        obtain ⟨e1, e2⟩ := ob_pp hd
        subst e1
        subst e2
        exact ob_iret hx hb hr hlocks hP hD hS dX4_drawn_39
      · replace hd := ob_f c_27 hd
        refine lv_iload_n hx hb dX4_drawn_30 rfl (lv_at hl 3 rfl) ?_
        obtain ⟨r_4, hc_31, hd⟩ := ob_s1 hd
        refine ob_Si (isC := []) (isR := [0, 1, 2, 3, 4, 5, 6, 7, 8, 9, 10, 11, 12, 13]) (is2 := [0, 1, 2, 3, 4, 5, 6, 7, 8, 9, 10, 11, 12, 13]) (wc := ([] : va_W)) (wr := (List.filterMap (fun i => (ob_w4 o_b a_b cI b ++ ob_w1 (a_b 2) a_y cI y ++ ob_w1 (a_b 3) a_t cI t)[i]?) [0, 1, 2, 3, 4, 5, 6, 7, 8, 9, 10, 11, 12, 13])) (w1 := ([] : va_W)) (w2 := (ob_w4 o_b a_b cI b ++ ob_w1 (a_b 2) a_y cI y ++ ob_w1 (a_b 3) a_t cI t)) (As := [.int x3]) (rest := []) ⟨hx, hb, hml, hown, hts⟩ (mt_X4_isEither l dC dI cI cZ cR cW xs _ x3 r_4 hc_31) (va_cwS 1 hts gX4_drawn_X4_isEither rfl rfl rfl (by decide +kernel) ⟨Nat.le_of_ble_eq_true rfl, Nat.le_of_ble_eq_true rfl⟩) hK hE hP hD hS hA ⟨rfl, rfl, rfl, rfl, rfl, rfl, rfl⟩ hl rfl rfl (Nat.le_of_ble_eq_true rfl) ⟨Nat.le_of_ble_eq_true rfl, Nat.le_of_ble_eq_true rfl⟩ dX4_drawn_31 (fun H locs hP hD hS => ?_)
        refine W.widen (k := 0) (n := 0) (Nat.le_refl _) (Nat.le_refl _) ?_
        refine lv_if_ne (tgt := 40) hx hb dX4_drawn_34 (by decide) (fun c_34 => ?_) (fun c_34 => ?_)
        · replace hd := ob_f c_34 hd
          refine lv_aload_n hx hb dX4_drawn_40 rfl (lv_at hl 0 rfl) ?_
          refine va_get (D := (dC, dI)) (ci := 4) (v := .ref (a_b 3)) (C := RX4) (T := TX4) (N := 10) hx hb hts hi_X4 hown hK hP 0 rfl rfl 3 (by decide) kw2 (fun _ h9 => h9) rfl dX4_drawn_41 ?_
          refine lv_aload_n hx hb dX4_drawn_44 rfl (lv_at hl 0 rfl) ?_
          refine va_get (D := (dC, dI)) (ci := 4) (v := .ref (a_b 2)) (C := RX4) (T := TX4) (N := 10) hx hb hts hi_X4 hown hK hP 0 rfl rfl 2 (by decide) kw3 (fun _ h9 => h9) rfl dX4_drawn_45 ?_
          obtain ⟨t_5, hc_48, hd⟩ := ob_s1 hd
          refine ob_Vv (isC := [8, 9, 10, 11, 12, 13, 2, 3, 4, 5, 6, 7]) (isR := [0, 1]) (is2 := [0, 1, 8, 9, 10, 11, 12, 13, 2, 3, 4, 5, 6, 7]) (wc := (ob_w1 (a_b 3) a_t cI t ++ ob_w1 (a_b 2) a_y cI y)) (wr := (List.filterMap (fun i => (ob_w4 o_b a_b cI b ++ ob_w1 (a_b 2) a_y cI y ++ ob_w1 (a_b 3) a_t cI t)[i]?) [0, 1])) (w1 := (ob_w1 (a_b 3) a_t cI t_5 ++ ob_w1 (a_b 2) a_y cI y)) (w2 := (ob_w4 o_b a_b cI b ++ ob_w1 (a_b 2) a_y cI y ++ ob_w1 (a_b 3) a_t cI t_5)) (b := (a_b 3)) (As := [.ref (a_b 2)]) (rest := []) ⟨hx, hb, hml, hown, hts⟩ (mt_X1_become l dC dI cI cZ cR cW xs _ ((a_b 3)) a_t ((a_b 2)) a_y t y t_5 hc_48) (cwV 1 hts gX4_drawn_X1_become rfl rfl rfl (by decide +kernel) ⟨Nat.le_of_ble_eq_true rfl, Nat.le_of_ble_eq_true rfl⟩) hK hE hP hD hS hA ⟨rfl, rfl, rfl, rfl, rfl, rfl, rfl⟩ 1 0 rfl rfl rfl hl rfl rfl (Nat.le_of_ble_eq_true rfl) ⟨Nat.le_of_ble_eq_true rfl, Nat.le_of_ble_eq_true rfl⟩ dX4_drawn_48 (fun H locs hP hD hS => ?_)
          refine W.widen (k := 0) (n := 0) (Nat.le_refl _) (Nat.le_refl _) ?_
          refine lv_iload_n hx hb dX4_drawn_51 rfl (lv_at hl 2 rfl) ?_
          refine lv_i2l hx hb dX4_drawn_52 rfl ?_
          refine lv_topl (fun x_6 ex_6 => ?_)
          replace hd := ob_lx ex_6 hd
          clear ex_6
          refine lv_lstore (lv' := [(4, .long x_6), (0, .ref o_b), (1, .int x1), (2, .int x2), (3, .int x3)]) hx hb dX4_drawn_53 hl (by decide) rfl (fun ls hl => ?_)
          refine lv_iconst (v := 0) hx hb dX4_drawn_55 (by decide) ?_
          refine lv_istore (lv' := [(6, .int 0), (4, .long x_6), (0, .ref o_b), (1, .int x1), (2, .int x2), (3, .int x3)]) hx hb dX4_drawn_56 hl (by decide) rfl (fun ls hl => ?_)
          exact L58  2000 _ _ t_5 x_6 0 _ hP hD hS (lv_sub hl [2, 3, 5, 1, 0] rfl) hd
        · replace hd := ob_t c_34 hd
          refine lv_ldc hx hb hown kw0 dX4_drawn_37 ?_
          obtain ⟨e1, e2⟩ := ob_pp hd
          subst e1
          subst e2
          exact ob_iret hx hb hr hlocks hP hD hS dX4_drawn_39
  · replace hd := ob_f c_4 hd
    refine lv_ldc hx hb hown kw4 dX4_drawn_7 ?_
    obtain ⟨e1, e2⟩ := ob_pp hd
    subst e1
    subst e2
    exact ob_iret hx hb hr hlocks hP hD hS dX4_drawn_9
