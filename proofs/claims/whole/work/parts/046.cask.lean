def fd_X4_toldBody   (x0 : Int32) (x1 : Int32) : Option (Int32) := if x1 = 0 then (if x0 < 0 ∨ 6 ≤ Int32.toNatClampNeg x0 then none else (some (([10, 11, 12, 0, 13, 14] : List Int32).getD (Int32.toNatClampNeg x0) 0))) else (if x0 < 0 ∨ 6 ≤ Int32.toNatClampNeg x0 then none else (some (([20, 21, 24, 22, 23, 0] : List Int32).getD (Int32.toNatClampNeg x0) 0)))
set_option maxHeartbeats 4000000 in
set_option maxRecDepth 100000 in
theorem mt_X4_toldBody (l : Launch) (dC : Nat → ClassId) (dI : Nat → Nat → Nat) (cI cZ cR cW : ClassId) (xs : Nat → Nat) (sz : Nat)   (x0 : Int32) (x1 : Int32)  (rr : Int32) (hd : fd_X4_toldBody x0 x1 = some (rr)) : ob_M l yX4_toldBody wsX4_toldBody ({ frames := 0, cells := 0, slots := 0, locals := 0 } : Room) (dC, dI) (ob_ty cI cZ cR cW) xs [.int x0, .int x1] ([] : va_W) sz (ob_Qi (dC, dI) rr ([] : va_W)) := by
  rw [fd_X4_toldBody] at hd
  refine ob_in (cc := cX4_toldBody) (maxL := 2) (ret := (some .int)) (own := RX4) (by decide) rfl rfl [(0, .int x0), (1, .int x1)] rfl (Nat.le_of_ble_eq_true rfl) ?_
  intro p e s m below meth c hx hb hr hml hown hts hlocks hnm hK A hA hE hP hD hS ls hl
  have kw0 := hts (.fieldLink RX4 270 "OathCoach" "MARK_BODY" "[I") (by decide +kernel)
  have kw1 := hts (.fieldLink RX4 267 "OathCoach" "SIZE_BODY" "[I") (by decide +kernel)
  obtain ⟨hE1, hE2, hE3, hE4, hE5, hE6, hE7, hE8, hE9, -⟩ := id hE
  have hET : va_T .byte (xs 4) 5 (fun j => .int (([111, 109, 108, 102, 118] : List Int32).getD j 0)) A s s.heap := (hE8.1 0 (by decide)).2.2.2
  refine lv_iload_n hx hb dX4_toldBody_0 rfl (lv_at hl 1 rfl) ?_
  refine lv_if_ne (tgt := 12) hx hb dX4_toldBody_1 (by decide) (fun c_1 => ?_) (fun c_1 => ?_)
  · replace hd := ob_f c_1 hd
    refine va_gets hx hb hE5 hS hown kw0 (fun _ h9 => h9) dX4_toldBody_12 ?_
    refine lv_iload_n hx hb dX4_toldBody_15 rfl (lv_at hl 0 rfl) ?_
    obtain ⟨h1_16, hd⟩ := ob_nn hd
    refine va_ti hx hb hE6 hS h1_16 rfl dX4_toldBody_16 ?_
    have e1 := Option.some.inj hd
    subst e1
    exact ob_iret hx hb hr hlocks hP hD hS dX4_toldBody_17
  · replace hd := ob_t c_1 hd
    refine va_gets hx hb hE3 hS hown kw1 (fun _ h9 => h9) dX4_toldBody_4 ?_
    refine lv_iload_n hx hb dX4_toldBody_7 rfl (lv_at hl 0 rfl) ?_
    obtain ⟨h1_8, hd⟩ := ob_nn hd
    refine va_ti hx hb hE4 hS h1_8 rfl dX4_toldBody_8 ?_
    refine lv_goto (tgt := 17) hx hb dX4_toldBody_9 (by decide) ?_
    have e1 := Option.some.inj hd
    subst e1
    exact ob_iret hx hb hr hlocks hP hD hS dX4_toldBody_17

def fd_X4_as_L61  (b : ob_B) (y : ob_B) (x1 : Int32) (x2 : Int32) (z3 : Int32) : Option (Int32 × ob_B) := if z3 = x2 then (ob_b2 (fd_X4_unfound b x1) (fun r_8 b_9 => some (r_8, b_9))) else (ob_b2 (fd_X4_found b 3) (fun r_6 b_7 => some (r_6, b_7)))
def fd_X4_as_L33  : Nat → ob_B → ob_B → Int32 → Int32 → Int32 → Int32 → Option (Int32 × ob_B)
  | 0, _, _, _, _, _, _ => none
  | fu + 1, b, y, x1, x2, z3, z4 => if 6 ≤ z4 then (fd_X4_as_L61 b y x1 x2 z3) else (if z3 ≤ 0 then (fd_X4_as_L61 b y x1 x2 z3) else (if z3 = x2 then (fd_X4_as_L61 b y x1 x2 z3) else (if z3 < 0 ∨ 6 ≤ Int32.toNatClampNeg z3 then none else (ob_lt (([0, 0, 1, 1, 0, 4] : List Int32).getD (Int32.toNatClampNeg z3) 0 : Int32) (fun x_4 => ob_lt (z4 + 1 : Int32) (fun x_5 => fd_X4_as_L33 fu b y x1 x2 x_4 x_5))))))
def fd_X4_as  (b : ob_B) (y : ob_B) (x1 : Int32) (x2 : Int32) : Option (Int32 × ob_B) := ob_b1 (fd_X4_isOath b y x1) (fun r_1 => if r_1 = 0 then (some ((-1000001), b)) else (ob_b1 (fd_X4_isWithin x2 0 5) (fun r_2 => if r_2 = 0 then (some ((-1000001), b)) else (if x1 < 0 ∨ 7 ≤ Int32.toNatClampNeg x1 then none else (ob_lt ((y.2 7) (Int32.toNatClampNeg x1) : Int32) (fun x_3 => fd_X4_as_L33 2000 b y x1 x2 x_3 0))))))
set_option maxHeartbeats 4000000 in
set_option maxRecDepth 100000 in
theorem mt_X4_as (l : Launch) (dC : Nat → ClassId) (dI : Nat → Nat → Nat) (cI cZ cR cW : ClassId) (xs : Nat → Nat) (sz : Nat) (o_b : Nat) (a_b : Nat → Nat) (a_y : Nat → Nat) (b : ob_B) (y : ob_B) (x1 : Int32) (x2 : Int32)  (rr : Int32) (b' : ob_B) (hd : fd_X4_as b y x1 x2 = some (rr, b')) : ob_M l yX4_as wsX4_as ({ frames := 1, cells := 0, slots := 0, locals := 22 } : Room) (dC, dI) (ob_ty cI cZ cR cW) xs [.ref o_b, .int x1, .int x2] (ob_w4 o_b a_b cI b ++ ob_w1 (a_b 2) a_y cI y) sz (ob_Qi (dC, dI) rr (ob_w4 o_b a_b cI b' ++ ob_w1 (a_b 2) a_y cI y)) := by
  rw [fd_X4_as] at hd
  refine ob_in (cc := cX4_as) (maxL := 5) (ret := (some .int)) (own := RX4) (by decide) rfl rfl [(0, .ref o_b), (1, .int x1), (2, .int x2)] rfl (Nat.le_of_ble_eq_true rfl) ?_
  intro p e s m below meth c hx hb hr hml hown hts hlocks hnm hK A hA hE hP hD hS ls hl
  have kw0 := hts (.constant RX4 62 (-1000001)) (by decide +kernel)
  have kw1 := hts (.fieldLink RX4 25 "OathCoach" "route" "LOathCoach$Route;") (by decide +kernel)
  have kw2 := hts (.fieldLink RX4 213 "OathCoach$Route" "kind" "[I") (by decide +kernel)
  have kw3 := hts (.fieldLink RX4 245 "OathCoach" "KIND_ABOVE" "[I") (by decide +kernel)
  have hi_X1 : ∀ w ∈ u_ws RX1 TX1 12, w ∈ wsX4_as := by decide +kernel
  have hi_X4 : ∀ w ∈ u_ws RX4 TX4 10, w ∈ wsX4_as := by decide +kernel
  obtain ⟨hE1, hE2, hE3, hE4, hE5, hE6, hE7, hE8, hE9, -⟩ := id hE
  have hET : va_T .byte (xs 4) 5 (fun j => .int (([111, 109, 108, 102, 118] : List Int32).getD j 0)) A s s.heap := (hE8.1 0 (by decide)).2.2.2
  have L61 : ∀ (H : Heap) (locs : List Loc) (b : ob_B) (z3 : Int32) (ls : Array Slot), va_P (dC, dI) vwCl (ob_w4 o_b a_b cI b ++ ob_w1 (a_b 2) a_y cI y) H → va_D A (ob_w4 o_b a_b cI b ++ ob_w1 (a_b 2) a_y cI y) → va_S A s.heap H locs → lv_has ls 5 [(0, .ref o_b), (1, .int x1), (2, .int x2), (3, .int z3)] → fd_X4_as_L61 b y x1 x2 z3 = some (rr, b') → W p l e ({ frames := 1, cells := 0, slots := 0, locals := 22 } : Room) s m (List.toArray [.ref o_b, .int x1, .int x2]) below meth c H locs 0 0 (MQ below ((ob_Qi (dC, dI) rr (ob_w4 o_b a_b cI b' ++ ob_w1 (a_b 2) a_y cI y)) A) (List.toArray [.ref o_b, .int x1, .int x2]) s 0 0 A) (F0 m 61 ls []) := by
    intro  H locs b z3 ls hP hD hS hl hd
    rw [fd_X4_as_L61] at hd
    refine lv_iload_n hx hb dX4_as_61 rfl (lv_at hl 3 rfl) ?_
    refine lv_iload_n hx hb dX4_as_62 rfl (lv_at hl 2 rfl) ?_
    refine lv_icmp_ne (tgt := 74) hx hb dX4_as_63 (by decide) (fun c_63 => ?_) (fun c_63 => ?_)
    · replace hd := ob_f c_63 hd
      refine lv_aload_n hx hb dX4_as_74 rfl (lv_at hl 0 rfl) ?_
      refine lv_iconst (v := 3) hx hb dX4_as_75 (by decide) ?_
      obtain ⟨r_6, b_7, hc_76, hd⟩ := ob_s2 hd
      refine ob_Vi (isC := [0, 1]) (isR := [2, 3, 4, 5, 6, 7]) (is2 := [6, 7, 0, 1, 2, 3, 4, 5]) (wc := (ob_w4 o_b a_b cI b)) (wr := (List.filterMap (fun i => (ob_w4 o_b a_b cI b ++ ob_w1 (a_b 2) a_y cI y)[i]?) [2, 3, 4, 5, 6, 7])) (w1 := (ob_w4 o_b a_b cI b_7)) (w2 := (ob_w4 o_b a_b cI b_7 ++ ob_w1 (a_b 2) a_y cI y)) (b := o_b) (As := [.int 3]) (rest := []) ⟨hx, hb, hml, hown, hts⟩ (mt_X4_found l dC dI cI cZ cR cW xs _ o_b a_b b 3 r_6 b_7 hc_76) (cwV 1 hts gX4_as_X4_found rfl rfl rfl (by decide +kernel) ⟨Nat.le_of_ble_eq_true rfl, Nat.le_of_ble_eq_true rfl⟩) hK hE hP hD hS hA ⟨rfl, rfl, rfl, rfl, rfl, rfl, rfl⟩ 4 0 rfl rfl rfl hl rfl rfl (Nat.le_of_ble_eq_true rfl) ⟨Nat.le_of_ble_eq_true rfl, Nat.le_of_ble_eq_true rfl⟩ dX4_as_76 (fun H locs hP hD hS => ?_)
      refine W.widen (k := 0) (n := 0) (Nat.le_refl _) (Nat.le_refl _) ?_
      obtain ⟨e1, e2⟩ := ob_pp hd
      subst e1
      subst e2
      exact ob_iret hx hb hr hlocks hP hD hS dX4_as_79
    · replace hd := ob_t c_63 hd
      refine lv_aload_n hx hb dX4_as_66 rfl (lv_at hl 0 rfl) ?_
      refine lv_iload_n hx hb dX4_as_67 rfl (lv_at hl 1 rfl) ?_
      obtain ⟨r_8, b_9, hc_68, hd⟩ := ob_s2 hd
      refine ob_Vi (isC := [0, 1]) (isR := [2, 3, 4, 5, 6, 7]) (is2 := [6, 7, 0, 1, 2, 3, 4, 5]) (wc := (ob_w4 o_b a_b cI b)) (wr := (List.filterMap (fun i => (ob_w4 o_b a_b cI b ++ ob_w1 (a_b 2) a_y cI y)[i]?) [2, 3, 4, 5, 6, 7])) (w1 := (ob_w4 o_b a_b cI b_9)) (w2 := (ob_w4 o_b a_b cI b_9 ++ ob_w1 (a_b 2) a_y cI y)) (b := o_b) (As := [.int x1]) (rest := []) ⟨hx, hb, hml, hown, hts⟩ (mt_X4_unfound l dC dI cI cZ cR cW xs _ o_b a_b b x1 r_8 b_9 hc_68) (cwV 1 hts gX4_as_X4_unfound rfl rfl rfl (by decide +kernel) ⟨Nat.le_of_ble_eq_true rfl, Nat.le_of_ble_eq_true rfl⟩) hK hE hP hD hS hA ⟨rfl, rfl, rfl, rfl, rfl, rfl, rfl⟩ 4 0 rfl rfl rfl hl rfl rfl (Nat.le_of_ble_eq_true rfl) ⟨Nat.le_of_ble_eq_true rfl, Nat.le_of_ble_eq_true rfl⟩ dX4_as_68 (fun H locs hP hD hS => ?_)
      refine W.widen (k := 0) (n := 0) (Nat.le_refl _) (Nat.le_refl _) ?_
      refine lv_goto (tgt := 79) hx hb dX4_as_71 (by decide) ?_
      obtain ⟨e1, e2⟩ := ob_pp hd
      subst e1
      subst e2
      exact ob_iret hx hb hr hlocks hP hD hS dX4_as_79
  have L33 : ∀  (fu : Nat), ∀ (H : Heap) (locs : List Loc) (b : ob_B) (z3 : Int32) (z4 : Int32) (ls : Array Slot), va_P (dC, dI) vwCl (ob_w4 o_b a_b cI b ++ ob_w1 (a_b 2) a_y cI y) H → va_D A (ob_w4 o_b a_b cI b ++ ob_w1 (a_b 2) a_y cI y) → va_S A s.heap H locs → lv_has ls 5 [(0, .ref o_b), (1, .int x1), (2, .int x2), (3, .int z3), (4, .int z4)] → fd_X4_as_L33 fu b y x1 x2 z3 z4 = some (rr, b') → W p l e ({ frames := 1, cells := 0, slots := 0, locals := 22 } : Room) s m (List.toArray [.ref o_b, .int x1, .int x2]) below meth c H locs 0 0 (MQ below ((ob_Qi (dC, dI) rr (ob_w4 o_b a_b cI b' ++ ob_w1 (a_b 2) a_y cI y)) A) (List.toArray [.ref o_b, .int x1, .int x2]) s 0 0 A) (F0 m 33 ls []) := by
    intro  fu
    induction fu with
    | zero =>
      intro H locs b z3 z4 ls hP hD hS hl hd
      rw [fd_X4_as_L33] at hd
      cases hd
    | succ fu ih =>
      intro H locs b z3 z4 ls hP hD hS hl hd
      rw [fd_X4_as_L33] at hd
      refine lv_iload hx hb dX4_as_33 (lv_at hl 4 rfl) ?_
      refine lv_bipush (v := 6) hx hb dX4_as_35 (by decide) ?_
      refine lv_icmp_ge (tgt := 61) hx hb dX4_as_37 (by decide) (fun c_37 => ?_) (fun c_37 => ?_)
      · replace hd := ob_t c_37 hd
        exact L61   _ _ b z3 _ hP hD hS (lv_sub hl [0, 1, 2, 3] rfl) hd
      · replace hd := ob_f c_37 hd
        refine lv_iload_n hx hb dX4_as_40 rfl (lv_at hl 3 rfl) ?_
        refine lv_if_le (tgt := 61) hx hb dX4_as_41 (by decide) (fun c_41 => ?_) (fun c_41 => ?_)
        · replace hd := ob_t c_41 hd
          exact L61   _ _ b z3 _ hP hD hS (lv_sub hl [0, 1, 2, 3] rfl) hd
        · replace hd := ob_f c_41 hd
          refine lv_iload_n hx hb dX4_as_44 rfl (lv_at hl 3 rfl) ?_
          refine lv_iload_n hx hb dX4_as_45 rfl (lv_at hl 2 rfl) ?_
          refine lv_icmp_eq (tgt := 61) hx hb dX4_as_46 (by decide) (fun c_46 => ?_) (fun c_46 => ?_)
          · replace hd := ob_t c_46 hd
            exact L61   _ _ b z3 _ hP hD hS (lv_sub hl [0, 1, 2, 3] rfl) hd
          · replace hd := ob_f c_46 hd
            refine va_gets hx hb hE1 hS hown kw3 (fun _ h9 => h9) dX4_as_49 ?_
            refine lv_iload_n hx hb dX4_as_52 rfl (lv_at hl 3 rfl) ?_
            obtain ⟨h1_53, hd⟩ := ob_nn hd
            refine va_ti hx hb hE2 hS h1_53 rfl dX4_as_53 ?_
            refine lv_topi (fun x_4 ex_4 => ?_)
            replace hd := ob_lx ex_4 hd
            clear ex_4
            refine lv_istore_n (lv' := [(3, .int x_4), (0, .ref o_b), (1, .int x1), (2, .int x2), (4, .int z4)]) hx hb dX4_as_54 rfl hl (by decide) rfl (fun ls hl => ?_)
            obtain ⟨x_5, ex_5⟩ : ∃ z : Int32, z = z4 + 1 := ⟨_, rfl⟩
            replace hd := ob_lx ex_5 hd
            refine lv_iinc (v := x_5) (lv' := [(4, .int x_5), (3, .int x_4), (0, .ref o_b), (1, .int x1), (2, .int x2)]) hx hb dX4_as_55 hl (k := 4) rfl (by rw [ex_5]; rfl) (by decide) rfl (fun ls hl => ?_)
            clear ex_5
            refine lv_goto (tgt := 33) hx hb dX4_as_58 (by decide) ?_
            exact ih _ _ b x_4 x_5 _ hP hD hS (lv_sub hl [2, 3, 4, 1, 0] rfl) hd
  refine lv_aload_n hx hb dX4_as_0 rfl (lv_at hl 0 rfl) ?_
  refine lv_iload_n hx hb dX4_as_1 rfl (lv_at hl 1 rfl) ?_
  obtain ⟨r_1, hc_2, hd⟩ := ob_s1 hd
  refine ob_Vi (isC := [0, 1, 2, 3, 4, 5, 6, 7]) (isR := []) (is2 := [0, 1, 2, 3, 4, 5, 6, 7]) (wc := (ob_w4 o_b a_b cI b ++ ob_w1 (a_b 2) a_y cI y)) (wr := ([] : va_W)) (w1 := (ob_w4 o_b a_b cI b ++ ob_w1 (a_b 2) a_y cI y)) (w2 := (ob_w4 o_b a_b cI b ++ ob_w1 (a_b 2) a_y cI y)) (b := o_b) (As := [.int x1]) (rest := []) ⟨hx, hb, hml, hown, hts⟩ (mt_X4_isOath l dC dI cI cZ cR cW xs _ o_b a_b a_y b y x1 r_1 hc_2) (cwV 1 hts gX4_as_X4_isOath rfl rfl rfl (by decide +kernel) ⟨Nat.le_of_ble_eq_true rfl, Nat.le_of_ble_eq_true rfl⟩) hK hE hP hD hS hA ⟨rfl, rfl, rfl, rfl, rfl, rfl, rfl⟩ 4 0 rfl rfl rfl hl rfl rfl (Nat.le_of_ble_eq_true rfl) ⟨Nat.le_of_ble_eq_true rfl, Nat.le_of_ble_eq_true rfl⟩ dX4_as_2 (fun H locs hP hD hS => ?_)
  refine W.widen (k := 0) (n := 0) (Nat.le_refl _) (Nat.le_refl _) ?_
  refine lv_if_eq (tgt := 17) hx hb dX4_as_5 (by decide) (fun c_5 => ?_) (fun c_5 => ?_)
  · replace hd := ob_t c_5 hd
    refine lv_ldc hx hb hown kw0 dX4_as_17 ?_
    obtain ⟨e1, e2⟩ := ob_pp hd
    subst e1
    subst e2
    exact ob_iret hx hb hr hlocks hP hD hS dX4_as_19
  · replace hd := ob_f c_5 hd
    refine lv_iload_n hx hb dX4_as_8 rfl (lv_at hl 2 rfl) ?_
    refine lv_iconst (v := 0) hx hb dX4_as_9 (by decide) ?_
    refine lv_iconst (v := 5) hx hb dX4_as_10 (by decide) ?_
    obtain ⟨r_2, hc_11, hd⟩ := ob_s1 hd
    refine ob_Si (isC := []) (isR := [0, 1, 2, 3, 4, 5, 6, 7]) (is2 := [0, 1, 2, 3, 4, 5, 6, 7]) (wc := ([] : va_W)) (wr := (List.filterMap (fun i => (ob_w4 o_b a_b cI b ++ ob_w1 (a_b 2) a_y cI y)[i]?) [0, 1, 2, 3, 4, 5, 6, 7])) (w1 := ([] : va_W)) (w2 := (ob_w4 o_b a_b cI b ++ ob_w1 (a_b 2) a_y cI y)) (As := [.int x2, .int 0, .int 5]) (rest := []) ⟨hx, hb, hml, hown, hts⟩ (mt_X4_isWithin l dC dI cI cZ cR cW xs _ x2 0 5 r_2 hc_11) (va_cwS 3 hts gX4_as_X4_isWithin rfl rfl rfl (by decide +kernel) ⟨Nat.le_of_ble_eq_true rfl, Nat.le_of_ble_eq_true rfl⟩) hK hE hP hD hS hA ⟨rfl, rfl, rfl, rfl, rfl, rfl, rfl⟩ hl rfl rfl (Nat.le_of_ble_eq_true rfl) ⟨Nat.le_of_ble_eq_true rfl, Nat.le_of_ble_eq_true rfl⟩ dX4_as_11 (fun H locs hP hD hS => ?_)
    refine W.widen (k := 0) (n := 0) (Nat.le_refl _) (Nat.le_refl _) ?_
    refine lv_if_ne (tgt := 20) hx hb dX4_as_14 (by decide) (fun c_14 => ?_) (fun c_14 => ?_)
    · replace hd := ob_f c_14 hd
      refine lv_aload_n hx hb dX4_as_20 rfl (lv_at hl 0 rfl) ?_
      refine va_get (D := (dC, dI)) (ci := 4) (v := .ref (a_b 2)) (C := RX4) (T := TX4) (N := 10) hx hb hts hi_X4 hown hK hP 0 rfl rfl 2 (by decide) kw1 (fun _ h9 => h9) rfl dX4_as_21 ?_
      refine va_get (D := (dC, dI)) (ci := 1) (v := .ref (a_y 7)) (C := RX1) (T := TX1) (N := 12) hx hb hts hi_X1 hown hK hP 2 rfl rfl 7 (by decide) kw2 (fun _ h9 => h9) rfl dX4_as_24 ?_
      refine lv_iload_n hx hb dX4_as_27 rfl (lv_at hl 1 rfl) ?_
      obtain ⟨h1_28, hd⟩ := ob_nn hd
      refine va_iald hx hb hK hP 3 0 rfl rfl h1_28 dX4_as_28 ?_
      refine lv_topi (fun x_3 ex_3 => ?_)
      replace hd := ob_lx ex_3 hd
      clear ex_3
      refine lv_istore_n (lv' := [(3, .int x_3), (0, .ref o_b), (1, .int x1), (2, .int x2)]) hx hb dX4_as_29 rfl hl (by decide) rfl (fun ls hl => ?_)
      refine lv_iconst (v := 0) hx hb dX4_as_30 (by decide) ?_
      refine lv_istore (lv' := [(4, .int 0), (3, .int x_3), (0, .ref o_b), (1, .int x1), (2, .int x2)]) hx hb dX4_as_31 hl (by decide) rfl (fun ls hl => ?_)
      exact L33  2000 _ _ b x_3 0 _ hP hD hS (lv_sub hl [2, 3, 4, 1, 0] rfl) hd
    · replace hd := ob_t c_14 hd
      refine lv_ldc hx hb hown kw0 dX4_as_17 ?_
      obtain ⟨e1, e2⟩ := ob_pp hd
      subst e1
      subst e2
      exact ob_iret hx hb hr hlocks hP hD hS dX4_as_19

def fd_X4_runBody0_L35  (b : ob_B) (y : ob_B) (x1 : Int32) (x2 : Int32) (x3 : Int32) : Option (Int32 × ob_B) := ob_lt (x3 + 1 : Int32) (fun x_4 => if x1 = 10 then (if x2 < 0 ∨ 7 ≤ Int32.toNatClampNeg x2 then none else (some ((y.2 9) (Int32.toNatClampNeg x2), b))) else (if x1 = 11 then (none) else (if x1 = 12 then (none) else (if x1 = 13 then (none) else (if x1 = 14 then (none) else (if x1 = 15 then (some ((-1000001), b)) else (if x1 = 16 then (some ((-1000001), b)) else (if x1 = 17 then (some ((-1000001), b)) else (if x1 = 18 then (some ((-1000001), b)) else (if x1 = 19 then (some ((-1000001), b)) else (if x1 = 20 then (some (x2, b)) else (if x1 = 21 then (none) else (if x1 = 22 then (none) else (if x1 = 23 then (none) else (if x1 = 24 then (none) else (some ((-1000001), b)))))))))))))))))
def fd_X4_runBody0  (b : ob_B) (y : ob_B) (x1 : Int32) (x2 : Int32) (x3 : Int32) : Option (Int32 × ob_B) := if x3 ≤ 12 then (if 16 ≤ (b.1 7) then (fd_X4_runBody0_L35 b y x1 x2 x3) else (ob_lt ((b.1 7) + 1 : Int32) (fun x_1 => ob_lt (ob_I b 7 x_1 : ob_B) (fun b_2 => if (b.1 7) < 0 ∨ 16 ≤ Int32.toNatClampNeg (b.1 7) then none else (ob_lt (ob_A b_2 6 (upd (b_2.2 6) (Int32.toNatClampNeg (b.1 7)) x1) : ob_B) (fun b_3 => fd_X4_runBody0_L35 b_3 y x1 x2 x3)))))) else (some ((-1000001), b))
set_option maxHeartbeats 4000000 in
set_option maxRecDepth 100000 in
theorem mt_X4_runBody0 (l : Launch) (dC : Nat → ClassId) (dI : Nat → Nat → Nat) (cI cZ cR cW : ClassId) (xs : Nat → Nat) (sz : Nat) (o_b : Nat) (a_b : Nat → Nat) (a_y : Nat → Nat) (b : ob_B) (y : ob_B) (x1 : Int32) (x2 : Int32) (x3 : Int32)  (rr : Int32) (b' : ob_B) (hd : fd_X4_runBody0 b y x1 x2 x3 = some (rr, b')) : ob_M l yX4_runBody wsX4_runBody ({ frames := 0, cells := 0, slots := 0, locals := 0 } : Room) (dC, dI) (ob_ty cI cZ cR cW) xs [.ref o_b, .int x1, .int x2, .int x3] (ob_w4 o_b a_b cI b ++ ob_w1 (a_b 2) a_y cI y) sz (ob_Qi (dC, dI) rr (ob_w4 o_b a_b cI b' ++ ob_w1 (a_b 2) a_y cI y)) := by
  rw [fd_X4_runBody0] at hd
  refine ob_in (cc := cX4_runBody) (maxL := 5) (ret := (some .int)) (own := RX4) (by decide) rfl rfl [(0, .ref o_b), (1, .int x1), (2, .int x2), (3, .int x3)] rfl (Nat.le_of_ble_eq_true rfl) ?_
  intro p e s m below meth c hx hb hr hml hown hts hlocks hnm hK A hA hE hP hD hS ls hl
  have kw0 := hts (.fieldLink RX4 47 "OathCoach" "tracedCount" "I") (by decide +kernel)
  have kw1 := hts (.fieldLink RX4 43 "OathCoach" "traced" "[I") (by decide +kernel)
  have kw2 := hts (.constant RX4 62 (-1000001)) (by decide +kernel)
  have kw3 := hts (.fieldLink RX4 25 "OathCoach" "route" "LOathCoach$Route;") (by decide +kernel)
  have kw4 := hts (.fieldLink RX4 186 "OathCoach$Route" "weight" "[I") (by decide +kernel)
  have hi_X1 : ∀ w ∈ u_ws RX1 TX1 12, w ∈ wsX4_runBody := by decide +kernel
  have hi_X4 : ∀ w ∈ u_ws RX4 TX4 10, w ∈ wsX4_runBody := by decide +kernel
  have L35 : ∀ (H : Heap) (locs : List Loc) (b : ob_B)  (ls : Array Slot), va_P (dC, dI) vwCl (ob_w4 o_b a_b cI b ++ ob_w1 (a_b 2) a_y cI y) H → va_D A (ob_w4 o_b a_b cI b ++ ob_w1 (a_b 2) a_y cI y) → va_S A s.heap H locs → lv_has ls 5 [(0, .ref o_b), (1, .int x1), (2, .int x2), (3, .int x3)] → fd_X4_runBody0_L35 b y x1 x2 x3 = some (rr, b') → W p l e ({ frames := 0, cells := 0, slots := 0, locals := 0 } : Room) s m (List.toArray [.ref o_b, .int x1, .int x2, .int x3]) below meth c H locs 0 0 (MQ below ((ob_Qi (dC, dI) rr (ob_w4 o_b a_b cI b' ++ ob_w1 (a_b 2) a_y cI y)) A) (List.toArray [.ref o_b, .int x1, .int x2, .int x3]) s 0 0 A) (F0 m 35 ls []) := by
    intro  H locs b ls hP hD hS hl hd
    rw [fd_X4_runBody0_L35] at hd
    refine lv_iload_n hx hb dX4_runBody_35 rfl (lv_at hl 3 rfl) ?_
    refine lv_iconst (v := 1) hx hb dX4_runBody_36 (by decide) ?_
    refine lv_iadd hx hb dX4_runBody_37 ?_
    refine lv_topi (fun x_4 ex_4 => ?_)
    replace hd := ob_lx ex_4 hd
    clear ex_4
    refine lv_istore (lv' := [(4, .int x_4), (0, .ref o_b), (1, .int x1), (2, .int x2), (3, .int x3)]) hx hb dX4_runBody_38 hl (by decide) rfl (fun ls hl => ?_)
    refine lv_iload_n hx hb dX4_runBody_40 rfl (lv_at hl 2 rfl) ?_
    by_cases c10_41 : x1 = 10
    · replace hd := ob_t c10_41 hd
      refine lv_tableIn (off := 75) (tgt := 116) hx hb dX4_runBody_41 (by rw [c10_41]; decide) (by rw [c10_41]; decide) (by rw [c10_41]; decide) (by decide) ?_
      refine lv_aload_n hx hb dX4_runBody_116 rfl (lv_at hl 1 rfl) ?_
      refine va_get (D := (dC, dI)) (ci := 4) (v := .ref (a_b 2)) (C := RX4) (T := TX4) (N := 10) hx hb hts hi_X4 hown hK hP 0 rfl rfl 2 (by decide) kw3 (fun _ h9 => h9) rfl dX4_runBody_117 ?_
      refine va_get (D := (dC, dI)) (ci := 1) (v := .ref (a_y 9)) (C := RX1) (T := TX1) (N := 12) hx hb hts hi_X1 hown hK hP 2 rfl rfl 9 (by decide) kw4 (fun _ h9 => h9) rfl dX4_runBody_120 ?_
      refine lv_iload_n hx hb dX4_runBody_123 rfl (lv_at hl 3 rfl) ?_
      obtain ⟨h1_124, hd⟩ := ob_nn hd
      refine va_iald hx hb hK hP 5 0 rfl rfl h1_124 dX4_runBody_124 ?_
      obtain ⟨e1, e2⟩ := ob_pp hd
      subst e1
      subst e2
      exact ob_iret hx hb hr hlocks hP hD hS dX4_runBody_125
    replace hd := ob_f c10_41 hd
    by_cases c11_41 : x1 = 11
    · replace hd := ob_t c11_41 hd
      refine lv_tableIn (off := 85) (tgt := 126) hx hb dX4_runBody_41 (by rw [c11_41]; decide) (by rw [c11_41]; decide) (by rw [c11_41]; decide) (by decide) ?_
      refine lv_aload_n hx hb dX4_runBody_126 rfl (lv_at hl 1 rfl) ?_
      refine lv_bipush (v := 10) hx hb dX4_runBody_127 (by decide) ?_
      refine lv_iload_n hx hb dX4_runBody_129 rfl (lv_at hl 3 rfl) ?_
      refine lv_iload hx hb dX4_runBody_130 (lv_at hl 0 rfl) ?_
      cases hd
    replace hd := ob_f c11_41 hd
    by_cases c12_41 : x1 = 12
    · replace hd := ob_t c12_41 hd
      refine lv_tableIn (off := 104) (tgt := 145) hx hb dX4_runBody_41 (by rw [c12_41]; decide) (by rw [c12_41]; decide) (by rw [c12_41]; decide) (by decide) ?_
      refine lv_aload_n hx hb dX4_runBody_145 rfl (lv_at hl 1 rfl) ?_
      refine lv_bipush (v := 11) hx hb dX4_runBody_146 (by decide) ?_
      refine lv_iload_n hx hb dX4_runBody_148 rfl (lv_at hl 3 rfl) ?_
      refine lv_iload hx hb dX4_runBody_149 (lv_at hl 0 rfl) ?_
      cases hd
    replace hd := ob_f c12_41 hd
    by_cases c13_41 : x1 = 13
    · replace hd := ob_t c13_41 hd
      refine lv_tableIn (off := 115) (tgt := 156) hx hb dX4_runBody_41 (by rw [c13_41]; decide) (by rw [c13_41]; decide) (by rw [c13_41]; decide) (by decide) ?_
      refine lv_aload_n hx hb dX4_runBody_156 rfl (lv_at hl 1 rfl) ?_
      refine lv_bipush (v := 10) hx hb dX4_runBody_157 (by decide) ?_
      refine lv_iload_n hx hb dX4_runBody_159 rfl (lv_at hl 3 rfl) ?_
      refine lv_iload hx hb dX4_runBody_160 (lv_at hl 0 rfl) ?_
      cases hd
    replace hd := ob_f c13_41 hd
    by_cases c14_41 : x1 = 14
    · replace hd := ob_t c14_41 hd
      refine lv_tableIn (off := 128) (tgt := 169) hx hb dX4_runBody_41 (by rw [c14_41]; decide) (by rw [c14_41]; decide) (by rw [c14_41]; decide) (by decide) ?_
      refine lv_iconst (v := 2) hx hb dX4_runBody_169 (by decide) ?_
      refine lv_aload_n hx hb dX4_runBody_170 rfl (lv_at hl 1 rfl) ?_
      refine lv_bipush (v := 13) hx hb dX4_runBody_171 (by decide) ?_
      refine lv_iload_n hx hb dX4_runBody_173 rfl (lv_at hl 3 rfl) ?_
      refine lv_iload hx hb dX4_runBody_174 (lv_at hl 0 rfl) ?_
      cases hd
    replace hd := ob_f c14_41 hd
    by_cases c15_41 : x1 = 15
    · replace hd := ob_t c15_41 hd
      refine lv_tableIn (off := 207) (tgt := 248) hx hb dX4_runBody_41 (by rw [c15_41]; decide) (by rw [c15_41]; decide) (by rw [c15_41]; decide) (by decide) ?_
      refine lv_ldc hx hb hown kw2 dX4_runBody_248 ?_
      obtain ⟨e1, e2⟩ := ob_pp hd
      subst e1
      subst e2
      exact ob_iret hx hb hr hlocks hP hD hS dX4_runBody_250
    replace hd := ob_f c15_41 hd
    by_cases c16_41 : x1 = 16
    · replace hd := ob_t c16_41 hd
      refine lv_tableIn (off := 207) (tgt := 248) hx hb dX4_runBody_41 (by rw [c16_41]; decide) (by rw [c16_41]; decide) (by rw [c16_41]; decide) (by decide) ?_
      refine lv_ldc hx hb hown kw2 dX4_runBody_248 ?_
      obtain ⟨e1, e2⟩ := ob_pp hd
      subst e1
      subst e2
      exact ob_iret hx hb hr hlocks hP hD hS dX4_runBody_250
    replace hd := ob_f c16_41 hd
    by_cases c17_41 : x1 = 17
    · replace hd := ob_t c17_41 hd
      refine lv_tableIn (off := 207) (tgt := 248) hx hb dX4_runBody_41 (by rw [c17_41]; decide) (by rw [c17_41]; decide) (by rw [c17_41]; decide) (by decide) ?_
      refine lv_ldc hx hb hown kw2 dX4_runBody_248 ?_
      obtain ⟨e1, e2⟩ := ob_pp hd
      subst e1
      subst e2
      exact ob_iret hx hb hr hlocks hP hD hS dX4_runBody_250
    replace hd := ob_f c17_41 hd
    by_cases c18_41 : x1 = 18
    · replace hd := ob_t c18_41 hd
      refine lv_tableIn (off := 207) (tgt := 248) hx hb dX4_runBody_41 (by rw [c18_41]; decide) (by rw [c18_41]; decide) (by rw [c18_41]; decide) (by decide) ?_
      refine lv_ldc hx hb hown kw2 dX4_runBody_248 ?_
      obtain ⟨e1, e2⟩ := ob_pp hd
      subst e1
      subst e2
      exact ob_iret hx hb hr hlocks hP hD hS dX4_runBody_250
    replace hd := ob_f c18_41 hd
    by_cases c19_41 : x1 = 19
    · replace hd := ob_t c19_41 hd
      refine lv_tableIn (off := 207) (tgt := 248) hx hb dX4_runBody_41 (by rw [c19_41]; decide) (by rw [c19_41]; decide) (by rw [c19_41]; decide) (by decide) ?_
      refine lv_ldc hx hb hown kw2 dX4_runBody_248 ?_
      obtain ⟨e1, e2⟩ := ob_pp hd
      subst e1
      subst e2
      exact ob_iret hx hb hr hlocks hP hD hS dX4_runBody_250
    replace hd := ob_f c19_41 hd
    by_cases c20_41 : x1 = 20
    · replace hd := ob_t c20_41 hd
      refine lv_tableIn (off := 140) (tgt := 181) hx hb dX4_runBody_41 (by rw [c20_41]; decide) (by rw [c20_41]; decide) (by rw [c20_41]; decide) (by decide) ?_
      refine lv_iload_n hx hb dX4_runBody_181 rfl (lv_at hl 3 rfl) ?_
      obtain ⟨e1, e2⟩ := ob_pp hd
      subst e1
      subst e2
      exact ob_iret hx hb hr hlocks hP hD hS dX4_runBody_182
    replace hd := ob_f c20_41 hd
    by_cases c21_41 : x1 = 21
    · replace hd := ob_t c21_41 hd
      refine lv_tableIn (off := 142) (tgt := 183) hx hb dX4_runBody_41 (by rw [c21_41]; decide) (by rw [c21_41]; decide) (by rw [c21_41]; decide) (by decide) ?_
      refine lv_aload_n hx hb dX4_runBody_183 rfl (lv_at hl 1 rfl) ?_
      refine lv_bipush (v := 20) hx hb dX4_runBody_184 (by decide) ?_
      refine lv_iload_n hx hb dX4_runBody_186 rfl (lv_at hl 3 rfl) ?_
      refine lv_iload hx hb dX4_runBody_187 (lv_at hl 0 rfl) ?_
      cases hd
    replace hd := ob_f c21_41 hd
    by_cases c22_41 : x1 = 22
    · replace hd := ob_t c22_41 hd
      refine lv_tableIn (off := 162) (tgt := 203) hx hb dX4_runBody_41 (by rw [c22_41]; decide) (by rw [c22_41]; decide) (by rw [c22_41]; decide) (by decide) ?_
      refine lv_aload_n hx hb dX4_runBody_203 rfl (lv_at hl 1 rfl) ?_
      refine lv_bipush (v := 21) hx hb dX4_runBody_204 (by decide) ?_
      refine lv_iload_n hx hb dX4_runBody_206 rfl (lv_at hl 3 rfl) ?_
      refine lv_iload hx hb dX4_runBody_207 (lv_at hl 0 rfl) ?_
      cases hd
    replace hd := ob_f c22_41 hd
    by_cases c23_41 : x1 = 23
    · replace hd := ob_t c23_41 hd
      refine lv_tableIn (off := 176) (tgt := 217) hx hb dX4_runBody_41 (by rw [c23_41]; decide) (by rw [c23_41]; decide) (by rw [c23_41]; decide) (by decide) ?_
      refine lv_aload_n hx hb dX4_runBody_217 rfl (lv_at hl 1 rfl) ?_
      refine lv_bipush (v := 20) hx hb dX4_runBody_218 (by decide) ?_
      refine lv_iload_n hx hb dX4_runBody_220 rfl (lv_at hl 3 rfl) ?_
      refine lv_iload hx hb dX4_runBody_221 (lv_at hl 0 rfl) ?_
      cases hd
    replace hd := ob_f c23_41 hd
    by_cases c24_41 : x1 = 24
    · replace hd := ob_t c24_41 hd
      refine lv_tableIn (off := 195) (tgt := 236) hx hb dX4_runBody_41 (by rw [c24_41]; decide) (by rw [c24_41]; decide) (by rw [c24_41]; decide) (by decide) ?_
      refine lv_iconst (v := 2) hx hb dX4_runBody_236 (by decide) ?_
      refine lv_aload_n hx hb dX4_runBody_237 rfl (lv_at hl 1 rfl) ?_
      refine lv_bipush (v := 21) hx hb dX4_runBody_238 (by decide) ?_
      refine lv_iload_n hx hb dX4_runBody_240 rfl (lv_at hl 3 rfl) ?_
      refine lv_iload hx hb dX4_runBody_241 (lv_at hl 0 rfl) ?_
      cases hd
    replace hd := ob_f c24_41 hd
    refine lv_tableOut (tgt := 248) hx hb dX4_runBody_41 (by have n10 := lv_neT c10_41 (show (10 : Int32).toInt = 10 from rfl); have n11 := lv_neT c11_41 (show (11 : Int32).toInt = 11 from rfl); have n12 := lv_neT c12_41 (show (12 : Int32).toInt = 12 from rfl); have n13 := lv_neT c13_41 (show (13 : Int32).toInt = 13 from rfl); have n14 := lv_neT c14_41 (show (14 : Int32).toInt = 14 from rfl); have n15 := lv_neT c15_41 (show (15 : Int32).toInt = 15 from rfl); have n16 := lv_neT c16_41 (show (16 : Int32).toInt = 16 from rfl); have n17 := lv_neT c17_41 (show (17 : Int32).toInt = 17 from rfl); have n18 := lv_neT c18_41 (show (18 : Int32).toInt = 18 from rfl); have n19 := lv_neT c19_41 (show (19 : Int32).toInt = 19 from rfl); have n20 := lv_neT c20_41 (show (20 : Int32).toInt = 20 from rfl); have n21 := lv_neT c21_41 (show (21 : Int32).toInt = 21 from rfl); have n22 := lv_neT c22_41 (show (22 : Int32).toInt = 22 from rfl); have n23 := lv_neT c23_41 (show (23 : Int32).toInt = 23 from rfl); have n24 := lv_neT c24_41 (show (24 : Int32).toInt = 24 from rfl); omega) (by decide) ?_
    refine lv_ldc hx hb hown kw2 dX4_runBody_248 ?_
    obtain ⟨e1, e2⟩ := ob_pp hd
    subst e1
    subst e2
    exact ob_iret hx hb hr hlocks hP hD hS dX4_runBody_250
  refine lv_iload_n hx hb dX4_runBody_0 rfl (lv_at hl 3 rfl) ?_
  refine lv_bipush (v := 12) hx hb dX4_runBody_1 (by decide) ?_
  refine lv_icmp_le (tgt := 9) hx hb dX4_runBody_3 (by decide) (fun c_3 => ?_) (fun c_3 => ?_)
  · replace hd := ob_t c_3 hd
    refine lv_aload_n hx hb dX4_runBody_9 rfl (lv_at hl 0 rfl) ?_
    refine va_get (D := (dC, dI)) (ci := 4) (v := .int (b.1 7)) (C := RX4) (T := TX4) (N := 10) hx hb hts hi_X4 hown hK hP 0 rfl rfl 7 (by decide) kw0 (fun _ h9 => h9) rfl dX4_runBody_10 ?_
    refine lv_bipush (v := 16) hx hb dX4_runBody_13 (by decide) ?_
    refine lv_icmp_ge (tgt := 35) hx hb dX4_runBody_15 (by decide) (fun c_15 => ?_) (fun c_15 => ?_)
    · replace hd := ob_t c_15 hd
      exact L35   _ _ b _ hP hD hS (lv_sub hl [0, 1, 2, 3] rfl) hd
    · replace hd := ob_f c_15 hd
      refine lv_aload_n hx hb dX4_runBody_18 rfl (lv_at hl 0 rfl) ?_
      refine va_get (D := (dC, dI)) (ci := 4) (v := .ref (a_b 6)) (C := RX4) (T := TX4) (N := 10) hx hb hts hi_X4 hown hK hP 0 rfl rfl 6 (by decide) kw1 (fun _ h9 => h9) rfl dX4_runBody_19 ?_
      refine lv_aload_n hx hb dX4_runBody_22 rfl (lv_at hl 0 rfl) ?_
      refine lv_dup hx hb dX4_runBody_23 rfl ?_
      refine va_get (D := (dC, dI)) (ci := 4) (v := .int (b.1 7)) (C := RX4) (T := TX4) (N := 10) hx hb hts hi_X4 hown hK hP 0 rfl rfl 7 (by decide) kw0 (fun _ h9 => h9) rfl dX4_runBody_24 ?_
      refine lv_dup_x1 hx hb dX4_runBody_27 rfl rfl ?_
      refine lv_iconst (v := 1) hx hb dX4_runBody_28 (by decide) ?_
      refine lv_iadd hx hb dX4_runBody_29 ?_
      refine lv_topi (fun x_1 ex_1 => ?_)
      replace hd := ob_lx ex_1 hd
      clear ex_1
      refine va_put (D := (dC, dI)) (ci := 4) (v := .int x_1) (ty := .int) (C := RX4) (T := TX4) (N := 10) hx hb hts hi_X4 tyX4 tyX4_ok nmX4 hown hK hP hD hS 0 rfl rfl 7 (by decide) kw0 (fun _ h9 => h9) rfl (by decide +kernel) rfl rfl (Nat.le_of_ble_eq_true rfl) dX4_runBody_30 (fun H locs hP hD hS => ?_)
      obtain ⟨b_2, eb_2⟩ : ∃ z : ob_B, z = ob_I b 7 x_1 := ⟨_, rfl⟩
      replace hd := ob_lx eb_2 hd
      replace hP : va_P (dC, dI) vwCl (ob_w4 o_b a_b cI b_2 ++ ob_w1 (a_b 2) a_y cI y) H := by rw [eb_2]; exact hP
      replace hD : va_D A (ob_w4 o_b a_b cI b_2 ++ ob_w1 (a_b 2) a_y cI y) := by rw [eb_2]; exact hD
      clear eb_2
      refine lv_iload_n hx hb dX4_runBody_33 rfl (lv_at hl 1 rfl) ?_
      obtain ⟨h1_34, hd⟩ := ob_nn hd
      refine va_iast hx hb hK hP hD hS 1 0 rfl rfl h1_34 dX4_runBody_34 (fun H locs hP hD hS => ?_)
      obtain ⟨b_3, eb_3⟩ : ∃ z : ob_B, z = ob_A b_2 6 (upd (b_2.2 6) (Int32.toNatClampNeg (b.1 7)) x1) := ⟨_, rfl⟩
      replace hd := ob_lx eb_3 hd
      replace hP : va_P (dC, dI) vwCl (ob_w4 o_b a_b cI b_3 ++ ob_w1 (a_b 2) a_y cI y) H := by rw [eb_3]; exact hP
      replace hD : va_D A (ob_w4 o_b a_b cI b_3 ++ ob_w1 (a_b 2) a_y cI y) := by rw [eb_3]; exact hD
      clear eb_3
      exact L35   _ _ b_3 _ hP hD hS (lv_sub hl [0, 1, 2, 3] rfl) hd
  · replace hd := ob_f c_3 hd
    refine lv_ldc hx hb hown kw2 dX4_runBody_6 ?_
    obtain ⟨e1, e2⟩ := ob_pp hd
    subst e1
    subst e2
    exact ob_iret hx hb hr hlocks hP hD hS dX4_runBody_8

def fd_X4_askAnew0_L49  (b : ob_B) (y : ob_B) (x1 : Int32) (x2 : Int32) (x3 : Int32) (z4 : Int32) : Option (Int32 × ob_B) := ob_b1 (fd_X4_toldBody z4 x2) (fun r_5 => ob_b2 (fd_X4_runBody0 b y r_5 x1 x3) (fun r_6 b_7 => some (r_6, b_7)))
def fd_X4_askAnew0_L14  : Nat → ob_B → ob_B → Int32 → Int32 → Int32 → Int32 → Int32 → Option (Int32 × ob_B)
  | 0, _, _, _, _, _, _, _ => none
  | fu + 1, b, y, x1, x2, x3, z4, z5 => if 6 ≤ z5 then (fd_X4_askAnew0_L49 b y x1 x2 x3 z4) else (if z4 ≤ 0 then (fd_X4_askAnew0_L49 b y x1 x2 x3 z4) else (ob_b1 (fd_X4_toldBody z4 x2) (fun r_2 => if r_2 = 0 then (if z4 < 0 ∨ 6 ≤ Int32.toNatClampNeg z4 then none else (ob_lt (([0, 0, 1, 1, 0, 4] : List Int32).getD (Int32.toNatClampNeg z4) 0 : Int32) (fun x_3 => ob_lt (z5 + 1 : Int32) (fun x_4 => fd_X4_askAnew0_L14 fu b y x1 x2 x3 x_3 x_4)))) else (fd_X4_askAnew0_L49 b y x1 x2 x3 z4))))
def fd_X4_askAnew0  (b : ob_B) (y : ob_B) (x1 : Int32) (x2 : Int32) (x3 : Int32) : Option (Int32 × ob_B) := if x1 < 0 ∨ 7 ≤ Int32.toNatClampNeg x1 then none else (ob_lt ((y.2 7) (Int32.toNatClampNeg x1) : Int32) (fun x_1 => fd_X4_askAnew0_L14 2000 b y x1 x2 x3 x_1 0))
set_option maxHeartbeats 4000000 in
set_option maxRecDepth 100000 in
theorem mt_X4_askAnew0 (l : Launch) (dC : Nat → ClassId) (dI : Nat → Nat → Nat) (cI cZ cR cW : ClassId) (xs : Nat → Nat) (sz : Nat) (o_b : Nat) (a_b : Nat → Nat) (a_y : Nat → Nat) (b : ob_B) (y : ob_B) (x1 : Int32) (x2 : Int32) (x3 : Int32)  (rr : Int32) (b' : ob_B) (hd : fd_X4_askAnew0 b y x1 x2 x3 = some (rr, b')) : ob_M l yX4_askAnew wsX4_askAnew ({ frames := 1, cells := 0, slots := 0, locals := 24 } : Room) (dC, dI) (ob_ty cI cZ cR cW) xs [.ref o_b, .int x1, .int x2, .int x3] (ob_w4 o_b a_b cI b ++ ob_w1 (a_b 2) a_y cI y) sz (ob_Qi (dC, dI) rr (ob_w4 o_b a_b cI b' ++ ob_w1 (a_b 2) a_y cI y)) := by
  rw [fd_X4_askAnew0] at hd
  refine ob_in (cc := cX4_askAnew) (maxL := 6) (ret := (some .int)) (own := RX4) (by decide) rfl rfl [(0, .ref o_b), (1, .int x1), (2, .int x2), (3, .int x3)] rfl (Nat.le_of_ble_eq_true rfl) ?_
  intro p e s m below meth c hx hb hr hml hown hts hlocks hnm hK A hA hE hP hD hS ls hl
  have kw0 := hts (.fieldLink RX4 25 "OathCoach" "route" "LOathCoach$Route;") (by decide +kernel)
  have kw1 := hts (.fieldLink RX4 213 "OathCoach$Route" "kind" "[I") (by decide +kernel)
  have kw2 := hts (.fieldLink RX4 245 "OathCoach" "KIND_ABOVE" "[I") (by decide +kernel)
  have hi_X1 : ∀ w ∈ u_ws RX1 TX1 12, w ∈ wsX4_askAnew := by decide +kernel
  have hi_X4 : ∀ w ∈ u_ws RX4 TX4 10, w ∈ wsX4_askAnew := by decide +kernel
  obtain ⟨hE1, hE2, hE3, hE4, hE5, hE6, hE7, hE8, hE9, -⟩ := id hE
  have hET : va_T .byte (xs 4) 5 (fun j => .int (([111, 109, 108, 102, 118] : List Int32).getD j 0)) A s s.heap := (hE8.1 0 (by decide)).2.2.2
  have L49 : ∀ (H : Heap) (locs : List Loc) (b : ob_B) (z4 : Int32) (ls : Array Slot), va_P (dC, dI) vwCl (ob_w4 o_b a_b cI b ++ ob_w1 (a_b 2) a_y cI y) H → va_D A (ob_w4 o_b a_b cI b ++ ob_w1 (a_b 2) a_y cI y) → va_S A s.heap H locs → lv_has ls 6 [(0, .ref o_b), (1, .int x1), (2, .int x2), (3, .int x3), (4, .int z4)] → fd_X4_askAnew0_L49 b y x1 x2 x3 z4 = some (rr, b') → W p l e ({ frames := 1, cells := 0, slots := 0, locals := 24 } : Room) s m (List.toArray [.ref o_b, .int x1, .int x2, .int x3]) below meth c H locs 0 0 (MQ below ((ob_Qi (dC, dI) rr (ob_w4 o_b a_b cI b' ++ ob_w1 (a_b 2) a_y cI y)) A) (List.toArray [.ref o_b, .int x1, .int x2, .int x3]) s 0 0 A) (F0 m 49 ls []) := by
    intro  H locs b z4 ls hP hD hS hl hd
    rw [fd_X4_askAnew0_L49] at hd
    refine lv_aload_n hx hb dX4_askAnew_49 rfl (lv_at hl 0 rfl) ?_
    refine lv_iload hx hb dX4_askAnew_50 (lv_at hl 4 rfl) ?_
    refine lv_iload_n hx hb dX4_askAnew_52 rfl (lv_at hl 2 rfl) ?_
    obtain ⟨r_5, hc_53, hd⟩ := ob_s1 hd
    refine ob_Si (isC := []) (isR := [0, 1, 2, 3, 4, 5, 6, 7]) (is2 := [0, 1, 2, 3, 4, 5, 6, 7]) (wc := ([] : va_W)) (wr := (List.filterMap (fun i => (ob_w4 o_b a_b cI b ++ ob_w1 (a_b 2) a_y cI y)[i]?) [0, 1, 2, 3, 4, 5, 6, 7])) (w1 := ([] : va_W)) (w2 := (ob_w4 o_b a_b cI b ++ ob_w1 (a_b 2) a_y cI y)) (As := [.int z4, .int x2]) (rest := [.ref o_b]) ⟨hx, hb, hml, hown, hts⟩ (mt_X4_toldBody l dC dI cI cZ cR cW xs _ z4 x2 r_5 hc_53) (va_cwS 2 hts gX4_askAnew_X4_toldBody rfl rfl rfl (by decide +kernel) ⟨Nat.le_of_ble_eq_true rfl, Nat.le_of_ble_eq_true rfl⟩) hK hE hP hD hS hA ⟨rfl, rfl, rfl, rfl, rfl, rfl, rfl⟩ hl rfl rfl (Nat.le_of_ble_eq_true rfl) ⟨Nat.le_of_ble_eq_true rfl, Nat.le_of_ble_eq_true rfl⟩ dX4_askAnew_53 (fun H locs hP hD hS => ?_)
    refine W.widen (k := 0) (n := 0) (Nat.le_refl _) (Nat.le_refl _) ?_
    refine lv_iload_n hx hb dX4_askAnew_56 rfl (lv_at hl 1 rfl) ?_
    refine lv_iload_n hx hb dX4_askAnew_57 rfl (lv_at hl 3 rfl) ?_
    obtain ⟨r_6, b_7, hc_58, hd⟩ := ob_s2 hd
    refine ob_Vi (isC := [0, 1, 2, 3, 4, 5, 6, 7]) (isR := []) (is2 := [0, 1, 2, 3, 4, 5, 6, 7]) (wc := (ob_w4 o_b a_b cI b ++ ob_w1 (a_b 2) a_y cI y)) (wr := ([] : va_W)) (w1 := (ob_w4 o_b a_b cI b_7 ++ ob_w1 (a_b 2) a_y cI y)) (w2 := (ob_w4 o_b a_b cI b_7 ++ ob_w1 (a_b 2) a_y cI y)) (b := o_b) (As := [.int r_5, .int x1, .int x3]) (rest := []) ⟨hx, hb, hml, hown, hts⟩ (mt_X4_runBody0 l dC dI cI cZ cR cW xs _ o_b a_b a_y b y r_5 x1 x3 r_6 b_7 hc_58) (cwV 3 hts gX4_askAnew_X4_runBody rfl rfl rfl (by decide +kernel) ⟨Nat.le_of_ble_eq_true rfl, Nat.le_of_ble_eq_true rfl⟩) hK hE hP hD hS hA ⟨rfl, rfl, rfl, rfl, rfl, rfl, rfl⟩ 4 0 rfl rfl rfl hl rfl rfl (Nat.le_of_ble_eq_true rfl) ⟨Nat.le_of_ble_eq_true rfl, Nat.le_of_ble_eq_true rfl⟩ dX4_askAnew_58 (fun H locs hP hD hS => ?_)
    refine W.widen (k := 0) (n := 0) (Nat.le_refl _) (Nat.le_refl _) ?_
    obtain ⟨e1, e2⟩ := ob_pp hd
    subst e1
    subst e2
    exact ob_iret hx hb hr hlocks hP hD hS dX4_askAnew_61
  have L14 : ∀  (fu : Nat), ∀ (H : Heap) (locs : List Loc) (b : ob_B) (z4 : Int32) (z5 : Int32) (ls : Array Slot), va_P (dC, dI) vwCl (ob_w4 o_b a_b cI b ++ ob_w1 (a_b 2) a_y cI y) H → va_D A (ob_w4 o_b a_b cI b ++ ob_w1 (a_b 2) a_y cI y) → va_S A s.heap H locs → lv_has ls 6 [(0, .ref o_b), (1, .int x1), (2, .int x2), (3, .int x3), (4, .int z4), (5, .int z5)] → fd_X4_askAnew0_L14 fu b y x1 x2 x3 z4 z5 = some (rr, b') → W p l e ({ frames := 1, cells := 0, slots := 0, locals := 24 } : Room) s m (List.toArray [.ref o_b, .int x1, .int x2, .int x3]) below meth c H locs 0 0 (MQ below ((ob_Qi (dC, dI) rr (ob_w4 o_b a_b cI b' ++ ob_w1 (a_b 2) a_y cI y)) A) (List.toArray [.ref o_b, .int x1, .int x2, .int x3]) s 0 0 A) (F0 m 14 ls []) := by
    intro  fu
    induction fu with
    | zero =>
      intro H locs b z4 z5 ls hP hD hS hl hd
      rw [fd_X4_askAnew0_L14] at hd
      cases hd
    | succ fu ih =>
      intro H locs b z4 z5 ls hP hD hS hl hd
      rw [fd_X4_askAnew0_L14] at hd
      refine lv_iload hx hb dX4_askAnew_14 (lv_at hl 5 rfl) ?_
      refine lv_bipush (v := 6) hx hb dX4_askAnew_16 (by decide) ?_
      refine lv_icmp_ge (tgt := 49) hx hb dX4_askAnew_18 (by decide) (fun c_18 => ?_) (fun c_18 => ?_)
      · replace hd := ob_t c_18 hd
        exact L49   _ _ b z4 _ hP hD hS (lv_sub hl [0, 1, 2, 3, 4] rfl) hd
      · replace hd := ob_f c_18 hd
        refine lv_iload hx hb dX4_askAnew_21 (lv_at hl 4 rfl) ?_
        refine lv_if_le (tgt := 49) hx hb dX4_askAnew_23 (by decide) (fun c_23 => ?_) (fun c_23 => ?_)
        · replace hd := ob_t c_23 hd
          exact L49   _ _ b z4 _ hP hD hS (lv_sub hl [0, 1, 2, 3, 4] rfl) hd
        · replace hd := ob_f c_23 hd
          refine lv_iload hx hb dX4_askAnew_26 (lv_at hl 4 rfl) ?_
          refine lv_iload_n hx hb dX4_askAnew_28 rfl (lv_at hl 2 rfl) ?_
          obtain ⟨r_2, hc_29, hd⟩ := ob_s1 hd
          refine ob_Si (isC := []) (isR := [0, 1, 2, 3, 4, 5, 6, 7]) (is2 := [0, 1, 2, 3, 4, 5, 6, 7]) (wc := ([] : va_W)) (wr := (List.filterMap (fun i => (ob_w4 o_b a_b cI b ++ ob_w1 (a_b 2) a_y cI y)[i]?) [0, 1, 2, 3, 4, 5, 6, 7])) (w1 := ([] : va_W)) (w2 := (ob_w4 o_b a_b cI b ++ ob_w1 (a_b 2) a_y cI y)) (As := [.int z4, .int x2]) (rest := []) ⟨hx, hb, hml, hown, hts⟩ (mt_X4_toldBody l dC dI cI cZ cR cW xs _ z4 x2 r_2 hc_29) (va_cwS 2 hts gX4_askAnew_X4_toldBody rfl rfl rfl (by decide +kernel) ⟨Nat.le_of_ble_eq_true rfl, Nat.le_of_ble_eq_true rfl⟩) hK hE hP hD hS hA ⟨rfl, rfl, rfl, rfl, rfl, rfl, rfl⟩ hl rfl rfl (Nat.le_of_ble_eq_true rfl) ⟨Nat.le_of_ble_eq_true rfl, Nat.le_of_ble_eq_true rfl⟩ dX4_askAnew_29 (fun H locs hP hD hS => ?_)
          refine W.widen (k := 0) (n := 0) (Nat.le_refl _) (Nat.le_refl _) ?_
          refine lv_if_ne (tgt := 49) hx hb dX4_askAnew_32 (by decide) (fun c_32 => ?_) (fun c_32 => ?_)
          · replace hd := ob_f c_32 hd
            exact L49   _ _ b z4 _ hP hD hS (lv_sub hl [0, 1, 2, 3, 4] rfl) hd
          · replace hd := ob_t c_32 hd
            refine va_gets hx hb hE1 hS hown kw2 (fun _ h9 => h9) dX4_askAnew_35 ?_
            refine lv_iload hx hb dX4_askAnew_38 (lv_at hl 4 rfl) ?_
            obtain ⟨h1_40, hd⟩ := ob_nn hd
            refine va_ti hx hb hE2 hS h1_40 rfl dX4_askAnew_40 ?_
            refine lv_topi (fun x_3 ex_3 => ?_)
            replace hd := ob_lx ex_3 hd
            clear ex_3
            refine lv_istore (lv' := [(4, .int x_3), (0, .ref o_b), (1, .int x1), (2, .int x2), (3, .int x3), (5, .int z5)]) hx hb dX4_askAnew_41 hl (by decide) rfl (fun ls hl => ?_)
            obtain ⟨x_4, ex_4⟩ : ∃ z : Int32, z = z5 + 1 := ⟨_, rfl⟩
            replace hd := ob_lx ex_4 hd
            refine lv_iinc (v := x_4) (lv' := [(5, .int x_4), (4, .int x_3), (0, .ref o_b), (1, .int x1), (2, .int x2), (3, .int x3)]) hx hb dX4_askAnew_43 hl (k := 5) rfl (by rw [ex_4]; rfl) (by decide) rfl (fun ls hl => ?_)
            clear ex_4
            refine lv_goto (tgt := 14) hx hb dX4_askAnew_46 (by decide) ?_
            exact ih _ _ b x_3 x_4 _ hP hD hS (lv_sub hl [2, 3, 4, 5, 1, 0] rfl) hd
  refine lv_aload_n hx hb dX4_askAnew_0 rfl (lv_at hl 0 rfl) ?_
  refine va_get (D := (dC, dI)) (ci := 4) (v := .ref (a_b 2)) (C := RX4) (T := TX4) (N := 10) hx hb hts hi_X4 hown hK hP 0 rfl rfl 2 (by decide) kw0 (fun _ h9 => h9) rfl dX4_askAnew_1 ?_
  refine va_get (D := (dC, dI)) (ci := 1) (v := .ref (a_y 7)) (C := RX1) (T := TX1) (N := 12) hx hb hts hi_X1 hown hK hP 2 rfl rfl 7 (by decide) kw1 (fun _ h9 => h9) rfl dX4_askAnew_4 ?_
  refine lv_iload_n hx hb dX4_askAnew_7 rfl (lv_at hl 1 rfl) ?_
  obtain ⟨h1_8, hd⟩ := ob_nn hd
  refine va_iald hx hb hK hP 3 0 rfl rfl h1_8 dX4_askAnew_8 ?_
  refine lv_topi (fun x_1 ex_1 => ?_)
  replace hd := ob_lx ex_1 hd
  clear ex_1
  refine lv_istore (lv' := [(4, .int x_1), (0, .ref o_b), (1, .int x1), (2, .int x2), (3, .int x3)]) hx hb dX4_askAnew_9 hl (by decide) rfl (fun ls hl => ?_)
  refine lv_iconst (v := 0) hx hb dX4_askAnew_11 (by decide) ?_
  refine lv_istore (lv' := [(5, .int 0), (4, .int x_1), (0, .ref o_b), (1, .int x1), (2, .int x2), (3, .int x3)]) hx hb dX4_askAnew_12 hl (by decide) rfl (fun ls hl => ?_)
  exact L14  2000 _ _ b x_1 0 _ hP hD hS (lv_sub hl [2, 3, 4, 5, 1, 0] rfl) hd

def fd_X4_runBody1_L35  (b : ob_B) (y : ob_B) (x1 : Int32) (x2 : Int32) (x3 : Int32) : Option (Int32 × ob_B) := ob_lt (x3 + 1 : Int32) (fun x_4 => if x1 = 10 then (if x2 < 0 ∨ 7 ≤ Int32.toNatClampNeg x2 then none else (some ((y.2 9) (Int32.toNatClampNeg x2), b))) else (if x1 = 11 then (ob_b2 (fd_X4_runBody0 b y 10 x2 x_4) (fun r_5 b_6 => ob_b2 (fd_X4_askAnew0 b_6 y x2 1 x_4) (fun r_7 b_8 => some (r_5 + r_7, b_8)))) else (if x1 = 12 then (ob_b2 (fd_X4_runBody0 b y 11 x2 x_4) (fun r_9 b_10 => some (-r_9, b_10))) else (if x1 = 13 then (ob_b2 (fd_X4_runBody0 b y 10 x2 x_4) (fun r_11 b_12 => some (r_11 - 100, b_12))) else (if x1 = 14 then (ob_b2 (fd_X4_runBody0 b y 13 x2 x_4) (fun r_13 b_14 => some (2 * r_13, b_14))) else (if x1 = 15 then (some ((-1000001), b)) else (if x1 = 16 then (some ((-1000001), b)) else (if x1 = 17 then (some ((-1000001), b)) else (if x1 = 18 then (some ((-1000001), b)) else (if x1 = 19 then (some ((-1000001), b)) else (if x1 = 20 then (some (x2, b)) else (if x1 = 21 then (ob_b2 (fd_X4_runBody0 b y 20 x2 x_4) (fun r_15 b_16 => if x2 < 0 ∨ 7 ≤ Int32.toNatClampNeg x2 then none else (some (r_15 + ((y.2 8) (Int32.toNatClampNeg x2)), b_16)))) else (if x1 = 22 then (ob_b2 (fd_X4_runBody0 b y 21 x2 x_4) (fun r_17 b_18 => some (r_17 - 1000, b_18))) else (if x1 = 23 then (ob_b2 (fd_X4_runBody0 b y 20 x2 x_4) (fun r_19 b_20 => ob_b2 (fd_X4_askAnew0 b_20 y x2 0 x_4) (fun r_21 b_22 => some (r_19 - r_21, b_22)))) else (if x1 = 24 then (ob_b2 (fd_X4_runBody0 b y 21 x2 x_4) (fun r_23 b_24 => some (2 * r_23, b_24))) else (some ((-1000001), b)))))))))))))))))
def fd_X4_runBody1  (b : ob_B) (y : ob_B) (x1 : Int32) (x2 : Int32) (x3 : Int32) : Option (Int32 × ob_B) := if x3 ≤ 12 then (if 16 ≤ (b.1 7) then (fd_X4_runBody1_L35 b y x1 x2 x3) else (ob_lt ((b.1 7) + 1 : Int32) (fun x_1 => ob_lt (ob_I b 7 x_1 : ob_B) (fun b_2 => if (b.1 7) < 0 ∨ 16 ≤ Int32.toNatClampNeg (b.1 7) then none else (ob_lt (ob_A b_2 6 (upd (b_2.2 6) (Int32.toNatClampNeg (b.1 7)) x1) : ob_B) (fun b_3 => fd_X4_runBody1_L35 b_3 y x1 x2 x3)))))) else (some ((-1000001), b))
set_option maxHeartbeats 4000000 in
set_option maxRecDepth 100000 in
theorem mt_X4_runBody1 (l : Launch) (dC : Nat → ClassId) (dI : Nat → Nat → Nat) (cI cZ cR cW : ClassId) (xs : Nat → Nat) (sz : Nat) (o_b : Nat) (a_b : Nat → Nat) (a_y : Nat → Nat) (b : ob_B) (y : ob_B) (x1 : Int32) (x2 : Int32) (x3 : Int32)  (rr : Int32) (b' : ob_B) (hd : fd_X4_runBody1 b y x1 x2 x3 = some (rr, b')) : ob_M l yX4_runBody wsX4_runBody ({ frames := 2, cells := 0, slots := 0, locals := 49 } : Room) (dC, dI) (ob_ty cI cZ cR cW) xs [.ref o_b, .int x1, .int x2, .int x3] (ob_w4 o_b a_b cI b ++ ob_w1 (a_b 2) a_y cI y) sz (ob_Qi (dC, dI) rr (ob_w4 o_b a_b cI b' ++ ob_w1 (a_b 2) a_y cI y)) := by
  rw [fd_X4_runBody1] at hd
  refine ob_in (cc := cX4_runBody) (maxL := 5) (ret := (some .int)) (own := RX4) (by decide) rfl rfl [(0, .ref o_b), (1, .int x1), (2, .int x2), (3, .int x3)] rfl (Nat.le_of_ble_eq_true rfl) ?_
  intro p e s m below meth c hx hb hr hml hown hts hlocks hnm hK A hA hE hP hD hS ls hl
  have kw0 := hts (.fieldLink RX4 47 "OathCoach" "tracedCount" "I") (by decide +kernel)
  have kw1 := hts (.fieldLink RX4 43 "OathCoach" "traced" "[I") (by decide +kernel)
  have kw2 := hts (.constant RX4 62 (-1000001)) (by decide +kernel)
  have kw3 := hts (.fieldLink RX4 25 "OathCoach" "route" "LOathCoach$Route;") (by decide +kernel)
  have kw4 := hts (.fieldLink RX4 186 "OathCoach$Route" "weight" "[I") (by decide +kernel)
  have kw5 := hts (.fieldLink RX4 183 "OathCoach$Route" "place" "[I") (by decide +kernel)
  have hi_X1 : ∀ w ∈ u_ws RX1 TX1 12, w ∈ wsX4_runBody := by decide +kernel
  have hi_X4 : ∀ w ∈ u_ws RX4 TX4 10, w ∈ wsX4_runBody := by decide +kernel
  have L35 : ∀ (H : Heap) (locs : List Loc) (b : ob_B)  (ls : Array Slot), va_P (dC, dI) vwCl (ob_w4 o_b a_b cI b ++ ob_w1 (a_b 2) a_y cI y) H → va_D A (ob_w4 o_b a_b cI b ++ ob_w1 (a_b 2) a_y cI y) → va_S A s.heap H locs → lv_has ls 5 [(0, .ref o_b), (1, .int x1), (2, .int x2), (3, .int x3)] → fd_X4_runBody1_L35 b y x1 x2 x3 = some (rr, b') → W p l e ({ frames := 2, cells := 0, slots := 0, locals := 49 } : Room) s m (List.toArray [.ref o_b, .int x1, .int x2, .int x3]) below meth c H locs 0 0 (MQ below ((ob_Qi (dC, dI) rr (ob_w4 o_b a_b cI b' ++ ob_w1 (a_b 2) a_y cI y)) A) (List.toArray [.ref o_b, .int x1, .int x2, .int x3]) s 0 0 A) (F0 m 35 ls []) := by
    intro  H locs b ls hP hD hS hl hd
    rw [fd_X4_runBody1_L35] at hd
    refine lv_iload_n hx hb dX4_runBody_35 rfl (lv_at hl 3 rfl) ?_
    refine lv_iconst (v := 1) hx hb dX4_runBody_36 (by decide) ?_
    refine lv_iadd hx hb dX4_runBody_37 ?_
    refine lv_topi (fun x_4 ex_4 => ?_)
    replace hd := ob_lx ex_4 hd
    clear ex_4
    refine lv_istore (lv' := [(4, .int x_4), (0, .ref o_b), (1, .int x1), (2, .int x2), (3, .int x3)]) hx hb dX4_runBody_38 hl (by decide) rfl (fun ls hl => ?_)
    refine lv_iload_n hx hb dX4_runBody_40 rfl (lv_at hl 2 rfl) ?_
    by_cases c10_41 : x1 = 10
    · replace hd := ob_t c10_41 hd
      refine lv_tableIn (off := 75) (tgt := 116) hx hb dX4_runBody_41 (by rw [c10_41]; decide) (by rw [c10_41]; decide) (by rw [c10_41]; decide) (by decide) ?_
      refine lv_aload_n hx hb dX4_runBody_116 rfl (lv_at hl 1 rfl) ?_
      refine va_get (D := (dC, dI)) (ci := 4) (v := .ref (a_b 2)) (C := RX4) (T := TX4) (N := 10) hx hb hts hi_X4 hown hK hP 0 rfl rfl 2 (by decide) kw3 (fun _ h9 => h9) rfl dX4_runBody_117 ?_
      refine va_get (D := (dC, dI)) (ci := 1) (v := .ref (a_y 9)) (C := RX1) (T := TX1) (N := 12) hx hb hts hi_X1 hown hK hP 2 rfl rfl 9 (by decide) kw4 (fun _ h9 => h9) rfl dX4_runBody_120 ?_
      refine lv_iload_n hx hb dX4_runBody_123 rfl (lv_at hl 3 rfl) ?_
      obtain ⟨h1_124, hd⟩ := ob_nn hd
      refine va_iald hx hb hK hP 5 0 rfl rfl h1_124 dX4_runBody_124 ?_
      obtain ⟨e1, e2⟩ := ob_pp hd
      subst e1
      subst e2
      exact ob_iret hx hb hr hlocks hP hD hS dX4_runBody_125
    replace hd := ob_f c10_41 hd
    by_cases c11_41 : x1 = 11
    · replace hd := ob_t c11_41 hd
      refine lv_tableIn (off := 85) (tgt := 126) hx hb dX4_runBody_41 (by rw [c11_41]; decide) (by rw [c11_41]; decide) (by rw [c11_41]; decide) (by decide) ?_
      refine lv_aload_n hx hb dX4_runBody_126 rfl (lv_at hl 1 rfl) ?_
      refine lv_bipush (v := 10) hx hb dX4_runBody_127 (by decide) ?_
      refine lv_iload_n hx hb dX4_runBody_129 rfl (lv_at hl 3 rfl) ?_
      refine lv_iload hx hb dX4_runBody_130 (lv_at hl 0 rfl) ?_
      obtain ⟨r_5, b_6, hc_132, hd⟩ := ob_s2 hd
      refine ob_Vi (isC := [0, 1, 2, 3, 4, 5, 6, 7]) (isR := []) (is2 := [0, 1, 2, 3, 4, 5, 6, 7]) (wc := (ob_w4 o_b a_b cI b ++ ob_w1 (a_b 2) a_y cI y)) (wr := ([] : va_W)) (w1 := (ob_w4 o_b a_b cI b_6 ++ ob_w1 (a_b 2) a_y cI y)) (w2 := (ob_w4 o_b a_b cI b_6 ++ ob_w1 (a_b 2) a_y cI y)) (b := o_b) (As := [.int 10, .int x2, .int x_4]) (rest := []) ⟨hx, hb, hml, hown, hts⟩ (mt_X4_runBody0 l dC dI cI cZ cR cW xs _ o_b a_b a_y b y 10 x2 x_4 r_5 b_6 hc_132) (cwV 3 hts gX4_runBody_X4_runBody rfl rfl rfl (by decide +kernel) ⟨Nat.le_of_ble_eq_true rfl, Nat.le_of_ble_eq_true rfl⟩) hK hE hP hD hS hA ⟨rfl, rfl, rfl, rfl, rfl, rfl, rfl⟩ 4 0 rfl rfl rfl hl rfl rfl (Nat.le_of_ble_eq_true rfl) ⟨Nat.le_of_ble_eq_true rfl, Nat.le_of_ble_eq_true rfl⟩ dX4_runBody_132 (fun H locs hP hD hS => ?_)
      refine W.widen (k := 0) (n := 0) (Nat.le_refl _) (Nat.le_refl _) ?_
      refine lv_aload_n hx hb dX4_runBody_135 rfl (lv_at hl 1 rfl) ?_
      refine lv_iload_n hx hb dX4_runBody_136 rfl (lv_at hl 3 rfl) ?_
      refine lv_iconst (v := 1) hx hb dX4_runBody_137 (by decide) ?_
      refine lv_iload hx hb dX4_runBody_138 (lv_at hl 0 rfl) ?_
      obtain ⟨r_7, b_8, hc_140, hd⟩ := ob_s2 hd
      refine ob_Vi (isC := [0, 1, 2, 3, 4, 5, 6, 7]) (isR := []) (is2 := [0, 1, 2, 3, 4, 5, 6, 7]) (wc := (ob_w4 o_b a_b cI b_6 ++ ob_w1 (a_b 2) a_y cI y)) (wr := ([] : va_W)) (w1 := (ob_w4 o_b a_b cI b_8 ++ ob_w1 (a_b 2) a_y cI y)) (w2 := (ob_w4 o_b a_b cI b_8 ++ ob_w1 (a_b 2) a_y cI y)) (b := o_b) (As := [.int x2, .int 1, .int x_4]) (rest := [.int r_5]) ⟨hx, hb, hml, hown, hts⟩ (mt_X4_askAnew0 l dC dI cI cZ cR cW xs _ o_b a_b a_y b_6 y x2 1 x_4 r_7 b_8 hc_140) (cwV 3 hts gX4_runBody_X4_askAnew rfl rfl rfl (by decide +kernel) ⟨Nat.le_of_ble_eq_true rfl, Nat.le_of_ble_eq_true rfl⟩) hK hE hP hD hS hA ⟨rfl, rfl, rfl, rfl, rfl, rfl, rfl⟩ 4 0 rfl rfl rfl hl rfl rfl (Nat.le_of_ble_eq_true rfl) ⟨Nat.le_of_ble_eq_true rfl, Nat.le_of_ble_eq_true rfl⟩ dX4_runBody_140 (fun H locs hP hD hS => ?_)
      refine W.widen (k := 0) (n := 0) (Nat.le_refl _) (Nat.le_refl _) ?_
      refine lv_iadd hx hb dX4_runBody_143 ?_
      obtain ⟨e1, e2⟩ := ob_pp hd
      subst e1
      subst e2
      exact ob_iret hx hb hr hlocks hP hD hS dX4_runBody_144
    replace hd := ob_f c11_41 hd
    by_cases c12_41 : x1 = 12
    · replace hd := ob_t c12_41 hd
      refine lv_tableIn (off := 104) (tgt := 145) hx hb dX4_runBody_41 (by rw [c12_41]; decide) (by rw [c12_41]; decide) (by rw [c12_41]; decide) (by decide) ?_
      refine lv_aload_n hx hb dX4_runBody_145 rfl (lv_at hl 1 rfl) ?_
      refine lv_bipush (v := 11) hx hb dX4_runBody_146 (by decide) ?_
      refine lv_iload_n hx hb dX4_runBody_148 rfl (lv_at hl 3 rfl) ?_
      refine lv_iload hx hb dX4_runBody_149 (lv_at hl 0 rfl) ?_
      obtain ⟨r_9, b_10, hc_151, hd⟩ := ob_s2 hd
      refine ob_Vi (isC := [0, 1, 2, 3, 4, 5, 6, 7]) (isR := []) (is2 := [0, 1, 2, 3, 4, 5, 6, 7]) (wc := (ob_w4 o_b a_b cI b ++ ob_w1 (a_b 2) a_y cI y)) (wr := ([] : va_W)) (w1 := (ob_w4 o_b a_b cI b_10 ++ ob_w1 (a_b 2) a_y cI y)) (w2 := (ob_w4 o_b a_b cI b_10 ++ ob_w1 (a_b 2) a_y cI y)) (b := o_b) (As := [.int 11, .int x2, .int x_4]) (rest := []) ⟨hx, hb, hml, hown, hts⟩ (mt_X4_runBody0 l dC dI cI cZ cR cW xs _ o_b a_b a_y b y 11 x2 x_4 r_9 b_10 hc_151) (cwV 3 hts gX4_runBody_X4_runBody rfl rfl rfl (by decide +kernel) ⟨Nat.le_of_ble_eq_true rfl, Nat.le_of_ble_eq_true rfl⟩) hK hE hP hD hS hA ⟨rfl, rfl, rfl, rfl, rfl, rfl, rfl⟩ 4 0 rfl rfl rfl hl rfl rfl (Nat.le_of_ble_eq_true rfl) ⟨Nat.le_of_ble_eq_true rfl, Nat.le_of_ble_eq_true rfl⟩ dX4_runBody_151 (fun H locs hP hD hS => ?_)
      refine W.widen (k := 0) (n := 0) (Nat.le_refl _) (Nat.le_refl _) ?_
      refine lv_ineg hx hb dX4_runBody_154 ?_
      obtain ⟨e1, e2⟩ := ob_pp hd
      subst e1
      subst e2
      exact ob_iret hx hb hr hlocks hP hD hS dX4_runBody_155
    replace hd := ob_f c12_41 hd
    by_cases c13_41 : x1 = 13
    · replace hd := ob_t c13_41 hd
      refine lv_tableIn (off := 115) (tgt := 156) hx hb dX4_runBody_41 (by rw [c13_41]; decide) (by rw [c13_41]; decide) (by rw [c13_41]; decide) (by decide) ?_
      refine lv_aload_n hx hb dX4_runBody_156 rfl (lv_at hl 1 rfl) ?_
      refine lv_bipush (v := 10) hx hb dX4_runBody_157 (by decide) ?_
      refine lv_iload_n hx hb dX4_runBody_159 rfl (lv_at hl 3 rfl) ?_
      refine lv_iload hx hb dX4_runBody_160 (lv_at hl 0 rfl) ?_
      obtain ⟨r_11, b_12, hc_162, hd⟩ := ob_s2 hd
      refine ob_Vi (isC := [0, 1, 2, 3, 4, 5, 6, 7]) (isR := []) (is2 := [0, 1, 2, 3, 4, 5, 6, 7]) (wc := (ob_w4 o_b a_b cI b ++ ob_w1 (a_b 2) a_y cI y)) (wr := ([] : va_W)) (w1 := (ob_w4 o_b a_b cI b_12 ++ ob_w1 (a_b 2) a_y cI y)) (w2 := (ob_w4 o_b a_b cI b_12 ++ ob_w1 (a_b 2) a_y cI y)) (b := o_b) (As := [.int 10, .int x2, .int x_4]) (rest := []) ⟨hx, hb, hml, hown, hts⟩ (mt_X4_runBody0 l dC dI cI cZ cR cW xs _ o_b a_b a_y b y 10 x2 x_4 r_11 b_12 hc_162) (cwV 3 hts gX4_runBody_X4_runBody rfl rfl rfl (by decide +kernel) ⟨Nat.le_of_ble_eq_true rfl, Nat.le_of_ble_eq_true rfl⟩) hK hE hP hD hS hA ⟨rfl, rfl, rfl, rfl, rfl, rfl, rfl⟩ 4 0 rfl rfl rfl hl rfl rfl (Nat.le_of_ble_eq_true rfl) ⟨Nat.le_of_ble_eq_true rfl, Nat.le_of_ble_eq_true rfl⟩ dX4_runBody_162 (fun H locs hP hD hS => ?_)
      refine W.widen (k := 0) (n := 0) (Nat.le_refl _) (Nat.le_refl _) ?_
      refine lv_bipush (v := 100) hx hb dX4_runBody_165 (by decide) ?_
      refine lv_isub hx hb dX4_runBody_167 ?_
      obtain ⟨e1, e2⟩ := ob_pp hd
      subst e1
      subst e2
      exact ob_iret hx hb hr hlocks hP hD hS dX4_runBody_168
    replace hd := ob_f c13_41 hd
    by_cases c14_41 : x1 = 14
    · replace hd := ob_t c14_41 hd
      refine lv_tableIn (off := 128) (tgt := 169) hx hb dX4_runBody_41 (by rw [c14_41]; decide) (by rw [c14_41]; decide) (by rw [c14_41]; decide) (by decide) ?_
      refine lv_iconst (v := 2) hx hb dX4_runBody_169 (by decide) ?_
      refine lv_aload_n hx hb dX4_runBody_170 rfl (lv_at hl 1 rfl) ?_
      refine lv_bipush (v := 13) hx hb dX4_runBody_171 (by decide) ?_
      refine lv_iload_n hx hb dX4_runBody_173 rfl (lv_at hl 3 rfl) ?_
      refine lv_iload hx hb dX4_runBody_174 (lv_at hl 0 rfl) ?_
      obtain ⟨r_13, b_14, hc_176, hd⟩ := ob_s2 hd
      refine ob_Vi (isC := [0, 1, 2, 3, 4, 5, 6, 7]) (isR := []) (is2 := [0, 1, 2, 3, 4, 5, 6, 7]) (wc := (ob_w4 o_b a_b cI b ++ ob_w1 (a_b 2) a_y cI y)) (wr := ([] : va_W)) (w1 := (ob_w4 o_b a_b cI b_14 ++ ob_w1 (a_b 2) a_y cI y)) (w2 := (ob_w4 o_b a_b cI b_14 ++ ob_w1 (a_b 2) a_y cI y)) (b := o_b) (As := [.int 13, .int x2, .int x_4]) (rest := [.int 2]) ⟨hx, hb, hml, hown, hts⟩ (mt_X4_runBody0 l dC dI cI cZ cR cW xs _ o_b a_b a_y b y 13 x2 x_4 r_13 b_14 hc_176) (cwV 3 hts gX4_runBody_X4_runBody rfl rfl rfl (by decide +kernel) ⟨Nat.le_of_ble_eq_true rfl, Nat.le_of_ble_eq_true rfl⟩) hK hE hP hD hS hA ⟨rfl, rfl, rfl, rfl, rfl, rfl, rfl⟩ 4 0 rfl rfl rfl hl rfl rfl (Nat.le_of_ble_eq_true rfl) ⟨Nat.le_of_ble_eq_true rfl, Nat.le_of_ble_eq_true rfl⟩ dX4_runBody_176 (fun H locs hP hD hS => ?_)
      refine W.widen (k := 0) (n := 0) (Nat.le_refl _) (Nat.le_refl _) ?_
      refine lv_imul hx hb dX4_runBody_179 ?_
      obtain ⟨e1, e2⟩ := ob_pp hd
      subst e1
      subst e2
      exact ob_iret hx hb hr hlocks hP hD hS dX4_runBody_180
    replace hd := ob_f c14_41 hd
    by_cases c15_41 : x1 = 15
    · replace hd := ob_t c15_41 hd
      refine lv_tableIn (off := 207) (tgt := 248) hx hb dX4_runBody_41 (by rw [c15_41]; decide) (by rw [c15_41]; decide) (by rw [c15_41]; decide) (by decide) ?_
      refine lv_ldc hx hb hown kw2 dX4_runBody_248 ?_
      obtain ⟨e1, e2⟩ := ob_pp hd
      subst e1
      subst e2
      exact ob_iret hx hb hr hlocks hP hD hS dX4_runBody_250
    replace hd := ob_f c15_41 hd
    by_cases c16_41 : x1 = 16
    · replace hd := ob_t c16_41 hd
      refine lv_tableIn (off := 207) (tgt := 248) hx hb dX4_runBody_41 (by rw [c16_41]; decide) (by rw [c16_41]; decide) (by rw [c16_41]; decide) (by decide) ?_
      refine lv_ldc hx hb hown kw2 dX4_runBody_248 ?_
      obtain ⟨e1, e2⟩ := ob_pp hd
      subst e1
      subst e2
      exact ob_iret hx hb hr hlocks hP hD hS dX4_runBody_250
    replace hd := ob_f c16_41 hd
    by_cases c17_41 : x1 = 17
    · replace hd := ob_t c17_41 hd
      refine lv_tableIn (off := 207) (tgt := 248) hx hb dX4_runBody_41 (by rw [c17_41]; decide) (by rw [c17_41]; decide) (by rw [c17_41]; decide) (by decide) ?_
      refine lv_ldc hx hb hown kw2 dX4_runBody_248 ?_
      obtain ⟨e1, e2⟩ := ob_pp hd
      subst e1
      subst e2
      exact ob_iret hx hb hr hlocks hP hD hS dX4_runBody_250
    replace hd := ob_f c17_41 hd
    by_cases c18_41 : x1 = 18
    · replace hd := ob_t c18_41 hd
      refine lv_tableIn (off := 207) (tgt := 248) hx hb dX4_runBody_41 (by rw [c18_41]; decide) (by rw [c18_41]; decide) (by rw [c18_41]; decide) (by decide) ?_
      refine lv_ldc hx hb hown kw2 dX4_runBody_248 ?_
      obtain ⟨e1, e2⟩ := ob_pp hd
      subst e1
      subst e2
      exact ob_iret hx hb hr hlocks hP hD hS dX4_runBody_250
    replace hd := ob_f c18_41 hd
    by_cases c19_41 : x1 = 19
    · replace hd := ob_t c19_41 hd
      refine lv_tableIn (off := 207) (tgt := 248) hx hb dX4_runBody_41 (by rw [c19_41]; decide) (by rw [c19_41]; decide) (by rw [c19_41]; decide) (by decide) ?_
      refine lv_ldc hx hb hown kw2 dX4_runBody_248 ?_
      obtain ⟨e1, e2⟩ := ob_pp hd
      subst e1
      subst e2
      exact ob_iret hx hb hr hlocks hP hD hS dX4_runBody_250
    replace hd := ob_f c19_41 hd
    by_cases c20_41 : x1 = 20
    · replace hd := ob_t c20_41 hd
      refine lv_tableIn (off := 140) (tgt := 181) hx hb dX4_runBody_41 (by rw [c20_41]; decide) (by rw [c20_41]; decide) (by rw [c20_41]; decide) (by decide) ?_
      refine lv_iload_n hx hb dX4_runBody_181 rfl (lv_at hl 3 rfl) ?_
      obtain ⟨e1, e2⟩ := ob_pp hd
      subst e1
      subst e2
      exact ob_iret hx hb hr hlocks hP hD hS dX4_runBody_182
    replace hd := ob_f c20_41 hd
    by_cases c21_41 : x1 = 21
    · replace hd := ob_t c21_41 hd
      refine lv_tableIn (off := 142) (tgt := 183) hx hb dX4_runBody_41 (by rw [c21_41]; decide) (by rw [c21_41]; decide) (by rw [c21_41]; decide) (by decide) ?_
      refine lv_aload_n hx hb dX4_runBody_183 rfl (lv_at hl 1 rfl) ?_
      refine lv_bipush (v := 20) hx hb dX4_runBody_184 (by decide) ?_
      refine lv_iload_n hx hb dX4_runBody_186 rfl (lv_at hl 3 rfl) ?_
      refine lv_iload hx hb dX4_runBody_187 (lv_at hl 0 rfl) ?_
      obtain ⟨r_15, b_16, hc_189, hd⟩ := ob_s2 hd
      refine ob_Vi (isC := [0, 1, 2, 3, 4, 5, 6, 7]) (isR := []) (is2 := [0, 1, 2, 3, 4, 5, 6, 7]) (wc := (ob_w4 o_b a_b cI b ++ ob_w1 (a_b 2) a_y cI y)) (wr := ([] : va_W)) (w1 := (ob_w4 o_b a_b cI b_16 ++ ob_w1 (a_b 2) a_y cI y)) (w2 := (ob_w4 o_b a_b cI b_16 ++ ob_w1 (a_b 2) a_y cI y)) (b := o_b) (As := [.int 20, .int x2, .int x_4]) (rest := []) ⟨hx, hb, hml, hown, hts⟩ (mt_X4_runBody0 l dC dI cI cZ cR cW xs _ o_b a_b a_y b y 20 x2 x_4 r_15 b_16 hc_189) (cwV 3 hts gX4_runBody_X4_runBody rfl rfl rfl (by decide +kernel) ⟨Nat.le_of_ble_eq_true rfl, Nat.le_of_ble_eq_true rfl⟩) hK hE hP hD hS hA ⟨rfl, rfl, rfl, rfl, rfl, rfl, rfl⟩ 4 0 rfl rfl rfl hl rfl rfl (Nat.le_of_ble_eq_true rfl) ⟨Nat.le_of_ble_eq_true rfl, Nat.le_of_ble_eq_true rfl⟩ dX4_runBody_189 (fun H locs hP hD hS => ?_)
      refine W.widen (k := 0) (n := 0) (Nat.le_refl _) (Nat.le_refl _) ?_
      refine lv_aload_n hx hb dX4_runBody_192 rfl (lv_at hl 1 rfl) ?_
      refine va_get (D := (dC, dI)) (ci := 4) (v := .ref (a_b 2)) (C := RX4) (T := TX4) (N := 10) hx hb hts hi_X4 hown hK hP 0 rfl rfl 2 (by decide) kw3 (fun _ h9 => h9) rfl dX4_runBody_193 ?_
      refine va_get (D := (dC, dI)) (ci := 1) (v := .ref (a_y 8)) (C := RX1) (T := TX1) (N := 12) hx hb hts hi_X1 hown hK hP 2 rfl rfl 8 (by decide) kw5 (fun _ h9 => h9) rfl dX4_runBody_196 ?_
      refine lv_iload_n hx hb dX4_runBody_199 rfl (lv_at hl 3 rfl) ?_
      obtain ⟨h1_200, hd⟩ := ob_nn hd
      refine va_iald hx hb hK hP 4 0 rfl rfl h1_200 dX4_runBody_200 ?_
      refine lv_iadd hx hb dX4_runBody_201 ?_
      obtain ⟨e1, e2⟩ := ob_pp hd
      subst e1
      subst e2
      exact ob_iret hx hb hr hlocks hP hD hS dX4_runBody_202
    replace hd := ob_f c21_41 hd
    by_cases c22_41 : x1 = 22
    · replace hd := ob_t c22_41 hd
      refine lv_tableIn (off := 162) (tgt := 203) hx hb dX4_runBody_41 (by rw [c22_41]; decide) (by rw [c22_41]; decide) (by rw [c22_41]; decide) (by decide) ?_
      refine lv_aload_n hx hb dX4_runBody_203 rfl (lv_at hl 1 rfl) ?_
      refine lv_bipush (v := 21) hx hb dX4_runBody_204 (by decide) ?_
      refine lv_iload_n hx hb dX4_runBody_206 rfl (lv_at hl 3 rfl) ?_
      refine lv_iload hx hb dX4_runBody_207 (lv_at hl 0 rfl) ?_
      obtain ⟨r_17, b_18, hc_209, hd⟩ := ob_s2 hd
      refine ob_Vi (isC := [0, 1, 2, 3, 4, 5, 6, 7]) (isR := []) (is2 := [0, 1, 2, 3, 4, 5, 6, 7]) (wc := (ob_w4 o_b a_b cI b ++ ob_w1 (a_b 2) a_y cI y)) (wr := ([] : va_W)) (w1 := (ob_w4 o_b a_b cI b_18 ++ ob_w1 (a_b 2) a_y cI y)) (w2 := (ob_w4 o_b a_b cI b_18 ++ ob_w1 (a_b 2) a_y cI y)) (b := o_b) (As := [.int 21, .int x2, .int x_4]) (rest := []) ⟨hx, hb, hml, hown, hts⟩ (mt_X4_runBody0 l dC dI cI cZ cR cW xs _ o_b a_b a_y b y 21 x2 x_4 r_17 b_18 hc_209) (cwV 3 hts gX4_runBody_X4_runBody rfl rfl rfl (by decide +kernel) ⟨Nat.le_of_ble_eq_true rfl, Nat.le_of_ble_eq_true rfl⟩) hK hE hP hD hS hA ⟨rfl, rfl, rfl, rfl, rfl, rfl, rfl⟩ 4 0 rfl rfl rfl hl rfl rfl (Nat.le_of_ble_eq_true rfl) ⟨Nat.le_of_ble_eq_true rfl, Nat.le_of_ble_eq_true rfl⟩ dX4_runBody_209 (fun H locs hP hD hS => ?_)
      refine W.widen (k := 0) (n := 0) (Nat.le_refl _) (Nat.le_refl _) ?_
      refine lv_sipush (v := 1000) hx hb dX4_runBody_212 (by decide) ?_
      refine lv_isub hx hb dX4_runBody_215 ?_
      obtain ⟨e1, e2⟩ := ob_pp hd
      subst e1
      subst e2
      exact ob_iret hx hb hr hlocks hP hD hS dX4_runBody_216
    replace hd := ob_f c22_41 hd
    by_cases c23_41 : x1 = 23
    · replace hd := ob_t c23_41 hd
      refine lv_tableIn (off := 176) (tgt := 217) hx hb dX4_runBody_41 (by rw [c23_41]; decide) (by rw [c23_41]; decide) (by rw [c23_41]; decide) (by decide) ?_
      refine lv_aload_n hx hb dX4_runBody_217 rfl (lv_at hl 1 rfl) ?_
      refine lv_bipush (v := 20) hx hb dX4_runBody_218 (by decide) ?_
      refine lv_iload_n hx hb dX4_runBody_220 rfl (lv_at hl 3 rfl) ?_
      refine lv_iload hx hb dX4_runBody_221 (lv_at hl 0 rfl) ?_
      obtain ⟨r_19, b_20, hc_223, hd⟩ := ob_s2 hd
      refine ob_Vi (isC := [0, 1, 2, 3, 4, 5, 6, 7]) (isR := []) (is2 := [0, 1, 2, 3, 4, 5, 6, 7]) (wc := (ob_w4 o_b a_b cI b ++ ob_w1 (a_b 2) a_y cI y)) (wr := ([] : va_W)) (w1 := (ob_w4 o_b a_b cI b_20 ++ ob_w1 (a_b 2) a_y cI y)) (w2 := (ob_w4 o_b a_b cI b_20 ++ ob_w1 (a_b 2) a_y cI y)) (b := o_b) (As := [.int 20, .int x2, .int x_4]) (rest := []) ⟨hx, hb, hml, hown, hts⟩ (mt_X4_runBody0 l dC dI cI cZ cR cW xs _ o_b a_b a_y b y 20 x2 x_4 r_19 b_20 hc_223) (cwV 3 hts gX4_runBody_X4_runBody rfl rfl rfl (by decide +kernel) ⟨Nat.le_of_ble_eq_true rfl, Nat.le_of_ble_eq_true rfl⟩) hK hE hP hD hS hA ⟨rfl, rfl, rfl, rfl, rfl, rfl, rfl⟩ 4 0 rfl rfl rfl hl rfl rfl (Nat.le_of_ble_eq_true rfl) ⟨Nat.le_of_ble_eq_true rfl, Nat.le_of_ble_eq_true rfl⟩ dX4_runBody_223 (fun H locs hP hD hS => ?_)
      refine W.widen (k := 0) (n := 0) (Nat.le_refl _) (Nat.le_refl _) ?_
      refine lv_aload_n hx hb dX4_runBody_226 rfl (lv_at hl 1 rfl) ?_
      refine lv_iload_n hx hb dX4_runBody_227 rfl (lv_at hl 3 rfl) ?_
      refine lv_iconst (v := 0) hx hb dX4_runBody_228 (by decide) ?_
      refine lv_iload hx hb dX4_runBody_229 (lv_at hl 0 rfl) ?_
      obtain ⟨r_21, b_22, hc_231, hd⟩ := ob_s2 hd
      refine ob_Vi (isC := [0, 1, 2, 3, 4, 5, 6, 7]) (isR := []) (is2 := [0, 1, 2, 3, 4, 5, 6, 7]) (wc := (ob_w4 o_b a_b cI b_20 ++ ob_w1 (a_b 2) a_y cI y)) (wr := ([] : va_W)) (w1 := (ob_w4 o_b a_b cI b_22 ++ ob_w1 (a_b 2) a_y cI y)) (w2 := (ob_w4 o_b a_b cI b_22 ++ ob_w1 (a_b 2) a_y cI y)) (b := o_b) (As := [.int x2, .int 0, .int x_4]) (rest := [.int r_19]) ⟨hx, hb, hml, hown, hts⟩ (mt_X4_askAnew0 l dC dI cI cZ cR cW xs _ o_b a_b a_y b_20 y x2 0 x_4 r_21 b_22 hc_231) (cwV 3 hts gX4_runBody_X4_askAnew rfl rfl rfl (by decide +kernel) ⟨Nat.le_of_ble_eq_true rfl, Nat.le_of_ble_eq_true rfl⟩) hK hE hP hD hS hA ⟨rfl, rfl, rfl, rfl, rfl, rfl, rfl⟩ 4 0 rfl rfl rfl hl rfl rfl (Nat.le_of_ble_eq_true rfl) ⟨Nat.le_of_ble_eq_true rfl, Nat.le_of_ble_eq_true rfl⟩ dX4_runBody_231 (fun H locs hP hD hS => ?_)
      refine W.widen (k := 0) (n := 0) (Nat.le_refl _) (Nat.le_refl _) ?_
      refine lv_isub hx hb dX4_runBody_234 ?_
      obtain ⟨e1, e2⟩ := ob_pp hd
      subst e1
      subst e2
      exact ob_iret hx hb hr hlocks hP hD hS dX4_runBody_235
    replace hd := ob_f c23_41 hd
    by_cases c24_41 : x1 = 24
    · replace hd := ob_t c24_41 hd
      refine lv_tableIn (off := 195) (tgt := 236) hx hb dX4_runBody_41 (by rw [c24_41]; decide) (by rw [c24_41]; decide) (by rw [c24_41]; decide) (by decide) ?_
      refine lv_iconst (v := 2) hx hb dX4_runBody_236 (by decide) ?_
      refine lv_aload_n hx hb dX4_runBody_237 rfl (lv_at hl 1 rfl) ?_
      refine lv_bipush (v := 21) hx hb dX4_runBody_238 (by decide) ?_
      refine lv_iload_n hx hb dX4_runBody_240 rfl (lv_at hl 3 rfl) ?_
      refine lv_iload hx hb dX4_runBody_241 (lv_at hl 0 rfl) ?_
      obtain ⟨r_23, b_24, hc_243, hd⟩ := ob_s2 hd
      refine ob_Vi (isC := [0, 1, 2, 3, 4, 5, 6, 7]) (isR := []) (is2 := [0, 1, 2, 3, 4, 5, 6, 7]) (wc := (ob_w4 o_b a_b cI b ++ ob_w1 (a_b 2) a_y cI y)) (wr := ([] : va_W)) (w1 := (ob_w4 o_b a_b cI b_24 ++ ob_w1 (a_b 2) a_y cI y)) (w2 := (ob_w4 o_b a_b cI b_24 ++ ob_w1 (a_b 2) a_y cI y)) (b := o_b) (As := [.int 21, .int x2, .int x_4]) (rest := [.int 2]) ⟨hx, hb, hml, hown, hts⟩ (mt_X4_runBody0 l dC dI cI cZ cR cW xs _ o_b a_b a_y b y 21 x2 x_4 r_23 b_24 hc_243) (cwV 3 hts gX4_runBody_X4_runBody rfl rfl rfl (by decide +kernel) ⟨Nat.le_of_ble_eq_true rfl, Nat.le_of_ble_eq_true rfl⟩) hK hE hP hD hS hA ⟨rfl, rfl, rfl, rfl, rfl, rfl, rfl⟩ 4 0 rfl rfl rfl hl rfl rfl (Nat.le_of_ble_eq_true rfl) ⟨Nat.le_of_ble_eq_true rfl, Nat.le_of_ble_eq_true rfl⟩ dX4_runBody_243 (fun H locs hP hD hS => ?_)
      refine W.widen (k := 0) (n := 0) (Nat.le_refl _) (Nat.le_refl _) ?_
      refine lv_imul hx hb dX4_runBody_246 ?_
      obtain ⟨e1, e2⟩ := ob_pp hd
      subst e1
      subst e2
      exact ob_iret hx hb hr hlocks hP hD hS dX4_runBody_247
    replace hd := ob_f c24_41 hd
    refine lv_tableOut (tgt := 248) hx hb dX4_runBody_41 (by have n10 := lv_neT c10_41 (show (10 : Int32).toInt = 10 from rfl); have n11 := lv_neT c11_41 (show (11 : Int32).toInt = 11 from rfl); have n12 := lv_neT c12_41 (show (12 : Int32).toInt = 12 from rfl); have n13 := lv_neT c13_41 (show (13 : Int32).toInt = 13 from rfl); have n14 := lv_neT c14_41 (show (14 : Int32).toInt = 14 from rfl); have n15 := lv_neT c15_41 (show (15 : Int32).toInt = 15 from rfl); have n16 := lv_neT c16_41 (show (16 : Int32).toInt = 16 from rfl); have n17 := lv_neT c17_41 (show (17 : Int32).toInt = 17 from rfl); have n18 := lv_neT c18_41 (show (18 : Int32).toInt = 18 from rfl); have n19 := lv_neT c19_41 (show (19 : Int32).toInt = 19 from rfl); have n20 := lv_neT c20_41 (show (20 : Int32).toInt = 20 from rfl); have n21 := lv_neT c21_41 (show (21 : Int32).toInt = 21 from rfl); have n22 := lv_neT c22_41 (show (22 : Int32).toInt = 22 from rfl); have n23 := lv_neT c23_41 (show (23 : Int32).toInt = 23 from rfl); have n24 := lv_neT c24_41 (show (24 : Int32).toInt = 24 from rfl); omega) (by decide) ?_
    refine lv_ldc hx hb hown kw2 dX4_runBody_248 ?_
    obtain ⟨e1, e2⟩ := ob_pp hd
    subst e1
    subst e2
    exact ob_iret hx hb hr hlocks hP hD hS dX4_runBody_250
  refine lv_iload_n hx hb dX4_runBody_0 rfl (lv_at hl 3 rfl) ?_
  refine lv_bipush (v := 12) hx hb dX4_runBody_1 (by decide) ?_
  refine lv_icmp_le (tgt := 9) hx hb dX4_runBody_3 (by decide) (fun c_3 => ?_) (fun c_3 => ?_)
  · replace hd := ob_t c_3 hd
    refine lv_aload_n hx hb dX4_runBody_9 rfl (lv_at hl 0 rfl) ?_
    refine va_get (D := (dC, dI)) (ci := 4) (v := .int (b.1 7)) (C := RX4) (T := TX4) (N := 10) hx hb hts hi_X4 hown hK hP 0 rfl rfl 7 (by decide) kw0 (fun _ h9 => h9) rfl dX4_runBody_10 ?_
    refine lv_bipush (v := 16) hx hb dX4_runBody_13 (by decide) ?_
    refine lv_icmp_ge (tgt := 35) hx hb dX4_runBody_15 (by decide) (fun c_15 => ?_) (fun c_15 => ?_)
    · replace hd := ob_t c_15 hd
      exact L35   _ _ b _ hP hD hS (lv_sub hl [0, 1, 2, 3] rfl) hd
    · replace hd := ob_f c_15 hd
      refine lv_aload_n hx hb dX4_runBody_18 rfl (lv_at hl 0 rfl) ?_
      refine va_get (D := (dC, dI)) (ci := 4) (v := .ref (a_b 6)) (C := RX4) (T := TX4) (N := 10) hx hb hts hi_X4 hown hK hP 0 rfl rfl 6 (by decide) kw1 (fun _ h9 => h9) rfl dX4_runBody_19 ?_
      refine lv_aload_n hx hb dX4_runBody_22 rfl (lv_at hl 0 rfl) ?_
      refine lv_dup hx hb dX4_runBody_23 rfl ?_
      refine va_get (D := (dC, dI)) (ci := 4) (v := .int (b.1 7)) (C := RX4) (T := TX4) (N := 10) hx hb hts hi_X4 hown hK hP 0 rfl rfl 7 (by decide) kw0 (fun _ h9 => h9) rfl dX4_runBody_24 ?_
      refine lv_dup_x1 hx hb dX4_runBody_27 rfl rfl ?_
      refine lv_iconst (v := 1) hx hb dX4_runBody_28 (by decide) ?_
      refine lv_iadd hx hb dX4_runBody_29 ?_
      refine lv_topi (fun x_1 ex_1 => ?_)
      replace hd := ob_lx ex_1 hd
      clear ex_1
      refine va_put (D := (dC, dI)) (ci := 4) (v := .int x_1) (ty := .int) (C := RX4) (T := TX4) (N := 10) hx hb hts hi_X4 tyX4 tyX4_ok nmX4 hown hK hP hD hS 0 rfl rfl 7 (by decide) kw0 (fun _ h9 => h9) rfl (by decide +kernel) rfl rfl (Nat.le_of_ble_eq_true rfl) dX4_runBody_30 (fun H locs hP hD hS => ?_)
      obtain ⟨b_2, eb_2⟩ : ∃ z : ob_B, z = ob_I b 7 x_1 := ⟨_, rfl⟩
      replace hd := ob_lx eb_2 hd
      replace hP : va_P (dC, dI) vwCl (ob_w4 o_b a_b cI b_2 ++ ob_w1 (a_b 2) a_y cI y) H := by rw [eb_2]; exact hP
      replace hD : va_D A (ob_w4 o_b a_b cI b_2 ++ ob_w1 (a_b 2) a_y cI y) := by rw [eb_2]; exact hD
      clear eb_2
      refine lv_iload_n hx hb dX4_runBody_33 rfl (lv_at hl 1 rfl) ?_
      obtain ⟨h1_34, hd⟩ := ob_nn hd
      refine va_iast hx hb hK hP hD hS 1 0 rfl rfl h1_34 dX4_runBody_34 (fun H locs hP hD hS => ?_)
      obtain ⟨b_3, eb_3⟩ : ∃ z : ob_B, z = ob_A b_2 6 (upd (b_2.2 6) (Int32.toNatClampNeg (b.1 7)) x1) := ⟨_, rfl⟩
      replace hd := ob_lx eb_3 hd
      replace hP : va_P (dC, dI) vwCl (ob_w4 o_b a_b cI b_3 ++ ob_w1 (a_b 2) a_y cI y) H := by rw [eb_3]; exact hP
      replace hD : va_D A (ob_w4 o_b a_b cI b_3 ++ ob_w1 (a_b 2) a_y cI y) := by rw [eb_3]; exact hD
      clear eb_3
      exact L35   _ _ b_3 _ hP hD hS (lv_sub hl [0, 1, 2, 3] rfl) hd
  · replace hd := ob_f c_3 hd
    refine lv_ldc hx hb hown kw2 dX4_runBody_6 ?_
    obtain ⟨e1, e2⟩ := ob_pp hd
    subst e1
    subst e2
    exact ob_iret hx hb hr hlocks hP hD hS dX4_runBody_8

def fd_X4_askAnew1_L49  (b : ob_B) (y : ob_B) (x1 : Int32) (x2 : Int32) (x3 : Int32) (z4 : Int32) : Option (Int32 × ob_B) := ob_b1 (fd_X4_toldBody z4 x2) (fun r_5 => ob_b2 (fd_X4_runBody1 b y r_5 x1 x3) (fun r_6 b_7 => some (r_6, b_7)))
def fd_X4_askAnew1_L14  : Nat → ob_B → ob_B → Int32 → Int32 → Int32 → Int32 → Int32 → Option (Int32 × ob_B)
  | 0, _, _, _, _, _, _, _ => none
  | fu + 1, b, y, x1, x2, x3, z4, z5 => if 6 ≤ z5 then (fd_X4_askAnew1_L49 b y x1 x2 x3 z4) else (if z4 ≤ 0 then (fd_X4_askAnew1_L49 b y x1 x2 x3 z4) else (ob_b1 (fd_X4_toldBody z4 x2) (fun r_2 => if r_2 = 0 then (if z4 < 0 ∨ 6 ≤ Int32.toNatClampNeg z4 then none else (ob_lt (([0, 0, 1, 1, 0, 4] : List Int32).getD (Int32.toNatClampNeg z4) 0 : Int32) (fun x_3 => ob_lt (z5 + 1 : Int32) (fun x_4 => fd_X4_askAnew1_L14 fu b y x1 x2 x3 x_3 x_4)))) else (fd_X4_askAnew1_L49 b y x1 x2 x3 z4))))
def fd_X4_askAnew1  (b : ob_B) (y : ob_B) (x1 : Int32) (x2 : Int32) (x3 : Int32) : Option (Int32 × ob_B) := if x1 < 0 ∨ 7 ≤ Int32.toNatClampNeg x1 then none else (ob_lt ((y.2 7) (Int32.toNatClampNeg x1) : Int32) (fun x_1 => fd_X4_askAnew1_L14 2000 b y x1 x2 x3 x_1 0))
set_option maxHeartbeats 4000000 in
set_option maxRecDepth 100000 in
theorem mt_X4_askAnew1 (l : Launch) (dC : Nat → ClassId) (dI : Nat → Nat → Nat) (cI cZ cR cW : ClassId) (xs : Nat → Nat) (sz : Nat) (o_b : Nat) (a_b : Nat → Nat) (a_y : Nat → Nat) (b : ob_B) (y : ob_B) (x1 : Int32) (x2 : Int32) (x3 : Int32)  (rr : Int32) (b' : ob_B) (hd : fd_X4_askAnew1 b y x1 x2 x3 = some (rr, b')) : ob_M l yX4_askAnew wsX4_askAnew ({ frames := 3, cells := 0, slots := 0, locals := 73 } : Room) (dC, dI) (ob_ty cI cZ cR cW) xs [.ref o_b, .int x1, .int x2, .int x3] (ob_w4 o_b a_b cI b ++ ob_w1 (a_b 2) a_y cI y) sz (ob_Qi (dC, dI) rr (ob_w4 o_b a_b cI b' ++ ob_w1 (a_b 2) a_y cI y)) := by
  rw [fd_X4_askAnew1] at hd
  refine ob_in (cc := cX4_askAnew) (maxL := 6) (ret := (some .int)) (own := RX4) (by decide) rfl rfl [(0, .ref o_b), (1, .int x1), (2, .int x2), (3, .int x3)] rfl (Nat.le_of_ble_eq_true rfl) ?_
  intro p e s m below meth c hx hb hr hml hown hts hlocks hnm hK A hA hE hP hD hS ls hl
  have kw0 := hts (.fieldLink RX4 25 "OathCoach" "route" "LOathCoach$Route;") (by decide +kernel)
  have kw1 := hts (.fieldLink RX4 213 "OathCoach$Route" "kind" "[I") (by decide +kernel)
  have kw2 := hts (.fieldLink RX4 245 "OathCoach" "KIND_ABOVE" "[I") (by decide +kernel)
  have hi_X1 : ∀ w ∈ u_ws RX1 TX1 12, w ∈ wsX4_askAnew := by decide +kernel
  have hi_X4 : ∀ w ∈ u_ws RX4 TX4 10, w ∈ wsX4_askAnew := by decide +kernel
  obtain ⟨hE1, hE2, hE3, hE4, hE5, hE6, hE7, hE8, hE9, -⟩ := id hE
  have hET : va_T .byte (xs 4) 5 (fun j => .int (([111, 109, 108, 102, 118] : List Int32).getD j 0)) A s s.heap := (hE8.1 0 (by decide)).2.2.2
  have L49 : ∀ (H : Heap) (locs : List Loc) (b : ob_B) (z4 : Int32) (ls : Array Slot), va_P (dC, dI) vwCl (ob_w4 o_b a_b cI b ++ ob_w1 (a_b 2) a_y cI y) H → va_D A (ob_w4 o_b a_b cI b ++ ob_w1 (a_b 2) a_y cI y) → va_S A s.heap H locs → lv_has ls 6 [(0, .ref o_b), (1, .int x1), (2, .int x2), (3, .int x3), (4, .int z4)] → fd_X4_askAnew1_L49 b y x1 x2 x3 z4 = some (rr, b') → W p l e ({ frames := 3, cells := 0, slots := 0, locals := 73 } : Room) s m (List.toArray [.ref o_b, .int x1, .int x2, .int x3]) below meth c H locs 0 0 (MQ below ((ob_Qi (dC, dI) rr (ob_w4 o_b a_b cI b' ++ ob_w1 (a_b 2) a_y cI y)) A) (List.toArray [.ref o_b, .int x1, .int x2, .int x3]) s 0 0 A) (F0 m 49 ls []) := by
    intro  H locs b z4 ls hP hD hS hl hd
    rw [fd_X4_askAnew1_L49] at hd
    refine lv_aload_n hx hb dX4_askAnew_49 rfl (lv_at hl 0 rfl) ?_
    refine lv_iload hx hb dX4_askAnew_50 (lv_at hl 4 rfl) ?_
    refine lv_iload_n hx hb dX4_askAnew_52 rfl (lv_at hl 2 rfl) ?_
    obtain ⟨r_5, hc_53, hd⟩ := ob_s1 hd
    refine ob_Si (isC := []) (isR := [0, 1, 2, 3, 4, 5, 6, 7]) (is2 := [0, 1, 2, 3, 4, 5, 6, 7]) (wc := ([] : va_W)) (wr := (List.filterMap (fun i => (ob_w4 o_b a_b cI b ++ ob_w1 (a_b 2) a_y cI y)[i]?) [0, 1, 2, 3, 4, 5, 6, 7])) (w1 := ([] : va_W)) (w2 := (ob_w4 o_b a_b cI b ++ ob_w1 (a_b 2) a_y cI y)) (As := [.int z4, .int x2]) (rest := [.ref o_b]) ⟨hx, hb, hml, hown, hts⟩ (mt_X4_toldBody l dC dI cI cZ cR cW xs _ z4 x2 r_5 hc_53) (va_cwS 2 hts gX4_askAnew_X4_toldBody rfl rfl rfl (by decide +kernel) ⟨Nat.le_of_ble_eq_true rfl, Nat.le_of_ble_eq_true rfl⟩) hK hE hP hD hS hA ⟨rfl, rfl, rfl, rfl, rfl, rfl, rfl⟩ hl rfl rfl (Nat.le_of_ble_eq_true rfl) ⟨Nat.le_of_ble_eq_true rfl, Nat.le_of_ble_eq_true rfl⟩ dX4_askAnew_53 (fun H locs hP hD hS => ?_)
    refine W.widen (k := 0) (n := 0) (Nat.le_refl _) (Nat.le_refl _) ?_
    refine lv_iload_n hx hb dX4_askAnew_56 rfl (lv_at hl 1 rfl) ?_
    refine lv_iload_n hx hb dX4_askAnew_57 rfl (lv_at hl 3 rfl) ?_
    obtain ⟨r_6, b_7, hc_58, hd⟩ := ob_s2 hd
    refine ob_Vi (isC := [0, 1, 2, 3, 4, 5, 6, 7]) (isR := []) (is2 := [0, 1, 2, 3, 4, 5, 6, 7]) (wc := (ob_w4 o_b a_b cI b ++ ob_w1 (a_b 2) a_y cI y)) (wr := ([] : va_W)) (w1 := (ob_w4 o_b a_b cI b_7 ++ ob_w1 (a_b 2) a_y cI y)) (w2 := (ob_w4 o_b a_b cI b_7 ++ ob_w1 (a_b 2) a_y cI y)) (b := o_b) (As := [.int r_5, .int x1, .int x3]) (rest := []) ⟨hx, hb, hml, hown, hts⟩ (mt_X4_runBody1 l dC dI cI cZ cR cW xs _ o_b a_b a_y b y r_5 x1 x3 r_6 b_7 hc_58) (cwV 3 hts gX4_askAnew_X4_runBody rfl rfl rfl (by decide +kernel) ⟨Nat.le_of_ble_eq_true rfl, Nat.le_of_ble_eq_true rfl⟩) hK hE hP hD hS hA ⟨rfl, rfl, rfl, rfl, rfl, rfl, rfl⟩ 4 0 rfl rfl rfl hl rfl rfl (Nat.le_of_ble_eq_true rfl) ⟨Nat.le_of_ble_eq_true rfl, Nat.le_of_ble_eq_true rfl⟩ dX4_askAnew_58 (fun H locs hP hD hS => ?_)
    refine W.widen (k := 0) (n := 0) (Nat.le_refl _) (Nat.le_refl _) ?_
    obtain ⟨e1, e2⟩ := ob_pp hd
    subst e1
    subst e2
    exact ob_iret hx hb hr hlocks hP hD hS dX4_askAnew_61
  have L14 : ∀  (fu : Nat), ∀ (H : Heap) (locs : List Loc) (b : ob_B) (z4 : Int32) (z5 : Int32) (ls : Array Slot), va_P (dC, dI) vwCl (ob_w4 o_b a_b cI b ++ ob_w1 (a_b 2) a_y cI y) H → va_D A (ob_w4 o_b a_b cI b ++ ob_w1 (a_b 2) a_y cI y) → va_S A s.heap H locs → lv_has ls 6 [(0, .ref o_b), (1, .int x1), (2, .int x2), (3, .int x3), (4, .int z4), (5, .int z5)] → fd_X4_askAnew1_L14 fu b y x1 x2 x3 z4 z5 = some (rr, b') → W p l e ({ frames := 3, cells := 0, slots := 0, locals := 73 } : Room) s m (List.toArray [.ref o_b, .int x1, .int x2, .int x3]) below meth c H locs 0 0 (MQ below ((ob_Qi (dC, dI) rr (ob_w4 o_b a_b cI b' ++ ob_w1 (a_b 2) a_y cI y)) A) (List.toArray [.ref o_b, .int x1, .int x2, .int x3]) s 0 0 A) (F0 m 14 ls []) := by
    intro  fu
    induction fu with
    | zero =>
      intro H locs b z4 z5 ls hP hD hS hl hd
      rw [fd_X4_askAnew1_L14] at hd
      cases hd
    | succ fu ih =>
      intro H locs b z4 z5 ls hP hD hS hl hd
      rw [fd_X4_askAnew1_L14] at hd
      refine lv_iload hx hb dX4_askAnew_14 (lv_at hl 5 rfl) ?_
      refine lv_bipush (v := 6) hx hb dX4_askAnew_16 (by decide) ?_
      refine lv_icmp_ge (tgt := 49) hx hb dX4_askAnew_18 (by decide) (fun c_18 => ?_) (fun c_18 => ?_)
      · replace hd := ob_t c_18 hd
        exact L49   _ _ b z4 _ hP hD hS (lv_sub hl [0, 1, 2, 3, 4] rfl) hd
      · replace hd := ob_f c_18 hd
        refine lv_iload hx hb dX4_askAnew_21 (lv_at hl 4 rfl) ?_
        refine lv_if_le (tgt := 49) hx hb dX4_askAnew_23 (by decide) (fun c_23 => ?_) (fun c_23 => ?_)
        · replace hd := ob_t c_23 hd
          exact L49   _ _ b z4 _ hP hD hS (lv_sub hl [0, 1, 2, 3, 4] rfl) hd
        · replace hd := ob_f c_23 hd
          refine lv_iload hx hb dX4_askAnew_26 (lv_at hl 4 rfl) ?_
          refine lv_iload_n hx hb dX4_askAnew_28 rfl (lv_at hl 2 rfl) ?_
          obtain ⟨r_2, hc_29, hd⟩ := ob_s1 hd
          refine ob_Si (isC := []) (isR := [0, 1, 2, 3, 4, 5, 6, 7]) (is2 := [0, 1, 2, 3, 4, 5, 6, 7]) (wc := ([] : va_W)) (wr := (List.filterMap (fun i => (ob_w4 o_b a_b cI b ++ ob_w1 (a_b 2) a_y cI y)[i]?) [0, 1, 2, 3, 4, 5, 6, 7])) (w1 := ([] : va_W)) (w2 := (ob_w4 o_b a_b cI b ++ ob_w1 (a_b 2) a_y cI y)) (As := [.int z4, .int x2]) (rest := []) ⟨hx, hb, hml, hown, hts⟩ (mt_X4_toldBody l dC dI cI cZ cR cW xs _ z4 x2 r_2 hc_29) (va_cwS 2 hts gX4_askAnew_X4_toldBody rfl rfl rfl (by decide +kernel) ⟨Nat.le_of_ble_eq_true rfl, Nat.le_of_ble_eq_true rfl⟩) hK hE hP hD hS hA ⟨rfl, rfl, rfl, rfl, rfl, rfl, rfl⟩ hl rfl rfl (Nat.le_of_ble_eq_true rfl) ⟨Nat.le_of_ble_eq_true rfl, Nat.le_of_ble_eq_true rfl⟩ dX4_askAnew_29 (fun H locs hP hD hS => ?_)
          refine W.widen (k := 0) (n := 0) (Nat.le_refl _) (Nat.le_refl _) ?_
          refine lv_if_ne (tgt := 49) hx hb dX4_askAnew_32 (by decide) (fun c_32 => ?_) (fun c_32 => ?_)
          · replace hd := ob_f c_32 hd
            exact L49   _ _ b z4 _ hP hD hS (lv_sub hl [0, 1, 2, 3, 4] rfl) hd
          · replace hd := ob_t c_32 hd
            refine va_gets hx hb hE1 hS hown kw2 (fun _ h9 => h9) dX4_askAnew_35 ?_
            refine lv_iload hx hb dX4_askAnew_38 (lv_at hl 4 rfl) ?_
            obtain ⟨h1_40, hd⟩ := ob_nn hd
            refine va_ti hx hb hE2 hS h1_40 rfl dX4_askAnew_40 ?_
            refine lv_topi (fun x_3 ex_3 => ?_)
            replace hd := ob_lx ex_3 hd
            clear ex_3
            refine lv_istore (lv' := [(4, .int x_3), (0, .ref o_b), (1, .int x1), (2, .int x2), (3, .int x3), (5, .int z5)]) hx hb dX4_askAnew_41 hl (by decide) rfl (fun ls hl => ?_)
            obtain ⟨x_4, ex_4⟩ : ∃ z : Int32, z = z5 + 1 := ⟨_, rfl⟩
            replace hd := ob_lx ex_4 hd
            refine lv_iinc (v := x_4) (lv' := [(5, .int x_4), (4, .int x_3), (0, .ref o_b), (1, .int x1), (2, .int x2), (3, .int x3)]) hx hb dX4_askAnew_43 hl (k := 5) rfl (by rw [ex_4]; rfl) (by decide) rfl (fun ls hl => ?_)
            clear ex_4
            refine lv_goto (tgt := 14) hx hb dX4_askAnew_46 (by decide) ?_
            exact ih _ _ b x_3 x_4 _ hP hD hS (lv_sub hl [2, 3, 4, 5, 1, 0] rfl) hd
  refine lv_aload_n hx hb dX4_askAnew_0 rfl (lv_at hl 0 rfl) ?_
  refine va_get (D := (dC, dI)) (ci := 4) (v := .ref (a_b 2)) (C := RX4) (T := TX4) (N := 10) hx hb hts hi_X4 hown hK hP 0 rfl rfl 2 (by decide) kw0 (fun _ h9 => h9) rfl dX4_askAnew_1 ?_
  refine va_get (D := (dC, dI)) (ci := 1) (v := .ref (a_y 7)) (C := RX1) (T := TX1) (N := 12) hx hb hts hi_X1 hown hK hP 2 rfl rfl 7 (by decide) kw1 (fun _ h9 => h9) rfl dX4_askAnew_4 ?_
  refine lv_iload_n hx hb dX4_askAnew_7 rfl (lv_at hl 1 rfl) ?_
  obtain ⟨h1_8, hd⟩ := ob_nn hd
  refine va_iald hx hb hK hP 3 0 rfl rfl h1_8 dX4_askAnew_8 ?_
  refine lv_topi (fun x_1 ex_1 => ?_)
  replace hd := ob_lx ex_1 hd
  clear ex_1
  refine lv_istore (lv' := [(4, .int x_1), (0, .ref o_b), (1, .int x1), (2, .int x2), (3, .int x3)]) hx hb dX4_askAnew_9 hl (by decide) rfl (fun ls hl => ?_)
  refine lv_iconst (v := 0) hx hb dX4_askAnew_11 (by decide) ?_
  refine lv_istore (lv' := [(5, .int 0), (4, .int x_1), (0, .ref o_b), (1, .int x1), (2, .int x2), (3, .int x3)]) hx hb dX4_askAnew_12 hl (by decide) rfl (fun ls hl => ?_)
  exact L14  2000 _ _ b x_1 0 _ hP hD hS (lv_sub hl [2, 3, 4, 5, 1, 0] rfl) hd

def fd_X4_runBody2_L35  (b : ob_B) (y : ob_B) (x1 : Int32) (x2 : Int32) (x3 : Int32) : Option (Int32 × ob_B) := ob_lt (x3 + 1 : Int32) (fun x_4 => if x1 = 10 then (if x2 < 0 ∨ 7 ≤ Int32.toNatClampNeg x2 then none else (some ((y.2 9) (Int32.toNatClampNeg x2), b))) else (if x1 = 11 then (ob_b2 (fd_X4_runBody1 b y 10 x2 x_4) (fun r_5 b_6 => ob_b2 (fd_X4_askAnew1 b_6 y x2 1 x_4) (fun r_7 b_8 => some (r_5 + r_7, b_8)))) else (if x1 = 12 then (ob_b2 (fd_X4_runBody1 b y 11 x2 x_4) (fun r_9 b_10 => some (-r_9, b_10))) else (if x1 = 13 then (ob_b2 (fd_X4_runBody1 b y 10 x2 x_4) (fun r_11 b_12 => some (r_11 - 100, b_12))) else (if x1 = 14 then (ob_b2 (fd_X4_runBody1 b y 13 x2 x_4) (fun r_13 b_14 => some (2 * r_13, b_14))) else (if x1 = 15 then (some ((-1000001), b)) else (if x1 = 16 then (some ((-1000001), b)) else (if x1 = 17 then (some ((-1000001), b)) else (if x1 = 18 then (some ((-1000001), b)) else (if x1 = 19 then (some ((-1000001), b)) else (if x1 = 20 then (some (x2, b)) else (if x1 = 21 then (ob_b2 (fd_X4_runBody1 b y 20 x2 x_4) (fun r_15 b_16 => if x2 < 0 ∨ 7 ≤ Int32.toNatClampNeg x2 then none else (some (r_15 + ((y.2 8) (Int32.toNatClampNeg x2)), b_16)))) else (if x1 = 22 then (ob_b2 (fd_X4_runBody1 b y 21 x2 x_4) (fun r_17 b_18 => some (r_17 - 1000, b_18))) else (if x1 = 23 then (ob_b2 (fd_X4_runBody1 b y 20 x2 x_4) (fun r_19 b_20 => ob_b2 (fd_X4_askAnew1 b_20 y x2 0 x_4) (fun r_21 b_22 => some (r_19 - r_21, b_22)))) else (if x1 = 24 then (ob_b2 (fd_X4_runBody1 b y 21 x2 x_4) (fun r_23 b_24 => some (2 * r_23, b_24))) else (some ((-1000001), b)))))))))))))))))
def fd_X4_runBody2  (b : ob_B) (y : ob_B) (x1 : Int32) (x2 : Int32) (x3 : Int32) : Option (Int32 × ob_B) := if x3 ≤ 12 then (if 16 ≤ (b.1 7) then (fd_X4_runBody2_L35 b y x1 x2 x3) else (ob_lt ((b.1 7) + 1 : Int32) (fun x_1 => ob_lt (ob_I b 7 x_1 : ob_B) (fun b_2 => if (b.1 7) < 0 ∨ 16 ≤ Int32.toNatClampNeg (b.1 7) then none else (ob_lt (ob_A b_2 6 (upd (b_2.2 6) (Int32.toNatClampNeg (b.1 7)) x1) : ob_B) (fun b_3 => fd_X4_runBody2_L35 b_3 y x1 x2 x3)))))) else (some ((-1000001), b))
set_option maxHeartbeats 4000000 in
set_option maxRecDepth 100000 in
theorem mt_X4_runBody2 (l : Launch) (dC : Nat → ClassId) (dI : Nat → Nat → Nat) (cI cZ cR cW : ClassId) (xs : Nat → Nat) (sz : Nat) (o_b : Nat) (a_b : Nat → Nat) (a_y : Nat → Nat) (b : ob_B) (y : ob_B) (x1 : Int32) (x2 : Int32) (x3 : Int32)  (rr : Int32) (b' : ob_B) (hd : fd_X4_runBody2 b y x1 x2 x3 = some (rr, b')) : ob_M l yX4_runBody wsX4_runBody ({ frames := 4, cells := 0, slots := 0, locals := 98 } : Room) (dC, dI) (ob_ty cI cZ cR cW) xs [.ref o_b, .int x1, .int x2, .int x3] (ob_w4 o_b a_b cI b ++ ob_w1 (a_b 2) a_y cI y) sz (ob_Qi (dC, dI) rr (ob_w4 o_b a_b cI b' ++ ob_w1 (a_b 2) a_y cI y)) := by
  rw [fd_X4_runBody2] at hd
  refine ob_in (cc := cX4_runBody) (maxL := 5) (ret := (some .int)) (own := RX4) (by decide) rfl rfl [(0, .ref o_b), (1, .int x1), (2, .int x2), (3, .int x3)] rfl (Nat.le_of_ble_eq_true rfl) ?_
  intro p e s m below meth c hx hb hr hml hown hts hlocks hnm hK A hA hE hP hD hS ls hl
  have kw0 := hts (.fieldLink RX4 47 "OathCoach" "tracedCount" "I") (by decide +kernel)
  have kw1 := hts (.fieldLink RX4 43 "OathCoach" "traced" "[I") (by decide +kernel)
  have kw2 := hts (.constant RX4 62 (-1000001)) (by decide +kernel)
  have kw3 := hts (.fieldLink RX4 25 "OathCoach" "route" "LOathCoach$Route;") (by decide +kernel)
  have kw4 := hts (.fieldLink RX4 186 "OathCoach$Route" "weight" "[I") (by decide +kernel)
  have kw5 := hts (.fieldLink RX4 183 "OathCoach$Route" "place" "[I") (by decide +kernel)
  have hi_X1 : ∀ w ∈ u_ws RX1 TX1 12, w ∈ wsX4_runBody := by decide +kernel
  have hi_X4 : ∀ w ∈ u_ws RX4 TX4 10, w ∈ wsX4_runBody := by decide +kernel
  have L35 : ∀ (H : Heap) (locs : List Loc) (b : ob_B)  (ls : Array Slot), va_P (dC, dI) vwCl (ob_w4 o_b a_b cI b ++ ob_w1 (a_b 2) a_y cI y) H → va_D A (ob_w4 o_b a_b cI b ++ ob_w1 (a_b 2) a_y cI y) → va_S A s.heap H locs → lv_has ls 5 [(0, .ref o_b), (1, .int x1), (2, .int x2), (3, .int x3)] → fd_X4_runBody2_L35 b y x1 x2 x3 = some (rr, b') → W p l e ({ frames := 4, cells := 0, slots := 0, locals := 98 } : Room) s m (List.toArray [.ref o_b, .int x1, .int x2, .int x3]) below meth c H locs 0 0 (MQ below ((ob_Qi (dC, dI) rr (ob_w4 o_b a_b cI b' ++ ob_w1 (a_b 2) a_y cI y)) A) (List.toArray [.ref o_b, .int x1, .int x2, .int x3]) s 0 0 A) (F0 m 35 ls []) := by
    intro  H locs b ls hP hD hS hl hd
    rw [fd_X4_runBody2_L35] at hd
    refine lv_iload_n hx hb dX4_runBody_35 rfl (lv_at hl 3 rfl) ?_
    refine lv_iconst (v := 1) hx hb dX4_runBody_36 (by decide) ?_
    refine lv_iadd hx hb dX4_runBody_37 ?_
    refine lv_topi (fun x_4 ex_4 => ?_)
    replace hd := ob_lx ex_4 hd
    clear ex_4
    refine lv_istore (lv' := [(4, .int x_4), (0, .ref o_b), (1, .int x1), (2, .int x2), (3, .int x3)]) hx hb dX4_runBody_38 hl (by decide) rfl (fun ls hl => ?_)
    refine lv_iload_n hx hb dX4_runBody_40 rfl (lv_at hl 2 rfl) ?_
    by_cases c10_41 : x1 = 10
    · replace hd := ob_t c10_41 hd
      refine lv_tableIn (off := 75) (tgt := 116) hx hb dX4_runBody_41 (by rw [c10_41]; decide) (by rw [c10_41]; decide) (by rw [c10_41]; decide) (by decide) ?_
      refine lv_aload_n hx hb dX4_runBody_116 rfl (lv_at hl 1 rfl) ?_
      refine va_get (D := (dC, dI)) (ci := 4) (v := .ref (a_b 2)) (C := RX4) (T := TX4) (N := 10) hx hb hts hi_X4 hown hK hP 0 rfl rfl 2 (by decide) kw3 (fun _ h9 => h9) rfl dX4_runBody_117 ?_
      refine va_get (D := (dC, dI)) (ci := 1) (v := .ref (a_y 9)) (C := RX1) (T := TX1) (N := 12) hx hb hts hi_X1 hown hK hP 2 rfl rfl 9 (by decide) kw4 (fun _ h9 => h9) rfl dX4_runBody_120 ?_
      refine lv_iload_n hx hb dX4_runBody_123 rfl (lv_at hl 3 rfl) ?_
      obtain ⟨h1_124, hd⟩ := ob_nn hd
      refine va_iald hx hb hK hP 5 0 rfl rfl h1_124 dX4_runBody_124 ?_
      obtain ⟨e1, e2⟩ := ob_pp hd
      subst e1
      subst e2
      exact ob_iret hx hb hr hlocks hP hD hS dX4_runBody_125
    replace hd := ob_f c10_41 hd
    by_cases c11_41 : x1 = 11
    · replace hd := ob_t c11_41 hd
      refine lv_tableIn (off := 85) (tgt := 126) hx hb dX4_runBody_41 (by rw [c11_41]; decide) (by rw [c11_41]; decide) (by rw [c11_41]; decide) (by decide) ?_
      refine lv_aload_n hx hb dX4_runBody_126 rfl (lv_at hl 1 rfl) ?_
      refine lv_bipush (v := 10) hx hb dX4_runBody_127 (by decide) ?_
      refine lv_iload_n hx hb dX4_runBody_129 rfl (lv_at hl 3 rfl) ?_
      refine lv_iload hx hb dX4_runBody_130 (lv_at hl 0 rfl) ?_
      obtain ⟨r_5, b_6, hc_132, hd⟩ := ob_s2 hd
      refine ob_Vi (isC := [0, 1, 2, 3, 4, 5, 6, 7]) (isR := []) (is2 := [0, 1, 2, 3, 4, 5, 6, 7]) (wc := (ob_w4 o_b a_b cI b ++ ob_w1 (a_b 2) a_y cI y)) (wr := ([] : va_W)) (w1 := (ob_w4 o_b a_b cI b_6 ++ ob_w1 (a_b 2) a_y cI y)) (w2 := (ob_w4 o_b a_b cI b_6 ++ ob_w1 (a_b 2) a_y cI y)) (b := o_b) (As := [.int 10, .int x2, .int x_4]) (rest := []) ⟨hx, hb, hml, hown, hts⟩ (mt_X4_runBody1 l dC dI cI cZ cR cW xs _ o_b a_b a_y b y 10 x2 x_4 r_5 b_6 hc_132) (cwV 3 hts gX4_runBody_X4_runBody rfl rfl rfl (by decide +kernel) ⟨Nat.le_of_ble_eq_true rfl, Nat.le_of_ble_eq_true rfl⟩) hK hE hP hD hS hA ⟨rfl, rfl, rfl, rfl, rfl, rfl, rfl⟩ 4 0 rfl rfl rfl hl rfl rfl (Nat.le_of_ble_eq_true rfl) ⟨Nat.le_of_ble_eq_true rfl, Nat.le_of_ble_eq_true rfl⟩ dX4_runBody_132 (fun H locs hP hD hS => ?_)
      refine W.widen (k := 0) (n := 0) (Nat.le_refl _) (Nat.le_refl _) ?_
      refine lv_aload_n hx hb dX4_runBody_135 rfl (lv_at hl 1 rfl) ?_
      refine lv_iload_n hx hb dX4_runBody_136 rfl (lv_at hl 3 rfl) ?_
      refine lv_iconst (v := 1) hx hb dX4_runBody_137 (by decide) ?_
      refine lv_iload hx hb dX4_runBody_138 (lv_at hl 0 rfl) ?_
      obtain ⟨r_7, b_8, hc_140, hd⟩ := ob_s2 hd
      refine ob_Vi (isC := [0, 1, 2, 3, 4, 5, 6, 7]) (isR := []) (is2 := [0, 1, 2, 3, 4, 5, 6, 7]) (wc := (ob_w4 o_b a_b cI b_6 ++ ob_w1 (a_b 2) a_y cI y)) (wr := ([] : va_W)) (w1 := (ob_w4 o_b a_b cI b_8 ++ ob_w1 (a_b 2) a_y cI y)) (w2 := (ob_w4 o_b a_b cI b_8 ++ ob_w1 (a_b 2) a_y cI y)) (b := o_b) (As := [.int x2, .int 1, .int x_4]) (rest := [.int r_5]) ⟨hx, hb, hml, hown, hts⟩ (mt_X4_askAnew1 l dC dI cI cZ cR cW xs _ o_b a_b a_y b_6 y x2 1 x_4 r_7 b_8 hc_140) (cwV 3 hts gX4_runBody_X4_askAnew rfl rfl rfl (by decide +kernel) ⟨Nat.le_of_ble_eq_true rfl, Nat.le_of_ble_eq_true rfl⟩) hK hE hP hD hS hA ⟨rfl, rfl, rfl, rfl, rfl, rfl, rfl⟩ 4 0 rfl rfl rfl hl rfl rfl (Nat.le_of_ble_eq_true rfl) ⟨Nat.le_of_ble_eq_true rfl, Nat.le_of_ble_eq_true rfl⟩ dX4_runBody_140 (fun H locs hP hD hS => ?_)
      refine W.widen (k := 0) (n := 0) (Nat.le_refl _) (Nat.le_refl _) ?_
      refine lv_iadd hx hb dX4_runBody_143 ?_
      obtain ⟨e1, e2⟩ := ob_pp hd
      subst e1
      subst e2
      exact ob_iret hx hb hr hlocks hP hD hS dX4_runBody_144
    replace hd := ob_f c11_41 hd
    by_cases c12_41 : x1 = 12
    · replace hd := ob_t c12_41 hd
      refine lv_tableIn (off := 104) (tgt := 145) hx hb dX4_runBody_41 (by rw [c12_41]; decide) (by rw [c12_41]; decide) (by rw [c12_41]; decide) (by decide) ?_
      refine lv_aload_n hx hb dX4_runBody_145 rfl (lv_at hl 1 rfl) ?_
      refine lv_bipush (v := 11) hx hb dX4_runBody_146 (by decide) ?_
      refine lv_iload_n hx hb dX4_runBody_148 rfl (lv_at hl 3 rfl) ?_
      refine lv_iload hx hb dX4_runBody_149 (lv_at hl 0 rfl) ?_
      obtain ⟨r_9, b_10, hc_151, hd⟩ := ob_s2 hd
      refine ob_Vi (isC := [0, 1, 2, 3, 4, 5, 6, 7]) (isR := []) (is2 := [0, 1, 2, 3, 4, 5, 6, 7]) (wc := (ob_w4 o_b a_b cI b ++ ob_w1 (a_b 2) a_y cI y)) (wr := ([] : va_W)) (w1 := (ob_w4 o_b a_b cI b_10 ++ ob_w1 (a_b 2) a_y cI y)) (w2 := (ob_w4 o_b a_b cI b_10 ++ ob_w1 (a_b 2) a_y cI y)) (b := o_b) (As := [.int 11, .int x2, .int x_4]) (rest := []) ⟨hx, hb, hml, hown, hts⟩ (mt_X4_runBody1 l dC dI cI cZ cR cW xs _ o_b a_b a_y b y 11 x2 x_4 r_9 b_10 hc_151) (cwV 3 hts gX4_runBody_X4_runBody rfl rfl rfl (by decide +kernel) ⟨Nat.le_of_ble_eq_true rfl, Nat.le_of_ble_eq_true rfl⟩) hK hE hP hD hS hA ⟨rfl, rfl, rfl, rfl, rfl, rfl, rfl⟩ 4 0 rfl rfl rfl hl rfl rfl (Nat.le_of_ble_eq_true rfl) ⟨Nat.le_of_ble_eq_true rfl, Nat.le_of_ble_eq_true rfl⟩ dX4_runBody_151 (fun H locs hP hD hS => ?_)
      refine W.widen (k := 0) (n := 0) (Nat.le_refl _) (Nat.le_refl _) ?_
      refine lv_ineg hx hb dX4_runBody_154 ?_
      obtain ⟨e1, e2⟩ := ob_pp hd
      subst e1
      subst e2
      exact ob_iret hx hb hr hlocks hP hD hS dX4_runBody_155
    replace hd := ob_f c12_41 hd
    by_cases c13_41 : x1 = 13
    · replace hd := ob_t c13_41 hd
      refine lv_tableIn (off := 115) (tgt := 156) hx hb dX4_runBody_41 (by rw [c13_41]; decide) (by rw [c13_41]; decide) (by rw [c13_41]; decide) (by decide) ?_
      refine lv_aload_n hx hb dX4_runBody_156 rfl (lv_at hl 1 rfl) ?_
      refine lv_bipush (v := 10) hx hb dX4_runBody_157 (by decide) ?_
      refine lv_iload_n hx hb dX4_runBody_159 rfl (lv_at hl 3 rfl) ?_
      refine lv_iload hx hb dX4_runBody_160 (lv_at hl 0 rfl) ?_
      obtain ⟨r_11, b_12, hc_162, hd⟩ := ob_s2 hd
      refine ob_Vi (isC := [0, 1, 2, 3, 4, 5, 6, 7]) (isR := []) (is2 := [0, 1, 2, 3, 4, 5, 6, 7]) (wc := (ob_w4 o_b a_b cI b ++ ob_w1 (a_b 2) a_y cI y)) (wr := ([] : va_W)) (w1 := (ob_w4 o_b a_b cI b_12 ++ ob_w1 (a_b 2) a_y cI y)) (w2 := (ob_w4 o_b a_b cI b_12 ++ ob_w1 (a_b 2) a_y cI y)) (b := o_b) (As := [.int 10, .int x2, .int x_4]) (rest := []) ⟨hx, hb, hml, hown, hts⟩ (mt_X4_runBody1 l dC dI cI cZ cR cW xs _ o_b a_b a_y b y 10 x2 x_4 r_11 b_12 hc_162) (cwV 3 hts gX4_runBody_X4_runBody rfl rfl rfl (by decide +kernel) ⟨Nat.le_of_ble_eq_true rfl, Nat.le_of_ble_eq_true rfl⟩) hK hE hP hD hS hA ⟨rfl, rfl, rfl, rfl, rfl, rfl, rfl⟩ 4 0 rfl rfl rfl hl rfl rfl (Nat.le_of_ble_eq_true rfl) ⟨Nat.le_of_ble_eq_true rfl, Nat.le_of_ble_eq_true rfl⟩ dX4_runBody_162 (fun H locs hP hD hS => ?_)
      refine W.widen (k := 0) (n := 0) (Nat.le_refl _) (Nat.le_refl _) ?_
      refine lv_bipush (v := 100) hx hb dX4_runBody_165 (by decide) ?_
      refine lv_isub hx hb dX4_runBody_167 ?_
      obtain ⟨e1, e2⟩ := ob_pp hd
      subst e1
      subst e2
      exact ob_iret hx hb hr hlocks hP hD hS dX4_runBody_168
    replace hd := ob_f c13_41 hd
    by_cases c14_41 : x1 = 14
    · replace hd := ob_t c14_41 hd
      refine lv_tableIn (off := 128) (tgt := 169) hx hb dX4_runBody_41 (by rw [c14_41]; decide) (by rw [c14_41]; decide) (by rw [c14_41]; decide) (by decide) ?_
      refine lv_iconst (v := 2) hx hb dX4_runBody_169 (by decide) ?_
      refine lv_aload_n hx hb dX4_runBody_170 rfl (lv_at hl 1 rfl) ?_
      refine lv_bipush (v := 13) hx hb dX4_runBody_171 (by decide) ?_
      refine lv_iload_n hx hb dX4_runBody_173 rfl (lv_at hl 3 rfl) ?_
      refine lv_iload hx hb dX4_runBody_174 (lv_at hl 0 rfl) ?_
      obtain ⟨r_13, b_14, hc_176, hd⟩ := ob_s2 hd
      refine ob_Vi (isC := [0, 1, 2, 3, 4, 5, 6, 7]) (isR := []) (is2 := [0, 1, 2, 3, 4, 5, 6, 7]) (wc := (ob_w4 o_b a_b cI b ++ ob_w1 (a_b 2) a_y cI y)) (wr := ([] : va_W)) (w1 := (ob_w4 o_b a_b cI b_14 ++ ob_w1 (a_b 2) a_y cI y)) (w2 := (ob_w4 o_b a_b cI b_14 ++ ob_w1 (a_b 2) a_y cI y)) (b := o_b) (As := [.int 13, .int x2, .int x_4]) (rest := [.int 2]) ⟨hx, hb, hml, hown, hts⟩ (mt_X4_runBody1 l dC dI cI cZ cR cW xs _ o_b a_b a_y b y 13 x2 x_4 r_13 b_14 hc_176) (cwV 3 hts gX4_runBody_X4_runBody rfl rfl rfl (by decide +kernel) ⟨Nat.le_of_ble_eq_true rfl, Nat.le_of_ble_eq_true rfl⟩) hK hE hP hD hS hA ⟨rfl, rfl, rfl, rfl, rfl, rfl, rfl⟩ 4 0 rfl rfl rfl hl rfl rfl (Nat.le_of_ble_eq_true rfl) ⟨Nat.le_of_ble_eq_true rfl, Nat.le_of_ble_eq_true rfl⟩ dX4_runBody_176 (fun H locs hP hD hS => ?_)
      refine W.widen (k := 0) (n := 0) (Nat.le_refl _) (Nat.le_refl _) ?_
      refine lv_imul hx hb dX4_runBody_179 ?_
      obtain ⟨e1, e2⟩ := ob_pp hd
      subst e1
      subst e2
      exact ob_iret hx hb hr hlocks hP hD hS dX4_runBody_180
    replace hd := ob_f c14_41 hd
    by_cases c15_41 : x1 = 15
    · replace hd := ob_t c15_41 hd
      refine lv_tableIn (off := 207) (tgt := 248) hx hb dX4_runBody_41 (by rw [c15_41]; decide) (by rw [c15_41]; decide) (by rw [c15_41]; decide) (by decide) ?_
      refine lv_ldc hx hb hown kw2 dX4_runBody_248 ?_
      obtain ⟨e1, e2⟩ := ob_pp hd
      subst e1
      subst e2
      exact ob_iret hx hb hr hlocks hP hD hS dX4_runBody_250
    replace hd := ob_f c15_41 hd
    by_cases c16_41 : x1 = 16
    · replace hd := ob_t c16_41 hd
      refine lv_tableIn (off := 207) (tgt := 248) hx hb dX4_runBody_41 (by rw [c16_41]; decide) (by rw [c16_41]; decide) (by rw [c16_41]; decide) (by decide) ?_
      refine lv_ldc hx hb hown kw2 dX4_runBody_248 ?_
      obtain ⟨e1, e2⟩ := ob_pp hd
      subst e1
      subst e2
      exact ob_iret hx hb hr hlocks hP hD hS dX4_runBody_250
    replace hd := ob_f c16_41 hd
    by_cases c17_41 : x1 = 17
    · replace hd := ob_t c17_41 hd
      refine lv_tableIn (off := 207) (tgt := 248) hx hb dX4_runBody_41 (by rw [c17_41]; decide) (by rw [c17_41]; decide) (by rw [c17_41]; decide) (by decide) ?_
      refine lv_ldc hx hb hown kw2 dX4_runBody_248 ?_
      obtain ⟨e1, e2⟩ := ob_pp hd
      subst e1
      subst e2
      exact ob_iret hx hb hr hlocks hP hD hS dX4_runBody_250
    replace hd := ob_f c17_41 hd
    by_cases c18_41 : x1 = 18
    · replace hd := ob_t c18_41 hd
      refine lv_tableIn (off := 207) (tgt := 248) hx hb dX4_runBody_41 (by rw [c18_41]; decide) (by rw [c18_41]; decide) (by rw [c18_41]; decide) (by decide) ?_
      refine lv_ldc hx hb hown kw2 dX4_runBody_248 ?_
      obtain ⟨e1, e2⟩ := ob_pp hd
      subst e1
      subst e2
      exact ob_iret hx hb hr hlocks hP hD hS dX4_runBody_250
    replace hd := ob_f c18_41 hd
    by_cases c19_41 : x1 = 19
    · replace hd := ob_t c19_41 hd
      refine lv_tableIn (off := 207) (tgt := 248) hx hb dX4_runBody_41 (by rw [c19_41]; decide) (by rw [c19_41]; decide) (by rw [c19_41]; decide) (by decide) ?_
      refine lv_ldc hx hb hown kw2 dX4_runBody_248 ?_
      obtain ⟨e1, e2⟩ := ob_pp hd
      subst e1
      subst e2
      exact ob_iret hx hb hr hlocks hP hD hS dX4_runBody_250
    replace hd := ob_f c19_41 hd
    by_cases c20_41 : x1 = 20
    · replace hd := ob_t c20_41 hd
      refine lv_tableIn (off := 140) (tgt := 181) hx hb dX4_runBody_41 (by rw [c20_41]; decide) (by rw [c20_41]; decide) (by rw [c20_41]; decide) (by decide) ?_
      refine lv_iload_n hx hb dX4_runBody_181 rfl (lv_at hl 3 rfl) ?_
      obtain ⟨e1, e2⟩ := ob_pp hd
      subst e1
      subst e2
      exact ob_iret hx hb hr hlocks hP hD hS dX4_runBody_182
    replace hd := ob_f c20_41 hd
    by_cases c21_41 : x1 = 21
    · replace hd := ob_t c21_41 hd
      refine lv_tableIn (off := 142) (tgt := 183) hx hb dX4_runBody_41 (by rw [c21_41]; decide) (by rw [c21_41]; decide) (by rw [c21_41]; decide) (by decide) ?_
      refine lv_aload_n hx hb dX4_runBody_183 rfl (lv_at hl 1 rfl) ?_
      refine lv_bipush (v := 20) hx hb dX4_runBody_184 (by decide) ?_
      refine lv_iload_n hx hb dX4_runBody_186 rfl (lv_at hl 3 rfl) ?_
      refine lv_iload hx hb dX4_runBody_187 (lv_at hl 0 rfl) ?_
      obtain ⟨r_15, b_16, hc_189, hd⟩ := ob_s2 hd
      refine ob_Vi (isC := [0, 1, 2, 3, 4, 5, 6, 7]) (isR := []) (is2 := [0, 1, 2, 3, 4, 5, 6, 7]) (wc := (ob_w4 o_b a_b cI b ++ ob_w1 (a_b 2) a_y cI y)) (wr := ([] : va_W)) (w1 := (ob_w4 o_b a_b cI b_16 ++ ob_w1 (a_b 2) a_y cI y)) (w2 := (ob_w4 o_b a_b cI b_16 ++ ob_w1 (a_b 2) a_y cI y)) (b := o_b) (As := [.int 20, .int x2, .int x_4]) (rest := []) ⟨hx, hb, hml, hown, hts⟩ (mt_X4_runBody1 l dC dI cI cZ cR cW xs _ o_b a_b a_y b y 20 x2 x_4 r_15 b_16 hc_189) (cwV 3 hts gX4_runBody_X4_runBody rfl rfl rfl (by decide +kernel) ⟨Nat.le_of_ble_eq_true rfl, Nat.le_of_ble_eq_true rfl⟩) hK hE hP hD hS hA ⟨rfl, rfl, rfl, rfl, rfl, rfl, rfl⟩ 4 0 rfl rfl rfl hl rfl rfl (Nat.le_of_ble_eq_true rfl) ⟨Nat.le_of_ble_eq_true rfl, Nat.le_of_ble_eq_true rfl⟩ dX4_runBody_189 (fun H locs hP hD hS => ?_)
      refine W.widen (k := 0) (n := 0) (Nat.le_refl _) (Nat.le_refl _) ?_
      refine lv_aload_n hx hb dX4_runBody_192 rfl (lv_at hl 1 rfl) ?_
      refine va_get (D := (dC, dI)) (ci := 4) (v := .ref (a_b 2)) (C := RX4) (T := TX4) (N := 10) hx hb hts hi_X4 hown hK hP 0 rfl rfl 2 (by decide) kw3 (fun _ h9 => h9) rfl dX4_runBody_193 ?_
      refine va_get (D := (dC, dI)) (ci := 1) (v := .ref (a_y 8)) (C := RX1) (T := TX1) (N := 12) hx hb hts hi_X1 hown hK hP 2 rfl rfl 8 (by decide) kw5 (fun _ h9 => h9) rfl dX4_runBody_196 ?_
      refine lv_iload_n hx hb dX4_runBody_199 rfl (lv_at hl 3 rfl) ?_
      obtain ⟨h1_200, hd⟩ := ob_nn hd
      refine va_iald hx hb hK hP 4 0 rfl rfl h1_200 dX4_runBody_200 ?_
      refine lv_iadd hx hb dX4_runBody_201 ?_
      obtain ⟨e1, e2⟩ := ob_pp hd
      subst e1
      subst e2
      exact ob_iret hx hb hr hlocks hP hD hS dX4_runBody_202
    replace hd := ob_f c21_41 hd
    by_cases c22_41 : x1 = 22
    · replace hd := ob_t c22_41 hd
      refine lv_tableIn (off := 162) (tgt := 203) hx hb dX4_runBody_41 (by rw [c22_41]; decide) (by rw [c22_41]; decide) (by rw [c22_41]; decide) (by decide) ?_
      refine lv_aload_n hx hb dX4_runBody_203 rfl (lv_at hl 1 rfl) ?_
      refine lv_bipush (v := 21) hx hb dX4_runBody_204 (by decide) ?_
      refine lv_iload_n hx hb dX4_runBody_206 rfl (lv_at hl 3 rfl) ?_
      refine lv_iload hx hb dX4_runBody_207 (lv_at hl 0 rfl) ?_
      obtain ⟨r_17, b_18, hc_209, hd⟩ := ob_s2 hd
      refine ob_Vi (isC := [0, 1, 2, 3, 4, 5, 6, 7]) (isR := []) (is2 := [0, 1, 2, 3, 4, 5, 6, 7]) (wc := (ob_w4 o_b a_b cI b ++ ob_w1 (a_b 2) a_y cI y)) (wr := ([] : va_W)) (w1 := (ob_w4 o_b a_b cI b_18 ++ ob_w1 (a_b 2) a_y cI y)) (w2 := (ob_w4 o_b a_b cI b_18 ++ ob_w1 (a_b 2) a_y cI y)) (b := o_b) (As := [.int 21, .int x2, .int x_4]) (rest := []) ⟨hx, hb, hml, hown, hts⟩ (mt_X4_runBody1 l dC dI cI cZ cR cW xs _ o_b a_b a_y b y 21 x2 x_4 r_17 b_18 hc_209) (cwV 3 hts gX4_runBody_X4_runBody rfl rfl rfl (by decide +kernel) ⟨Nat.le_of_ble_eq_true rfl, Nat.le_of_ble_eq_true rfl⟩) hK hE hP hD hS hA ⟨rfl, rfl, rfl, rfl, rfl, rfl, rfl⟩ 4 0 rfl rfl rfl hl rfl rfl (Nat.le_of_ble_eq_true rfl) ⟨Nat.le_of_ble_eq_true rfl, Nat.le_of_ble_eq_true rfl⟩ dX4_runBody_209 (fun H locs hP hD hS => ?_)
      refine W.widen (k := 0) (n := 0) (Nat.le_refl _) (Nat.le_refl _) ?_
      refine lv_sipush (v := 1000) hx hb dX4_runBody_212 (by decide) ?_
      refine lv_isub hx hb dX4_runBody_215 ?_
      obtain ⟨e1, e2⟩ := ob_pp hd
      subst e1
      subst e2
      exact ob_iret hx hb hr hlocks hP hD hS dX4_runBody_216
    replace hd := ob_f c22_41 hd
    by_cases c23_41 : x1 = 23
    · replace hd := ob_t c23_41 hd
      refine lv_tableIn (off := 176) (tgt := 217) hx hb dX4_runBody_41 (by rw [c23_41]; decide) (by rw [c23_41]; decide) (by rw [c23_41]; decide) (by decide) ?_
      refine lv_aload_n hx hb dX4_runBody_217 rfl (lv_at hl 1 rfl) ?_
      refine lv_bipush (v := 20) hx hb dX4_runBody_218 (by decide) ?_
      refine lv_iload_n hx hb dX4_runBody_220 rfl (lv_at hl 3 rfl) ?_
      refine lv_iload hx hb dX4_runBody_221 (lv_at hl 0 rfl) ?_
      obtain ⟨r_19, b_20, hc_223, hd⟩ := ob_s2 hd
      refine ob_Vi (isC := [0, 1, 2, 3, 4, 5, 6, 7]) (isR := []) (is2 := [0, 1, 2, 3, 4, 5, 6, 7]) (wc := (ob_w4 o_b a_b cI b ++ ob_w1 (a_b 2) a_y cI y)) (wr := ([] : va_W)) (w1 := (ob_w4 o_b a_b cI b_20 ++ ob_w1 (a_b 2) a_y cI y)) (w2 := (ob_w4 o_b a_b cI b_20 ++ ob_w1 (a_b 2) a_y cI y)) (b := o_b) (As := [.int 20, .int x2, .int x_4]) (rest := []) ⟨hx, hb, hml, hown, hts⟩ (mt_X4_runBody1 l dC dI cI cZ cR cW xs _ o_b a_b a_y b y 20 x2 x_4 r_19 b_20 hc_223) (cwV 3 hts gX4_runBody_X4_runBody rfl rfl rfl (by decide +kernel) ⟨Nat.le_of_ble_eq_true rfl, Nat.le_of_ble_eq_true rfl⟩) hK hE hP hD hS hA ⟨rfl, rfl, rfl, rfl, rfl, rfl, rfl⟩ 4 0 rfl rfl rfl hl rfl rfl (Nat.le_of_ble_eq_true rfl) ⟨Nat.le_of_ble_eq_true rfl, Nat.le_of_ble_eq_true rfl⟩ dX4_runBody_223 (fun H locs hP hD hS => ?_)
      refine W.widen (k := 0) (n := 0) (Nat.le_refl _) (Nat.le_refl _) ?_
      refine lv_aload_n hx hb dX4_runBody_226 rfl (lv_at hl 1 rfl) ?_
      refine lv_iload_n hx hb dX4_runBody_227 rfl (lv_at hl 3 rfl) ?_
      refine lv_iconst (v := 0) hx hb dX4_runBody_228 (by decide) ?_
      refine lv_iload hx hb dX4_runBody_229 (lv_at hl 0 rfl) ?_
      obtain ⟨r_21, b_22, hc_231, hd⟩ := ob_s2 hd
      refine ob_Vi (isC := [0, 1, 2, 3, 4, 5, 6, 7]) (isR := []) (is2 := [0, 1, 2, 3, 4, 5, 6, 7]) (wc := (ob_w4 o_b a_b cI b_20 ++ ob_w1 (a_b 2) a_y cI y)) (wr := ([] : va_W)) (w1 := (ob_w4 o_b a_b cI b_22 ++ ob_w1 (a_b 2) a_y cI y)) (w2 := (ob_w4 o_b a_b cI b_22 ++ ob_w1 (a_b 2) a_y cI y)) (b := o_b) (As := [.int x2, .int 0, .int x_4]) (rest := [.int r_19]) ⟨hx, hb, hml, hown, hts⟩ (mt_X4_askAnew1 l dC dI cI cZ cR cW xs _ o_b a_b a_y b_20 y x2 0 x_4 r_21 b_22 hc_231) (cwV 3 hts gX4_runBody_X4_askAnew rfl rfl rfl (by decide +kernel) ⟨Nat.le_of_ble_eq_true rfl, Nat.le_of_ble_eq_true rfl⟩) hK hE hP hD hS hA ⟨rfl, rfl, rfl, rfl, rfl, rfl, rfl⟩ 4 0 rfl rfl rfl hl rfl rfl (Nat.le_of_ble_eq_true rfl) ⟨Nat.le_of_ble_eq_true rfl, Nat.le_of_ble_eq_true rfl⟩ dX4_runBody_231 (fun H locs hP hD hS => ?_)
      refine W.widen (k := 0) (n := 0) (Nat.le_refl _) (Nat.le_refl _) ?_
      refine lv_isub hx hb dX4_runBody_234 ?_
      obtain ⟨e1, e2⟩ := ob_pp hd
      subst e1
      subst e2
      exact ob_iret hx hb hr hlocks hP hD hS dX4_runBody_235
    replace hd := ob_f c23_41 hd
    by_cases c24_41 : x1 = 24
    · replace hd := ob_t c24_41 hd
      refine lv_tableIn (off := 195) (tgt := 236) hx hb dX4_runBody_41 (by rw [c24_41]; decide) (by rw [c24_41]; decide) (by rw [c24_41]; decide) (by decide) ?_
      refine lv_iconst (v := 2) hx hb dX4_runBody_236 (by decide) ?_
      refine lv_aload_n hx hb dX4_runBody_237 rfl (lv_at hl 1 rfl) ?_
      refine lv_bipush (v := 21) hx hb dX4_runBody_238 (by decide) ?_
      refine lv_iload_n hx hb dX4_runBody_240 rfl (lv_at hl 3 rfl) ?_
      refine lv_iload hx hb dX4_runBody_241 (lv_at hl 0 rfl) ?_
      obtain ⟨r_23, b_24, hc_243, hd⟩ := ob_s2 hd
      refine ob_Vi (isC := [0, 1, 2, 3, 4, 5, 6, 7]) (isR := []) (is2 := [0, 1, 2, 3, 4, 5, 6, 7]) (wc := (ob_w4 o_b a_b cI b ++ ob_w1 (a_b 2) a_y cI y)) (wr := ([] : va_W)) (w1 := (ob_w4 o_b a_b cI b_24 ++ ob_w1 (a_b 2) a_y cI y)) (w2 := (ob_w4 o_b a_b cI b_24 ++ ob_w1 (a_b 2) a_y cI y)) (b := o_b) (As := [.int 21, .int x2, .int x_4]) (rest := [.int 2]) ⟨hx, hb, hml, hown, hts⟩ (mt_X4_runBody1 l dC dI cI cZ cR cW xs _ o_b a_b a_y b y 21 x2 x_4 r_23 b_24 hc_243) (cwV 3 hts gX4_runBody_X4_runBody rfl rfl rfl (by decide +kernel) ⟨Nat.le_of_ble_eq_true rfl, Nat.le_of_ble_eq_true rfl⟩) hK hE hP hD hS hA ⟨rfl, rfl, rfl, rfl, rfl, rfl, rfl⟩ 4 0 rfl rfl rfl hl rfl rfl (Nat.le_of_ble_eq_true rfl) ⟨Nat.le_of_ble_eq_true rfl, Nat.le_of_ble_eq_true rfl⟩ dX4_runBody_243 (fun H locs hP hD hS => ?_)
      refine W.widen (k := 0) (n := 0) (Nat.le_refl _) (Nat.le_refl _) ?_
      refine lv_imul hx hb dX4_runBody_246 ?_
      obtain ⟨e1, e2⟩ := ob_pp hd
      subst e1
      subst e2
      exact ob_iret hx hb hr hlocks hP hD hS dX4_runBody_247
    replace hd := ob_f c24_41 hd
    refine lv_tableOut (tgt := 248) hx hb dX4_runBody_41 (by have n10 := lv_neT c10_41 (show (10 : Int32).toInt = 10 from rfl); have n11 := lv_neT c11_41 (show (11 : Int32).toInt = 11 from rfl); have n12 := lv_neT c12_41 (show (12 : Int32).toInt = 12 from rfl); have n13 := lv_neT c13_41 (show (13 : Int32).toInt = 13 from rfl); have n14 := lv_neT c14_41 (show (14 : Int32).toInt = 14 from rfl); have n15 := lv_neT c15_41 (show (15 : Int32).toInt = 15 from rfl); have n16 := lv_neT c16_41 (show (16 : Int32).toInt = 16 from rfl); have n17 := lv_neT c17_41 (show (17 : Int32).toInt = 17 from rfl); have n18 := lv_neT c18_41 (show (18 : Int32).toInt = 18 from rfl); have n19 := lv_neT c19_41 (show (19 : Int32).toInt = 19 from rfl); have n20 := lv_neT c20_41 (show (20 : Int32).toInt = 20 from rfl); have n21 := lv_neT c21_41 (show (21 : Int32).toInt = 21 from rfl); have n22 := lv_neT c22_41 (show (22 : Int32).toInt = 22 from rfl); have n23 := lv_neT c23_41 (show (23 : Int32).toInt = 23 from rfl); have n24 := lv_neT c24_41 (show (24 : Int32).toInt = 24 from rfl); omega) (by decide) ?_
    refine lv_ldc hx hb hown kw2 dX4_runBody_248 ?_
    obtain ⟨e1, e2⟩ := ob_pp hd
    subst e1
    subst e2
    exact ob_iret hx hb hr hlocks hP hD hS dX4_runBody_250
  refine lv_iload_n hx hb dX4_runBody_0 rfl (lv_at hl 3 rfl) ?_
  refine lv_bipush (v := 12) hx hb dX4_runBody_1 (by decide) ?_
  refine lv_icmp_le (tgt := 9) hx hb dX4_runBody_3 (by decide) (fun c_3 => ?_) (fun c_3 => ?_)
  · replace hd := ob_t c_3 hd
    refine lv_aload_n hx hb dX4_runBody_9 rfl (lv_at hl 0 rfl) ?_
    refine va_get (D := (dC, dI)) (ci := 4) (v := .int (b.1 7)) (C := RX4) (T := TX4) (N := 10) hx hb hts hi_X4 hown hK hP 0 rfl rfl 7 (by decide) kw0 (fun _ h9 => h9) rfl dX4_runBody_10 ?_
    refine lv_bipush (v := 16) hx hb dX4_runBody_13 (by decide) ?_
    refine lv_icmp_ge (tgt := 35) hx hb dX4_runBody_15 (by decide) (fun c_15 => ?_) (fun c_15 => ?_)
    · replace hd := ob_t c_15 hd
      exact L35   _ _ b _ hP hD hS (lv_sub hl [0, 1, 2, 3] rfl) hd
    · replace hd := ob_f c_15 hd
      refine lv_aload_n hx hb dX4_runBody_18 rfl (lv_at hl 0 rfl) ?_
      refine va_get (D := (dC, dI)) (ci := 4) (v := .ref (a_b 6)) (C := RX4) (T := TX4) (N := 10) hx hb hts hi_X4 hown hK hP 0 rfl rfl 6 (by decide) kw1 (fun _ h9 => h9) rfl dX4_runBody_19 ?_
      refine lv_aload_n hx hb dX4_runBody_22 rfl (lv_at hl 0 rfl) ?_
      refine lv_dup hx hb dX4_runBody_23 rfl ?_
      refine va_get (D := (dC, dI)) (ci := 4) (v := .int (b.1 7)) (C := RX4) (T := TX4) (N := 10) hx hb hts hi_X4 hown hK hP 0 rfl rfl 7 (by decide) kw0 (fun _ h9 => h9) rfl dX4_runBody_24 ?_
      refine lv_dup_x1 hx hb dX4_runBody_27 rfl rfl ?_
      refine lv_iconst (v := 1) hx hb dX4_runBody_28 (by decide) ?_
      refine lv_iadd hx hb dX4_runBody_29 ?_
      refine lv_topi (fun x_1 ex_1 => ?_)
      replace hd := ob_lx ex_1 hd
      clear ex_1
      refine va_put (D := (dC, dI)) (ci := 4) (v := .int x_1) (ty := .int) (C := RX4) (T := TX4) (N := 10) hx hb hts hi_X4 tyX4 tyX4_ok nmX4 hown hK hP hD hS 0 rfl rfl 7 (by decide) kw0 (fun _ h9 => h9) rfl (by decide +kernel) rfl rfl (Nat.le_of_ble_eq_true rfl) dX4_runBody_30 (fun H locs hP hD hS => ?_)
      obtain ⟨b_2, eb_2⟩ : ∃ z : ob_B, z = ob_I b 7 x_1 := ⟨_, rfl⟩
      replace hd := ob_lx eb_2 hd
      replace hP : va_P (dC, dI) vwCl (ob_w4 o_b a_b cI b_2 ++ ob_w1 (a_b 2) a_y cI y) H := by rw [eb_2]; exact hP
      replace hD : va_D A (ob_w4 o_b a_b cI b_2 ++ ob_w1 (a_b 2) a_y cI y) := by rw [eb_2]; exact hD
      clear eb_2
      refine lv_iload_n hx hb dX4_runBody_33 rfl (lv_at hl 1 rfl) ?_
      obtain ⟨h1_34, hd⟩ := ob_nn hd
      refine va_iast hx hb hK hP hD hS 1 0 rfl rfl h1_34 dX4_runBody_34 (fun H locs hP hD hS => ?_)
      obtain ⟨b_3, eb_3⟩ : ∃ z : ob_B, z = ob_A b_2 6 (upd (b_2.2 6) (Int32.toNatClampNeg (b.1 7)) x1) := ⟨_, rfl⟩
      replace hd := ob_lx eb_3 hd
      replace hP : va_P (dC, dI) vwCl (ob_w4 o_b a_b cI b_3 ++ ob_w1 (a_b 2) a_y cI y) H := by rw [eb_3]; exact hP
      replace hD : va_D A (ob_w4 o_b a_b cI b_3 ++ ob_w1 (a_b 2) a_y cI y) := by rw [eb_3]; exact hD
      clear eb_3
      exact L35   _ _ b_3 _ hP hD hS (lv_sub hl [0, 1, 2, 3] rfl) hd
  · replace hd := ob_f c_3 hd
    refine lv_ldc hx hb hown kw2 dX4_runBody_6 ?_
    obtain ⟨e1, e2⟩ := ob_pp hd
    subst e1
    subst e2
    exact ob_iret hx hb hr hlocks hP hD hS dX4_runBody_8

def fd_X4_askAnew2_L49  (b : ob_B) (y : ob_B) (x1 : Int32) (x2 : Int32) (x3 : Int32) (z4 : Int32) : Option (Int32 × ob_B) := ob_b1 (fd_X4_toldBody z4 x2) (fun r_5 => ob_b2 (fd_X4_runBody2 b y r_5 x1 x3) (fun r_6 b_7 => some (r_6, b_7)))
def fd_X4_askAnew2_L14  : Nat → ob_B → ob_B → Int32 → Int32 → Int32 → Int32 → Int32 → Option (Int32 × ob_B)
  | 0, _, _, _, _, _, _, _ => none
  | fu + 1, b, y, x1, x2, x3, z4, z5 => if 6 ≤ z5 then (fd_X4_askAnew2_L49 b y x1 x2 x3 z4) else (if z4 ≤ 0 then (fd_X4_askAnew2_L49 b y x1 x2 x3 z4) else (ob_b1 (fd_X4_toldBody z4 x2) (fun r_2 => if r_2 = 0 then (if z4 < 0 ∨ 6 ≤ Int32.toNatClampNeg z4 then none else (ob_lt (([0, 0, 1, 1, 0, 4] : List Int32).getD (Int32.toNatClampNeg z4) 0 : Int32) (fun x_3 => ob_lt (z5 + 1 : Int32) (fun x_4 => fd_X4_askAnew2_L14 fu b y x1 x2 x3 x_3 x_4)))) else (fd_X4_askAnew2_L49 b y x1 x2 x3 z4))))
def fd_X4_askAnew2  (b : ob_B) (y : ob_B) (x1 : Int32) (x2 : Int32) (x3 : Int32) : Option (Int32 × ob_B) := if x1 < 0 ∨ 7 ≤ Int32.toNatClampNeg x1 then none else (ob_lt ((y.2 7) (Int32.toNatClampNeg x1) : Int32) (fun x_1 => fd_X4_askAnew2_L14 2000 b y x1 x2 x3 x_1 0))
set_option maxHeartbeats 4000000 in
set_option maxRecDepth 100000 in
theorem mt_X4_askAnew2 (l : Launch) (dC : Nat → ClassId) (dI : Nat → Nat → Nat) (cI cZ cR cW : ClassId) (xs : Nat → Nat) (sz : Nat) (o_b : Nat) (a_b : Nat → Nat) (a_y : Nat → Nat) (b : ob_B) (y : ob_B) (x1 : Int32) (x2 : Int32) (x3 : Int32)  (rr : Int32) (b' : ob_B) (hd : fd_X4_askAnew2 b y x1 x2 x3 = some (rr, b')) : ob_M l yX4_askAnew wsX4_askAnew ({ frames := 5, cells := 0, slots := 0, locals := 122 } : Room) (dC, dI) (ob_ty cI cZ cR cW) xs [.ref o_b, .int x1, .int x2, .int x3] (ob_w4 o_b a_b cI b ++ ob_w1 (a_b 2) a_y cI y) sz (ob_Qi (dC, dI) rr (ob_w4 o_b a_b cI b' ++ ob_w1 (a_b 2) a_y cI y)) := by
  rw [fd_X4_askAnew2] at hd
  refine ob_in (cc := cX4_askAnew) (maxL := 6) (ret := (some .int)) (own := RX4) (by decide) rfl rfl [(0, .ref o_b), (1, .int x1), (2, .int x2), (3, .int x3)] rfl (Nat.le_of_ble_eq_true rfl) ?_
  intro p e s m below meth c hx hb hr hml hown hts hlocks hnm hK A hA hE hP hD hS ls hl
  have kw0 := hts (.fieldLink RX4 25 "OathCoach" "route" "LOathCoach$Route;") (by decide +kernel)
  have kw1 := hts (.fieldLink RX4 213 "OathCoach$Route" "kind" "[I") (by decide +kernel)
  have kw2 := hts (.fieldLink RX4 245 "OathCoach" "KIND_ABOVE" "[I") (by decide +kernel)
  have hi_X1 : ∀ w ∈ u_ws RX1 TX1 12, w ∈ wsX4_askAnew := by decide +kernel
  have hi_X4 : ∀ w ∈ u_ws RX4 TX4 10, w ∈ wsX4_askAnew := by decide +kernel
  obtain ⟨hE1, hE2, hE3, hE4, hE5, hE6, hE7, hE8, hE9, -⟩ := id hE
  have hET : va_T .byte (xs 4) 5 (fun j => .int (([111, 109, 108, 102, 118] : List Int32).getD j 0)) A s s.heap := (hE8.1 0 (by decide)).2.2.2
  have L49 : ∀ (H : Heap) (locs : List Loc) (b : ob_B) (z4 : Int32) (ls : Array Slot), va_P (dC, dI) vwCl (ob_w4 o_b a_b cI b ++ ob_w1 (a_b 2) a_y cI y) H → va_D A (ob_w4 o_b a_b cI b ++ ob_w1 (a_b 2) a_y cI y) → va_S A s.heap H locs → lv_has ls 6 [(0, .ref o_b), (1, .int x1), (2, .int x2), (3, .int x3), (4, .int z4)] → fd_X4_askAnew2_L49 b y x1 x2 x3 z4 = some (rr, b') → W p l e ({ frames := 5, cells := 0, slots := 0, locals := 122 } : Room) s m (List.toArray [.ref o_b, .int x1, .int x2, .int x3]) below meth c H locs 0 0 (MQ below ((ob_Qi (dC, dI) rr (ob_w4 o_b a_b cI b' ++ ob_w1 (a_b 2) a_y cI y)) A) (List.toArray [.ref o_b, .int x1, .int x2, .int x3]) s 0 0 A) (F0 m 49 ls []) := by
    intro  H locs b z4 ls hP hD hS hl hd
    rw [fd_X4_askAnew2_L49] at hd
    refine lv_aload_n hx hb dX4_askAnew_49 rfl (lv_at hl 0 rfl) ?_
    refine lv_iload hx hb dX4_askAnew_50 (lv_at hl 4 rfl) ?_
    refine lv_iload_n hx hb dX4_askAnew_52 rfl (lv_at hl 2 rfl) ?_
    obtain ⟨r_5, hc_53, hd⟩ := ob_s1 hd
    refine ob_Si (isC := []) (isR := [0, 1, 2, 3, 4, 5, 6, 7]) (is2 := [0, 1, 2, 3, 4, 5, 6, 7]) (wc := ([] : va_W)) (wr := (List.filterMap (fun i => (ob_w4 o_b a_b cI b ++ ob_w1 (a_b 2) a_y cI y)[i]?) [0, 1, 2, 3, 4, 5, 6, 7])) (w1 := ([] : va_W)) (w2 := (ob_w4 o_b a_b cI b ++ ob_w1 (a_b 2) a_y cI y)) (As := [.int z4, .int x2]) (rest := [.ref o_b]) ⟨hx, hb, hml, hown, hts⟩ (mt_X4_toldBody l dC dI cI cZ cR cW xs _ z4 x2 r_5 hc_53) (va_cwS 2 hts gX4_askAnew_X4_toldBody rfl rfl rfl (by decide +kernel) ⟨Nat.le_of_ble_eq_true rfl, Nat.le_of_ble_eq_true rfl⟩) hK hE hP hD hS hA ⟨rfl, rfl, rfl, rfl, rfl, rfl, rfl⟩ hl rfl rfl (Nat.le_of_ble_eq_true rfl) ⟨Nat.le_of_ble_eq_true rfl, Nat.le_of_ble_eq_true rfl⟩ dX4_askAnew_53 (fun H locs hP hD hS => ?_)
    refine W.widen (k := 0) (n := 0) (Nat.le_refl _) (Nat.le_refl _) ?_
    refine lv_iload_n hx hb dX4_askAnew_56 rfl (lv_at hl 1 rfl) ?_
    refine lv_iload_n hx hb dX4_askAnew_57 rfl (lv_at hl 3 rfl) ?_
    obtain ⟨r_6, b_7, hc_58, hd⟩ := ob_s2 hd
    refine ob_Vi (isC := [0, 1, 2, 3, 4, 5, 6, 7]) (isR := []) (is2 := [0, 1, 2, 3, 4, 5, 6, 7]) (wc := (ob_w4 o_b a_b cI b ++ ob_w1 (a_b 2) a_y cI y)) (wr := ([] : va_W)) (w1 := (ob_w4 o_b a_b cI b_7 ++ ob_w1 (a_b 2) a_y cI y)) (w2 := (ob_w4 o_b a_b cI b_7 ++ ob_w1 (a_b 2) a_y cI y)) (b := o_b) (As := [.int r_5, .int x1, .int x3]) (rest := []) ⟨hx, hb, hml, hown, hts⟩ (mt_X4_runBody2 l dC dI cI cZ cR cW xs _ o_b a_b a_y b y r_5 x1 x3 r_6 b_7 hc_58) (cwV 3 hts gX4_askAnew_X4_runBody rfl rfl rfl (by decide +kernel) ⟨Nat.le_of_ble_eq_true rfl, Nat.le_of_ble_eq_true rfl⟩) hK hE hP hD hS hA ⟨rfl, rfl, rfl, rfl, rfl, rfl, rfl⟩ 4 0 rfl rfl rfl hl rfl rfl (Nat.le_of_ble_eq_true rfl) ⟨Nat.le_of_ble_eq_true rfl, Nat.le_of_ble_eq_true rfl⟩ dX4_askAnew_58 (fun H locs hP hD hS => ?_)
    refine W.widen (k := 0) (n := 0) (Nat.le_refl _) (Nat.le_refl _) ?_
    obtain ⟨e1, e2⟩ := ob_pp hd
    subst e1
    subst e2
    exact ob_iret hx hb hr hlocks hP hD hS dX4_askAnew_61
  have L14 : ∀  (fu : Nat), ∀ (H : Heap) (locs : List Loc) (b : ob_B) (z4 : Int32) (z5 : Int32) (ls : Array Slot), va_P (dC, dI) vwCl (ob_w4 o_b a_b cI b ++ ob_w1 (a_b 2) a_y cI y) H → va_D A (ob_w4 o_b a_b cI b ++ ob_w1 (a_b 2) a_y cI y) → va_S A s.heap H locs → lv_has ls 6 [(0, .ref o_b), (1, .int x1), (2, .int x2), (3, .int x3), (4, .int z4), (5, .int z5)] → fd_X4_askAnew2_L14 fu b y x1 x2 x3 z4 z5 = some (rr, b') → W p l e ({ frames := 5, cells := 0, slots := 0, locals := 122 } : Room) s m (List.toArray [.ref o_b, .int x1, .int x2, .int x3]) below meth c H locs 0 0 (MQ below ((ob_Qi (dC, dI) rr (ob_w4 o_b a_b cI b' ++ ob_w1 (a_b 2) a_y cI y)) A) (List.toArray [.ref o_b, .int x1, .int x2, .int x3]) s 0 0 A) (F0 m 14 ls []) := by
    intro  fu
    induction fu with
    | zero =>
      intro H locs b z4 z5 ls hP hD hS hl hd
      rw [fd_X4_askAnew2_L14] at hd
      cases hd
    | succ fu ih =>
      intro H locs b z4 z5 ls hP hD hS hl hd
      rw [fd_X4_askAnew2_L14] at hd
      refine lv_iload hx hb dX4_askAnew_14 (lv_at hl 5 rfl) ?_
      refine lv_bipush (v := 6) hx hb dX4_askAnew_16 (by decide) ?_
      refine lv_icmp_ge (tgt := 49) hx hb dX4_askAnew_18 (by decide) (fun c_18 => ?_) (fun c_18 => ?_)
      · replace hd := ob_t c_18 hd
        exact L49   _ _ b z4 _ hP hD hS (lv_sub hl [0, 1, 2, 3, 4] rfl) hd
      · replace hd := ob_f c_18 hd
        refine lv_iload hx hb dX4_askAnew_21 (lv_at hl 4 rfl) ?_
        refine lv_if_le (tgt := 49) hx hb dX4_askAnew_23 (by decide) (fun c_23 => ?_) (fun c_23 => ?_)
        · replace hd := ob_t c_23 hd
          exact L49   _ _ b z4 _ hP hD hS (lv_sub hl [0, 1, 2, 3, 4] rfl) hd
        · replace hd := ob_f c_23 hd
          refine lv_iload hx hb dX4_askAnew_26 (lv_at hl 4 rfl) ?_
          refine lv_iload_n hx hb dX4_askAnew_28 rfl (lv_at hl 2 rfl) ?_
          obtain ⟨r_2, hc_29, hd⟩ := ob_s1 hd
          refine ob_Si (isC := []) (isR := [0, 1, 2, 3, 4, 5, 6, 7]) (is2 := [0, 1, 2, 3, 4, 5, 6, 7]) (wc := ([] : va_W)) (wr := (List.filterMap (fun i => (ob_w4 o_b a_b cI b ++ ob_w1 (a_b 2) a_y cI y)[i]?) [0, 1, 2, 3, 4, 5, 6, 7])) (w1 := ([] : va_W)) (w2 := (ob_w4 o_b a_b cI b ++ ob_w1 (a_b 2) a_y cI y)) (As := [.int z4, .int x2]) (rest := []) ⟨hx, hb, hml, hown, hts⟩ (mt_X4_toldBody l dC dI cI cZ cR cW xs _ z4 x2 r_2 hc_29) (va_cwS 2 hts gX4_askAnew_X4_toldBody rfl rfl rfl (by decide +kernel) ⟨Nat.le_of_ble_eq_true rfl, Nat.le_of_ble_eq_true rfl⟩) hK hE hP hD hS hA ⟨rfl, rfl, rfl, rfl, rfl, rfl, rfl⟩ hl rfl rfl (Nat.le_of_ble_eq_true rfl) ⟨Nat.le_of_ble_eq_true rfl, Nat.le_of_ble_eq_true rfl⟩ dX4_askAnew_29 (fun H locs hP hD hS => ?_)
          refine W.widen (k := 0) (n := 0) (Nat.le_refl _) (Nat.le_refl _) ?_
          refine lv_if_ne (tgt := 49) hx hb dX4_askAnew_32 (by decide) (fun c_32 => ?_) (fun c_32 => ?_)
          · replace hd := ob_f c_32 hd
            exact L49   _ _ b z4 _ hP hD hS (lv_sub hl [0, 1, 2, 3, 4] rfl) hd
          · replace hd := ob_t c_32 hd
            refine va_gets hx hb hE1 hS hown kw2 (fun _ h9 => h9) dX4_askAnew_35 ?_
            refine lv_iload hx hb dX4_askAnew_38 (lv_at hl 4 rfl) ?_
            obtain ⟨h1_40, hd⟩ := ob_nn hd
            refine va_ti hx hb hE2 hS h1_40 rfl dX4_askAnew_40 ?_
            refine lv_topi (fun x_3 ex_3 => ?_)
            replace hd := ob_lx ex_3 hd
            clear ex_3
            refine lv_istore (lv' := [(4, .int x_3), (0, .ref o_b), (1, .int x1), (2, .int x2), (3, .int x3), (5, .int z5)]) hx hb dX4_askAnew_41 hl (by decide) rfl (fun ls hl => ?_)
            obtain ⟨x_4, ex_4⟩ : ∃ z : Int32, z = z5 + 1 := ⟨_, rfl⟩
            replace hd := ob_lx ex_4 hd
            refine lv_iinc (v := x_4) (lv' := [(5, .int x_4), (4, .int x_3), (0, .ref o_b), (1, .int x1), (2, .int x2), (3, .int x3)]) hx hb dX4_askAnew_43 hl (k := 5) rfl (by rw [ex_4]; rfl) (by decide) rfl (fun ls hl => ?_)
            clear ex_4
            refine lv_goto (tgt := 14) hx hb dX4_askAnew_46 (by decide) ?_
            exact ih _ _ b x_3 x_4 _ hP hD hS (lv_sub hl [2, 3, 4, 5, 1, 0] rfl) hd
  refine lv_aload_n hx hb dX4_askAnew_0 rfl (lv_at hl 0 rfl) ?_
  refine va_get (D := (dC, dI)) (ci := 4) (v := .ref (a_b 2)) (C := RX4) (T := TX4) (N := 10) hx hb hts hi_X4 hown hK hP 0 rfl rfl 2 (by decide) kw0 (fun _ h9 => h9) rfl dX4_askAnew_1 ?_
  refine va_get (D := (dC, dI)) (ci := 1) (v := .ref (a_y 7)) (C := RX1) (T := TX1) (N := 12) hx hb hts hi_X1 hown hK hP 2 rfl rfl 7 (by decide) kw1 (fun _ h9 => h9) rfl dX4_askAnew_4 ?_
  refine lv_iload_n hx hb dX4_askAnew_7 rfl (lv_at hl 1 rfl) ?_
  obtain ⟨h1_8, hd⟩ := ob_nn hd
  refine va_iald hx hb hK hP 3 0 rfl rfl h1_8 dX4_askAnew_8 ?_
  refine lv_topi (fun x_1 ex_1 => ?_)
  replace hd := ob_lx ex_1 hd
  clear ex_1
  refine lv_istore (lv' := [(4, .int x_1), (0, .ref o_b), (1, .int x1), (2, .int x2), (3, .int x3)]) hx hb dX4_askAnew_9 hl (by decide) rfl (fun ls hl => ?_)
  refine lv_iconst (v := 0) hx hb dX4_askAnew_11 (by decide) ?_
  refine lv_istore (lv' := [(5, .int 0), (4, .int x_1), (0, .ref o_b), (1, .int x1), (2, .int x2), (3, .int x3)]) hx hb dX4_askAnew_12 hl (by decide) rfl (fun ls hl => ?_)
  exact L14  2000 _ _ b x_1 0 _ hP hD hS (lv_sub hl [2, 3, 4, 5, 1, 0] rfl) hd

def fd_X4_runBody3_L35  (b : ob_B) (y : ob_B) (x1 : Int32) (x2 : Int32) (x3 : Int32) : Option (Int32 × ob_B) := ob_lt (x3 + 1 : Int32) (fun x_4 => if x1 = 10 then (if x2 < 0 ∨ 7 ≤ Int32.toNatClampNeg x2 then none else (some ((y.2 9) (Int32.toNatClampNeg x2), b))) else (if x1 = 11 then (ob_b2 (fd_X4_runBody2 b y 10 x2 x_4) (fun r_5 b_6 => ob_b2 (fd_X4_askAnew2 b_6 y x2 1 x_4) (fun r_7 b_8 => some (r_5 + r_7, b_8)))) else (if x1 = 12 then (ob_b2 (fd_X4_runBody2 b y 11 x2 x_4) (fun r_9 b_10 => some (-r_9, b_10))) else (if x1 = 13 then (ob_b2 (fd_X4_runBody2 b y 10 x2 x_4) (fun r_11 b_12 => some (r_11 - 100, b_12))) else (if x1 = 14 then (ob_b2 (fd_X4_runBody2 b y 13 x2 x_4) (fun r_13 b_14 => some (2 * r_13, b_14))) else (if x1 = 15 then (some ((-1000001), b)) else (if x1 = 16 then (some ((-1000001), b)) else (if x1 = 17 then (some ((-1000001), b)) else (if x1 = 18 then (some ((-1000001), b)) else (if x1 = 19 then (some ((-1000001), b)) else (if x1 = 20 then (some (x2, b)) else (if x1 = 21 then (ob_b2 (fd_X4_runBody2 b y 20 x2 x_4) (fun r_15 b_16 => if x2 < 0 ∨ 7 ≤ Int32.toNatClampNeg x2 then none else (some (r_15 + ((y.2 8) (Int32.toNatClampNeg x2)), b_16)))) else (if x1 = 22 then (ob_b2 (fd_X4_runBody2 b y 21 x2 x_4) (fun r_17 b_18 => some (r_17 - 1000, b_18))) else (if x1 = 23 then (ob_b2 (fd_X4_runBody2 b y 20 x2 x_4) (fun r_19 b_20 => ob_b2 (fd_X4_askAnew2 b_20 y x2 0 x_4) (fun r_21 b_22 => some (r_19 - r_21, b_22)))) else (if x1 = 24 then (ob_b2 (fd_X4_runBody2 b y 21 x2 x_4) (fun r_23 b_24 => some (2 * r_23, b_24))) else (some ((-1000001), b)))))))))))))))))
def fd_X4_runBody3  (b : ob_B) (y : ob_B) (x1 : Int32) (x2 : Int32) (x3 : Int32) : Option (Int32 × ob_B) := if x3 ≤ 12 then (if 16 ≤ (b.1 7) then (fd_X4_runBody3_L35 b y x1 x2 x3) else (ob_lt ((b.1 7) + 1 : Int32) (fun x_1 => ob_lt (ob_I b 7 x_1 : ob_B) (fun b_2 => if (b.1 7) < 0 ∨ 16 ≤ Int32.toNatClampNeg (b.1 7) then none else (ob_lt (ob_A b_2 6 (upd (b_2.2 6) (Int32.toNatClampNeg (b.1 7)) x1) : ob_B) (fun b_3 => fd_X4_runBody3_L35 b_3 y x1 x2 x3)))))) else (some ((-1000001), b))
set_option maxHeartbeats 4000000 in
set_option maxRecDepth 100000 in
theorem mt_X4_runBody3 (l : Launch) (dC : Nat → ClassId) (dI : Nat → Nat → Nat) (cI cZ cR cW : ClassId) (xs : Nat → Nat) (sz : Nat) (o_b : Nat) (a_b : Nat → Nat) (a_y : Nat → Nat) (b : ob_B) (y : ob_B) (x1 : Int32) (x2 : Int32) (x3 : Int32)  (rr : Int32) (b' : ob_B) (hd : fd_X4_runBody3 b y x1 x2 x3 = some (rr, b')) : ob_M l yX4_runBody wsX4_runBody ({ frames := 6, cells := 0, slots := 0, locals := 147 } : Room) (dC, dI) (ob_ty cI cZ cR cW) xs [.ref o_b, .int x1, .int x2, .int x3] (ob_w4 o_b a_b cI b ++ ob_w1 (a_b 2) a_y cI y) sz (ob_Qi (dC, dI) rr (ob_w4 o_b a_b cI b' ++ ob_w1 (a_b 2) a_y cI y)) := by
  rw [fd_X4_runBody3] at hd
  refine ob_in (cc := cX4_runBody) (maxL := 5) (ret := (some .int)) (own := RX4) (by decide) rfl rfl [(0, .ref o_b), (1, .int x1), (2, .int x2), (3, .int x3)] rfl (Nat.le_of_ble_eq_true rfl) ?_
  intro p e s m below meth c hx hb hr hml hown hts hlocks hnm hK A hA hE hP hD hS ls hl
  have kw0 := hts (.fieldLink RX4 47 "OathCoach" "tracedCount" "I") (by decide +kernel)
  have kw1 := hts (.fieldLink RX4 43 "OathCoach" "traced" "[I") (by decide +kernel)
  have kw2 := hts (.constant RX4 62 (-1000001)) (by decide +kernel)
  have kw3 := hts (.fieldLink RX4 25 "OathCoach" "route" "LOathCoach$Route;") (by decide +kernel)
  have kw4 := hts (.fieldLink RX4 186 "OathCoach$Route" "weight" "[I") (by decide +kernel)
  have kw5 := hts (.fieldLink RX4 183 "OathCoach$Route" "place" "[I") (by decide +kernel)
  have hi_X1 : ∀ w ∈ u_ws RX1 TX1 12, w ∈ wsX4_runBody := by decide +kernel
  have hi_X4 : ∀ w ∈ u_ws RX4 TX4 10, w ∈ wsX4_runBody := by decide +kernel
  have L35 : ∀ (H : Heap) (locs : List Loc) (b : ob_B)  (ls : Array Slot), va_P (dC, dI) vwCl (ob_w4 o_b a_b cI b ++ ob_w1 (a_b 2) a_y cI y) H → va_D A (ob_w4 o_b a_b cI b ++ ob_w1 (a_b 2) a_y cI y) → va_S A s.heap H locs → lv_has ls 5 [(0, .ref o_b), (1, .int x1), (2, .int x2), (3, .int x3)] → fd_X4_runBody3_L35 b y x1 x2 x3 = some (rr, b') → W p l e ({ frames := 6, cells := 0, slots := 0, locals := 147 } : Room) s m (List.toArray [.ref o_b, .int x1, .int x2, .int x3]) below meth c H locs 0 0 (MQ below ((ob_Qi (dC, dI) rr (ob_w4 o_b a_b cI b' ++ ob_w1 (a_b 2) a_y cI y)) A) (List.toArray [.ref o_b, .int x1, .int x2, .int x3]) s 0 0 A) (F0 m 35 ls []) := by
    intro  H locs b ls hP hD hS hl hd
    rw [fd_X4_runBody3_L35] at hd
    refine lv_iload_n hx hb dX4_runBody_35 rfl (lv_at hl 3 rfl) ?_
    refine lv_iconst (v := 1) hx hb dX4_runBody_36 (by decide) ?_
    refine lv_iadd hx hb dX4_runBody_37 ?_
    refine lv_topi (fun x_4 ex_4 => ?_)
    replace hd := ob_lx ex_4 hd
    clear ex_4
    refine lv_istore (lv' := [(4, .int x_4), (0, .ref o_b), (1, .int x1), (2, .int x2), (3, .int x3)]) hx hb dX4_runBody_38 hl (by decide) rfl (fun ls hl => ?_)
    refine lv_iload_n hx hb dX4_runBody_40 rfl (lv_at hl 2 rfl) ?_
    by_cases c10_41 : x1 = 10
    · replace hd := ob_t c10_41 hd
      refine lv_tableIn (off := 75) (tgt := 116) hx hb dX4_runBody_41 (by rw [c10_41]; decide) (by rw [c10_41]; decide) (by rw [c10_41]; decide) (by decide) ?_
      refine lv_aload_n hx hb dX4_runBody_116 rfl (lv_at hl 1 rfl) ?_
      refine va_get (D := (dC, dI)) (ci := 4) (v := .ref (a_b 2)) (C := RX4) (T := TX4) (N := 10) hx hb hts hi_X4 hown hK hP 0 rfl rfl 2 (by decide) kw3 (fun _ h9 => h9) rfl dX4_runBody_117 ?_
      refine va_get (D := (dC, dI)) (ci := 1) (v := .ref (a_y 9)) (C := RX1) (T := TX1) (N := 12) hx hb hts hi_X1 hown hK hP 2 rfl rfl 9 (by decide) kw4 (fun _ h9 => h9) rfl dX4_runBody_120 ?_
      refine lv_iload_n hx hb dX4_runBody_123 rfl (lv_at hl 3 rfl) ?_
      obtain ⟨h1_124, hd⟩ := ob_nn hd
      refine va_iald hx hb hK hP 5 0 rfl rfl h1_124 dX4_runBody_124 ?_
      obtain ⟨e1, e2⟩ := ob_pp hd
      subst e1
      subst e2
      exact ob_iret hx hb hr hlocks hP hD hS dX4_runBody_125
    replace hd := ob_f c10_41 hd
    by_cases c11_41 : x1 = 11
    · replace hd := ob_t c11_41 hd
      refine lv_tableIn (off := 85) (tgt := 126) hx hb dX4_runBody_41 (by rw [c11_41]; decide) (by rw [c11_41]; decide) (by rw [c11_41]; decide) (by decide) ?_
      refine lv_aload_n hx hb dX4_runBody_126 rfl (lv_at hl 1 rfl) ?_
      refine lv_bipush (v := 10) hx hb dX4_runBody_127 (by decide) ?_
      refine lv_iload_n hx hb dX4_runBody_129 rfl (lv_at hl 3 rfl) ?_
      refine lv_iload hx hb dX4_runBody_130 (lv_at hl 0 rfl) ?_
      obtain ⟨r_5, b_6, hc_132, hd⟩ := ob_s2 hd
      refine ob_Vi (isC := [0, 1, 2, 3, 4, 5, 6, 7]) (isR := []) (is2 := [0, 1, 2, 3, 4, 5, 6, 7]) (wc := (ob_w4 o_b a_b cI b ++ ob_w1 (a_b 2) a_y cI y)) (wr := ([] : va_W)) (w1 := (ob_w4 o_b a_b cI b_6 ++ ob_w1 (a_b 2) a_y cI y)) (w2 := (ob_w4 o_b a_b cI b_6 ++ ob_w1 (a_b 2) a_y cI y)) (b := o_b) (As := [.int 10, .int x2, .int x_4]) (rest := []) ⟨hx, hb, hml, hown, hts⟩ (mt_X4_runBody2 l dC dI cI cZ cR cW xs _ o_b a_b a_y b y 10 x2 x_4 r_5 b_6 hc_132) (cwV 3 hts gX4_runBody_X4_runBody rfl rfl rfl (by decide +kernel) ⟨Nat.le_of_ble_eq_true rfl, Nat.le_of_ble_eq_true rfl⟩) hK hE hP hD hS hA ⟨rfl, rfl, rfl, rfl, rfl, rfl, rfl⟩ 4 0 rfl rfl rfl hl rfl rfl (Nat.le_of_ble_eq_true rfl) ⟨Nat.le_of_ble_eq_true rfl, Nat.le_of_ble_eq_true rfl⟩ dX4_runBody_132 (fun H locs hP hD hS => ?_)
      refine W.widen (k := 0) (n := 0) (Nat.le_refl _) (Nat.le_refl _) ?_
      refine lv_aload_n hx hb dX4_runBody_135 rfl (lv_at hl 1 rfl) ?_
      refine lv_iload_n hx hb dX4_runBody_136 rfl (lv_at hl 3 rfl) ?_
      refine lv_iconst (v := 1) hx hb dX4_runBody_137 (by decide) ?_
      refine lv_iload hx hb dX4_runBody_138 (lv_at hl 0 rfl) ?_
      obtain ⟨r_7, b_8, hc_140, hd⟩ := ob_s2 hd
      refine ob_Vi (isC := [0, 1, 2, 3, 4, 5, 6, 7]) (isR := []) (is2 := [0, 1, 2, 3, 4, 5, 6, 7]) (wc := (ob_w4 o_b a_b cI b_6 ++ ob_w1 (a_b 2) a_y cI y)) (wr := ([] : va_W)) (w1 := (ob_w4 o_b a_b cI b_8 ++ ob_w1 (a_b 2) a_y cI y)) (w2 := (ob_w4 o_b a_b cI b_8 ++ ob_w1 (a_b 2) a_y cI y)) (b := o_b) (As := [.int x2, .int 1, .int x_4]) (rest := [.int r_5]) ⟨hx, hb, hml, hown, hts⟩ (mt_X4_askAnew2 l dC dI cI cZ cR cW xs _ o_b a_b a_y b_6 y x2 1 x_4 r_7 b_8 hc_140) (cwV 3 hts gX4_runBody_X4_askAnew rfl rfl rfl (by decide +kernel) ⟨Nat.le_of_ble_eq_true rfl, Nat.le_of_ble_eq_true rfl⟩) hK hE hP hD hS hA ⟨rfl, rfl, rfl, rfl, rfl, rfl, rfl⟩ 4 0 rfl rfl rfl hl rfl rfl (Nat.le_of_ble_eq_true rfl) ⟨Nat.le_of_ble_eq_true rfl, Nat.le_of_ble_eq_true rfl⟩ dX4_runBody_140 (fun H locs hP hD hS => ?_)
      refine W.widen (k := 0) (n := 0) (Nat.le_refl _) (Nat.le_refl _) ?_
      refine lv_iadd hx hb dX4_runBody_143 ?_
      obtain ⟨e1, e2⟩ := ob_pp hd
      subst e1
      subst e2
      exact ob_iret hx hb hr hlocks hP hD hS dX4_runBody_144
    replace hd := ob_f c11_41 hd
    by_cases c12_41 : x1 = 12
    · replace hd := ob_t c12_41 hd
      refine lv_tableIn (off := 104) (tgt := 145) hx hb dX4_runBody_41 (by rw [c12_41]; decide) (by rw [c12_41]; decide) (by rw [c12_41]; decide) (by decide) ?_
      refine lv_aload_n hx hb dX4_runBody_145 rfl (lv_at hl 1 rfl) ?_
      refine lv_bipush (v := 11) hx hb dX4_runBody_146 (by decide) ?_
      refine lv_iload_n hx hb dX4_runBody_148 rfl (lv_at hl 3 rfl) ?_
      refine lv_iload hx hb dX4_runBody_149 (lv_at hl 0 rfl) ?_
      obtain ⟨r_9, b_10, hc_151, hd⟩ := ob_s2 hd
      refine ob_Vi (isC := [0, 1, 2, 3, 4, 5, 6, 7]) (isR := []) (is2 := [0, 1, 2, 3, 4, 5, 6, 7]) (wc := (ob_w4 o_b a_b cI b ++ ob_w1 (a_b 2) a_y cI y)) (wr := ([] : va_W)) (w1 := (ob_w4 o_b a_b cI b_10 ++ ob_w1 (a_b 2) a_y cI y)) (w2 := (ob_w4 o_b a_b cI b_10 ++ ob_w1 (a_b 2) a_y cI y)) (b := o_b) (As := [.int 11, .int x2, .int x_4]) (rest := []) ⟨hx, hb, hml, hown, hts⟩ (mt_X4_runBody2 l dC dI cI cZ cR cW xs _ o_b a_b a_y b y 11 x2 x_4 r_9 b_10 hc_151) (cwV 3 hts gX4_runBody_X4_runBody rfl rfl rfl (by decide +kernel) ⟨Nat.le_of_ble_eq_true rfl, Nat.le_of_ble_eq_true rfl⟩) hK hE hP hD hS hA ⟨rfl, rfl, rfl, rfl, rfl, rfl, rfl⟩ 4 0 rfl rfl rfl hl rfl rfl (Nat.le_of_ble_eq_true rfl) ⟨Nat.le_of_ble_eq_true rfl, Nat.le_of_ble_eq_true rfl⟩ dX4_runBody_151 (fun H locs hP hD hS => ?_)
      refine W.widen (k := 0) (n := 0) (Nat.le_refl _) (Nat.le_refl _) ?_
      refine lv_ineg hx hb dX4_runBody_154 ?_
      obtain ⟨e1, e2⟩ := ob_pp hd
      subst e1
      subst e2
      exact ob_iret hx hb hr hlocks hP hD hS dX4_runBody_155
    replace hd := ob_f c12_41 hd
    by_cases c13_41 : x1 = 13
    · replace hd := ob_t c13_41 hd
      refine lv_tableIn (off := 115) (tgt := 156) hx hb dX4_runBody_41 (by rw [c13_41]; decide) (by rw [c13_41]; decide) (by rw [c13_41]; decide) (by decide) ?_
      refine lv_aload_n hx hb dX4_runBody_156 rfl (lv_at hl 1 rfl) ?_
      refine lv_bipush (v := 10) hx hb dX4_runBody_157 (by decide) ?_
      refine lv_iload_n hx hb dX4_runBody_159 rfl (lv_at hl 3 rfl) ?_
      refine lv_iload hx hb dX4_runBody_160 (lv_at hl 0 rfl) ?_
      obtain ⟨r_11, b_12, hc_162, hd⟩ := ob_s2 hd
      refine ob_Vi (isC := [0, 1, 2, 3, 4, 5, 6, 7]) (isR := []) (is2 := [0, 1, 2, 3, 4, 5, 6, 7]) (wc := (ob_w4 o_b a_b cI b ++ ob_w1 (a_b 2) a_y cI y)) (wr := ([] : va_W)) (w1 := (ob_w4 o_b a_b cI b_12 ++ ob_w1 (a_b 2) a_y cI y)) (w2 := (ob_w4 o_b a_b cI b_12 ++ ob_w1 (a_b 2) a_y cI y)) (b := o_b) (As := [.int 10, .int x2, .int x_4]) (rest := []) ⟨hx, hb, hml, hown, hts⟩ (mt_X4_runBody2 l dC dI cI cZ cR cW xs _ o_b a_b a_y b y 10 x2 x_4 r_11 b_12 hc_162) (cwV 3 hts gX4_runBody_X4_runBody rfl rfl rfl (by decide +kernel) ⟨Nat.le_of_ble_eq_true rfl, Nat.le_of_ble_eq_true rfl⟩) hK hE hP hD hS hA ⟨rfl, rfl, rfl, rfl, rfl, rfl, rfl⟩ 4 0 rfl rfl rfl hl rfl rfl (Nat.le_of_ble_eq_true rfl) ⟨Nat.le_of_ble_eq_true rfl, Nat.le_of_ble_eq_true rfl⟩ dX4_runBody_162 (fun H locs hP hD hS => ?_)
      refine W.widen (k := 0) (n := 0) (Nat.le_refl _) (Nat.le_refl _) ?_
      refine lv_bipush (v := 100) hx hb dX4_runBody_165 (by decide) ?_
      refine lv_isub hx hb dX4_runBody_167 ?_
      obtain ⟨e1, e2⟩ := ob_pp hd
      subst e1
      subst e2
      exact ob_iret hx hb hr hlocks hP hD hS dX4_runBody_168
    replace hd := ob_f c13_41 hd
    by_cases c14_41 : x1 = 14
    · replace hd := ob_t c14_41 hd
      refine lv_tableIn (off := 128) (tgt := 169) hx hb dX4_runBody_41 (by rw [c14_41]; decide) (by rw [c14_41]; decide) (by rw [c14_41]; decide) (by decide) ?_
      refine lv_iconst (v := 2) hx hb dX4_runBody_169 (by decide) ?_
      refine lv_aload_n hx hb dX4_runBody_170 rfl (lv_at hl 1 rfl) ?_
      refine lv_bipush (v := 13) hx hb dX4_runBody_171 (by decide) ?_
      refine lv_iload_n hx hb dX4_runBody_173 rfl (lv_at hl 3 rfl) ?_
      refine lv_iload hx hb dX4_runBody_174 (lv_at hl 0 rfl) ?_
      obtain ⟨r_13, b_14, hc_176, hd⟩ := ob_s2 hd
      refine ob_Vi (isC := [0, 1, 2, 3, 4, 5, 6, 7]) (isR := []) (is2 := [0, 1, 2, 3, 4, 5, 6, 7]) (wc := (ob_w4 o_b a_b cI b ++ ob_w1 (a_b 2) a_y cI y)) (wr := ([] : va_W)) (w1 := (ob_w4 o_b a_b cI b_14 ++ ob_w1 (a_b 2) a_y cI y)) (w2 := (ob_w4 o_b a_b cI b_14 ++ ob_w1 (a_b 2) a_y cI y)) (b := o_b) (As := [.int 13, .int x2, .int x_4]) (rest := [.int 2]) ⟨hx, hb, hml, hown, hts⟩ (mt_X4_runBody2 l dC dI cI cZ cR cW xs _ o_b a_b a_y b y 13 x2 x_4 r_13 b_14 hc_176) (cwV 3 hts gX4_runBody_X4_runBody rfl rfl rfl (by decide +kernel) ⟨Nat.le_of_ble_eq_true rfl, Nat.le_of_ble_eq_true rfl⟩) hK hE hP hD hS hA ⟨rfl, rfl, rfl, rfl, rfl, rfl, rfl⟩ 4 0 rfl rfl rfl hl rfl rfl (Nat.le_of_ble_eq_true rfl) ⟨Nat.le_of_ble_eq_true rfl, Nat.le_of_ble_eq_true rfl⟩ dX4_runBody_176 (fun H locs hP hD hS => ?_)
      refine W.widen (k := 0) (n := 0) (Nat.le_refl _) (Nat.le_refl _) ?_
      refine lv_imul hx hb dX4_runBody_179 ?_
      obtain ⟨e1, e2⟩ := ob_pp hd
      subst e1
      subst e2
      exact ob_iret hx hb hr hlocks hP hD hS dX4_runBody_180
    replace hd := ob_f c14_41 hd
    by_cases c15_41 : x1 = 15
    · replace hd := ob_t c15_41 hd
      refine lv_tableIn (off := 207) (tgt := 248) hx hb dX4_runBody_41 (by rw [c15_41]; decide) (by rw [c15_41]; decide) (by rw [c15_41]; decide) (by decide) ?_
      refine lv_ldc hx hb hown kw2 dX4_runBody_248 ?_
      obtain ⟨e1, e2⟩ := ob_pp hd
      subst e1
      subst e2
      exact ob_iret hx hb hr hlocks hP hD hS dX4_runBody_250
    replace hd := ob_f c15_41 hd
    by_cases c16_41 : x1 = 16
    · replace hd := ob_t c16_41 hd
      refine lv_tableIn (off := 207) (tgt := 248) hx hb dX4_runBody_41 (by rw [c16_41]; decide) (by rw [c16_41]; decide) (by rw [c16_41]; decide) (by decide) ?_
      refine lv_ldc hx hb hown kw2 dX4_runBody_248 ?_
      obtain ⟨e1, e2⟩ := ob_pp hd
      subst e1
      subst e2
      exact ob_iret hx hb hr hlocks hP hD hS dX4_runBody_250
    replace hd := ob_f c16_41 hd
    by_cases c17_41 : x1 = 17
    · replace hd := ob_t c17_41 hd
      refine lv_tableIn (off := 207) (tgt := 248) hx hb dX4_runBody_41 (by rw [c17_41]; decide) (by rw [c17_41]; decide) (by rw [c17_41]; decide) (by decide) ?_
      refine lv_ldc hx hb hown kw2 dX4_runBody_248 ?_
      obtain ⟨e1, e2⟩ := ob_pp hd
      subst e1
      subst e2
      exact ob_iret hx hb hr hlocks hP hD hS dX4_runBody_250
    replace hd := ob_f c17_41 hd
    by_cases c18_41 : x1 = 18
    · replace hd := ob_t c18_41 hd
      refine lv_tableIn (off := 207) (tgt := 248) hx hb dX4_runBody_41 (by rw [c18_41]; decide) (by rw [c18_41]; decide) (by rw [c18_41]; decide) (by decide) ?_
      refine lv_ldc hx hb hown kw2 dX4_runBody_248 ?_
      obtain ⟨e1, e2⟩ := ob_pp hd
      subst e1
      subst e2
      exact ob_iret hx hb hr hlocks hP hD hS dX4_runBody_250
    replace hd := ob_f c18_41 hd
    by_cases c19_41 : x1 = 19
    · replace hd := ob_t c19_41 hd
      refine lv_tableIn (off := 207) (tgt := 248) hx hb dX4_runBody_41 (by rw [c19_41]; decide) (by rw [c19_41]; decide) (by rw [c19_41]; decide) (by decide) ?_
      refine lv_ldc hx hb hown kw2 dX4_runBody_248 ?_
      obtain ⟨e1, e2⟩ := ob_pp hd
      subst e1
      subst e2
      exact ob_iret hx hb hr hlocks hP hD hS dX4_runBody_250
    replace hd := ob_f c19_41 hd
    by_cases c20_41 : x1 = 20
    · replace hd := ob_t c20_41 hd
      refine lv_tableIn (off := 140) (tgt := 181) hx hb dX4_runBody_41 (by rw [c20_41]; decide) (by rw [c20_41]; decide) (by rw [c20_41]; decide) (by decide) ?_
      refine lv_iload_n hx hb dX4_runBody_181 rfl (lv_at hl 3 rfl) ?_
      obtain ⟨e1, e2⟩ := ob_pp hd
      subst e1
      subst e2
      exact ob_iret hx hb hr hlocks hP hD hS dX4_runBody_182
    replace hd := ob_f c20_41 hd
    by_cases c21_41 : x1 = 21
    · replace hd := ob_t c21_41 hd
      refine lv_tableIn (off := 142) (tgt := 183) hx hb dX4_runBody_41 (by rw [c21_41]; decide) (by rw [c21_41]; decide) (by rw [c21_41]; decide) (by decide) ?_
      refine lv_aload_n hx hb dX4_runBody_183 rfl (lv_at hl 1 rfl) ?_
      refine lv_bipush (v := 20) hx hb dX4_runBody_184 (by decide) ?_
      refine lv_iload_n hx hb dX4_runBody_186 rfl (lv_at hl 3 rfl) ?_
      refine lv_iload hx hb dX4_runBody_187 (lv_at hl 0 rfl) ?_
      obtain ⟨r_15, b_16, hc_189, hd⟩ := ob_s2 hd
      refine ob_Vi (isC := [0, 1, 2, 3, 4, 5, 6, 7]) (isR := []) (is2 := [0, 1, 2, 3, 4, 5, 6, 7]) (wc := (ob_w4 o_b a_b cI b ++ ob_w1 (a_b 2) a_y cI y)) (wr := ([] : va_W)) (w1 := (ob_w4 o_b a_b cI b_16 ++ ob_w1 (a_b 2) a_y cI y)) (w2 := (ob_w4 o_b a_b cI b_16 ++ ob_w1 (a_b 2) a_y cI y)) (b := o_b) (As := [.int 20, .int x2, .int x_4]) (rest := []) ⟨hx, hb, hml, hown, hts⟩ (mt_X4_runBody2 l dC dI cI cZ cR cW xs _ o_b a_b a_y b y 20 x2 x_4 r_15 b_16 hc_189) (cwV 3 hts gX4_runBody_X4_runBody rfl rfl rfl (by decide +kernel) ⟨Nat.le_of_ble_eq_true rfl, Nat.le_of_ble_eq_true rfl⟩) hK hE hP hD hS hA ⟨rfl, rfl, rfl, rfl, rfl, rfl, rfl⟩ 4 0 rfl rfl rfl hl rfl rfl (Nat.le_of_ble_eq_true rfl) ⟨Nat.le_of_ble_eq_true rfl, Nat.le_of_ble_eq_true rfl⟩ dX4_runBody_189 (fun H locs hP hD hS => ?_)
      refine W.widen (k := 0) (n := 0) (Nat.le_refl _) (Nat.le_refl _) ?_
      refine lv_aload_n hx hb dX4_runBody_192 rfl (lv_at hl 1 rfl) ?_
      refine va_get (D := (dC, dI)) (ci := 4) (v := .ref (a_b 2)) (C := RX4) (T := TX4) (N := 10) hx hb hts hi_X4 hown hK hP 0 rfl rfl 2 (by decide) kw3 (fun _ h9 => h9) rfl dX4_runBody_193 ?_
      refine va_get (D := (dC, dI)) (ci := 1) (v := .ref (a_y 8)) (C := RX1) (T := TX1) (N := 12) hx hb hts hi_X1 hown hK hP 2 rfl rfl 8 (by decide) kw5 (fun _ h9 => h9) rfl dX4_runBody_196 ?_
      refine lv_iload_n hx hb dX4_runBody_199 rfl (lv_at hl 3 rfl) ?_
      obtain ⟨h1_200, hd⟩ := ob_nn hd
      refine va_iald hx hb hK hP 4 0 rfl rfl h1_200 dX4_runBody_200 ?_
      refine lv_iadd hx hb dX4_runBody_201 ?_
      obtain ⟨e1, e2⟩ := ob_pp hd
      subst e1
      subst e2
      exact ob_iret hx hb hr hlocks hP hD hS dX4_runBody_202
    replace hd := ob_f c21_41 hd
    by_cases c22_41 : x1 = 22
    · replace hd := ob_t c22_41 hd
      refine lv_tableIn (off := 162) (tgt := 203) hx hb dX4_runBody_41 (by rw [c22_41]; decide) (by rw [c22_41]; decide) (by rw [c22_41]; decide) (by decide) ?_
      refine lv_aload_n hx hb dX4_runBody_203 rfl (lv_at hl 1 rfl) ?_
      refine lv_bipush (v := 21) hx hb dX4_runBody_204 (by decide) ?_
      refine lv_iload_n hx hb dX4_runBody_206 rfl (lv_at hl 3 rfl) ?_
      refine lv_iload hx hb dX4_runBody_207 (lv_at hl 0 rfl) ?_
      obtain ⟨r_17, b_18, hc_209, hd⟩ := ob_s2 hd
      refine ob_Vi (isC := [0, 1, 2, 3, 4, 5, 6, 7]) (isR := []) (is2 := [0, 1, 2, 3, 4, 5, 6, 7]) (wc := (ob_w4 o_b a_b cI b ++ ob_w1 (a_b 2) a_y cI y)) (wr := ([] : va_W)) (w1 := (ob_w4 o_b a_b cI b_18 ++ ob_w1 (a_b 2) a_y cI y)) (w2 := (ob_w4 o_b a_b cI b_18 ++ ob_w1 (a_b 2) a_y cI y)) (b := o_b) (As := [.int 21, .int x2, .int x_4]) (rest := []) ⟨hx, hb, hml, hown, hts⟩ (mt_X4_runBody2 l dC dI cI cZ cR cW xs _ o_b a_b a_y b y 21 x2 x_4 r_17 b_18 hc_209) (cwV 3 hts gX4_runBody_X4_runBody rfl rfl rfl (by decide +kernel) ⟨Nat.le_of_ble_eq_true rfl, Nat.le_of_ble_eq_true rfl⟩) hK hE hP hD hS hA ⟨rfl, rfl, rfl, rfl, rfl, rfl, rfl⟩ 4 0 rfl rfl rfl hl rfl rfl (Nat.le_of_ble_eq_true rfl) ⟨Nat.le_of_ble_eq_true rfl, Nat.le_of_ble_eq_true rfl⟩ dX4_runBody_209 (fun H locs hP hD hS => ?_)
      refine W.widen (k := 0) (n := 0) (Nat.le_refl _) (Nat.le_refl _) ?_
      refine lv_sipush (v := 1000) hx hb dX4_runBody_212 (by decide) ?_
      refine lv_isub hx hb dX4_runBody_215 ?_
      obtain ⟨e1, e2⟩ := ob_pp hd
      subst e1
      subst e2
      exact ob_iret hx hb hr hlocks hP hD hS dX4_runBody_216
    replace hd := ob_f c22_41 hd
    by_cases c23_41 : x1 = 23
    · replace hd := ob_t c23_41 hd
      refine lv_tableIn (off := 176) (tgt := 217) hx hb dX4_runBody_41 (by rw [c23_41]; decide) (by rw [c23_41]; decide) (by rw [c23_41]; decide) (by decide) ?_
      refine lv_aload_n hx hb dX4_runBody_217 rfl (lv_at hl 1 rfl) ?_
      refine lv_bipush (v := 20) hx hb dX4_runBody_218 (by decide) ?_
      refine lv_iload_n hx hb dX4_runBody_220 rfl (lv_at hl 3 rfl) ?_
      refine lv_iload hx hb dX4_runBody_221 (lv_at hl 0 rfl) ?_
      obtain ⟨r_19, b_20, hc_223, hd⟩ := ob_s2 hd
      refine ob_Vi (isC := [0, 1, 2, 3, 4, 5, 6, 7]) (isR := []) (is2 := [0, 1, 2, 3, 4, 5, 6, 7]) (wc := (ob_w4 o_b a_b cI b ++ ob_w1 (a_b 2) a_y cI y)) (wr := ([] : va_W)) (w1 := (ob_w4 o_b a_b cI b_20 ++ ob_w1 (a_b 2) a_y cI y)) (w2 := (ob_w4 o_b a_b cI b_20 ++ ob_w1 (a_b 2) a_y cI y)) (b := o_b) (As := [.int 20, .int x2, .int x_4]) (rest := []) ⟨hx, hb, hml, hown, hts⟩ (mt_X4_runBody2 l dC dI cI cZ cR cW xs _ o_b a_b a_y b y 20 x2 x_4 r_19 b_20 hc_223) (cwV 3 hts gX4_runBody_X4_runBody rfl rfl rfl (by decide +kernel) ⟨Nat.le_of_ble_eq_true rfl, Nat.le_of_ble_eq_true rfl⟩) hK hE hP hD hS hA ⟨rfl, rfl, rfl, rfl, rfl, rfl, rfl⟩ 4 0 rfl rfl rfl hl rfl rfl (Nat.le_of_ble_eq_true rfl) ⟨Nat.le_of_ble_eq_true rfl, Nat.le_of_ble_eq_true rfl⟩ dX4_runBody_223 (fun H locs hP hD hS => ?_)
      refine W.widen (k := 0) (n := 0) (Nat.le_refl _) (Nat.le_refl _) ?_
      refine lv_aload_n hx hb dX4_runBody_226 rfl (lv_at hl 1 rfl) ?_
      refine lv_iload_n hx hb dX4_runBody_227 rfl (lv_at hl 3 rfl) ?_
      refine lv_iconst (v := 0) hx hb dX4_runBody_228 (by decide) ?_
      refine lv_iload hx hb dX4_runBody_229 (lv_at hl 0 rfl) ?_
      obtain ⟨r_21, b_22, hc_231, hd⟩ := ob_s2 hd
      refine ob_Vi (isC := [0, 1, 2, 3, 4, 5, 6, 7]) (isR := []) (is2 := [0, 1, 2, 3, 4, 5, 6, 7]) (wc := (ob_w4 o_b a_b cI b_20 ++ ob_w1 (a_b 2) a_y cI y)) (wr := ([] : va_W)) (w1 := (ob_w4 o_b a_b cI b_22 ++ ob_w1 (a_b 2) a_y cI y)) (w2 := (ob_w4 o_b a_b cI b_22 ++ ob_w1 (a_b 2) a_y cI y)) (b := o_b) (As := [.int x2, .int 0, .int x_4]) (rest := [.int r_19]) ⟨hx, hb, hml, hown, hts⟩ (mt_X4_askAnew2 l dC dI cI cZ cR cW xs _ o_b a_b a_y b_20 y x2 0 x_4 r_21 b_22 hc_231) (cwV 3 hts gX4_runBody_X4_askAnew rfl rfl rfl (by decide +kernel) ⟨Nat.le_of_ble_eq_true rfl, Nat.le_of_ble_eq_true rfl⟩) hK hE hP hD hS hA ⟨rfl, rfl, rfl, rfl, rfl, rfl, rfl⟩ 4 0 rfl rfl rfl hl rfl rfl (Nat.le_of_ble_eq_true rfl) ⟨Nat.le_of_ble_eq_true rfl, Nat.le_of_ble_eq_true rfl⟩ dX4_runBody_231 (fun H locs hP hD hS => ?_)
      refine W.widen (k := 0) (n := 0) (Nat.le_refl _) (Nat.le_refl _) ?_
      refine lv_isub hx hb dX4_runBody_234 ?_
      obtain ⟨e1, e2⟩ := ob_pp hd
      subst e1
      subst e2
      exact ob_iret hx hb hr hlocks hP hD hS dX4_runBody_235
    replace hd := ob_f c23_41 hd
    by_cases c24_41 : x1 = 24
    · replace hd := ob_t c24_41 hd
      refine lv_tableIn (off := 195) (tgt := 236) hx hb dX4_runBody_41 (by rw [c24_41]; decide) (by rw [c24_41]; decide) (by rw [c24_41]; decide) (by decide) ?_
      refine lv_iconst (v := 2) hx hb dX4_runBody_236 (by decide) ?_
      refine lv_aload_n hx hb dX4_runBody_237 rfl (lv_at hl 1 rfl) ?_
      refine lv_bipush (v := 21) hx hb dX4_runBody_238 (by decide) ?_
      refine lv_iload_n hx hb dX4_runBody_240 rfl (lv_at hl 3 rfl) ?_
      refine lv_iload hx hb dX4_runBody_241 (lv_at hl 0 rfl) ?_
      obtain ⟨r_23, b_24, hc_243, hd⟩ := ob_s2 hd
      refine ob_Vi (isC := [0, 1, 2, 3, 4, 5, 6, 7]) (isR := []) (is2 := [0, 1, 2, 3, 4, 5, 6, 7]) (wc := (ob_w4 o_b a_b cI b ++ ob_w1 (a_b 2) a_y cI y)) (wr := ([] : va_W)) (w1 := (ob_w4 o_b a_b cI b_24 ++ ob_w1 (a_b 2) a_y cI y)) (w2 := (ob_w4 o_b a_b cI b_24 ++ ob_w1 (a_b 2) a_y cI y)) (b := o_b) (As := [.int 21, .int x2, .int x_4]) (rest := [.int 2]) ⟨hx, hb, hml, hown, hts⟩ (mt_X4_runBody2 l dC dI cI cZ cR cW xs _ o_b a_b a_y b y 21 x2 x_4 r_23 b_24 hc_243) (cwV 3 hts gX4_runBody_X4_runBody rfl rfl rfl (by decide +kernel) ⟨Nat.le_of_ble_eq_true rfl, Nat.le_of_ble_eq_true rfl⟩) hK hE hP hD hS hA ⟨rfl, rfl, rfl, rfl, rfl, rfl, rfl⟩ 4 0 rfl rfl rfl hl rfl rfl (Nat.le_of_ble_eq_true rfl) ⟨Nat.le_of_ble_eq_true rfl, Nat.le_of_ble_eq_true rfl⟩ dX4_runBody_243 (fun H locs hP hD hS => ?_)
      refine W.widen (k := 0) (n := 0) (Nat.le_refl _) (Nat.le_refl _) ?_
      refine lv_imul hx hb dX4_runBody_246 ?_
      obtain ⟨e1, e2⟩ := ob_pp hd
      subst e1
      subst e2
      exact ob_iret hx hb hr hlocks hP hD hS dX4_runBody_247
    replace hd := ob_f c24_41 hd
    refine lv_tableOut (tgt := 248) hx hb dX4_runBody_41 (by have n10 := lv_neT c10_41 (show (10 : Int32).toInt = 10 from rfl); have n11 := lv_neT c11_41 (show (11 : Int32).toInt = 11 from rfl); have n12 := lv_neT c12_41 (show (12 : Int32).toInt = 12 from rfl); have n13 := lv_neT c13_41 (show (13 : Int32).toInt = 13 from rfl); have n14 := lv_neT c14_41 (show (14 : Int32).toInt = 14 from rfl); have n15 := lv_neT c15_41 (show (15 : Int32).toInt = 15 from rfl); have n16 := lv_neT c16_41 (show (16 : Int32).toInt = 16 from rfl); have n17 := lv_neT c17_41 (show (17 : Int32).toInt = 17 from rfl); have n18 := lv_neT c18_41 (show (18 : Int32).toInt = 18 from rfl); have n19 := lv_neT c19_41 (show (19 : Int32).toInt = 19 from rfl); have n20 := lv_neT c20_41 (show (20 : Int32).toInt = 20 from rfl); have n21 := lv_neT c21_41 (show (21 : Int32).toInt = 21 from rfl); have n22 := lv_neT c22_41 (show (22 : Int32).toInt = 22 from rfl); have n23 := lv_neT c23_41 (show (23 : Int32).toInt = 23 from rfl); have n24 := lv_neT c24_41 (show (24 : Int32).toInt = 24 from rfl); omega) (by decide) ?_
    refine lv_ldc hx hb hown kw2 dX4_runBody_248 ?_
    obtain ⟨e1, e2⟩ := ob_pp hd
    subst e1
    subst e2
    exact ob_iret hx hb hr hlocks hP hD hS dX4_runBody_250
  refine lv_iload_n hx hb dX4_runBody_0 rfl (lv_at hl 3 rfl) ?_
  refine lv_bipush (v := 12) hx hb dX4_runBody_1 (by decide) ?_
  refine lv_icmp_le (tgt := 9) hx hb dX4_runBody_3 (by decide) (fun c_3 => ?_) (fun c_3 => ?_)
  · replace hd := ob_t c_3 hd
    refine lv_aload_n hx hb dX4_runBody_9 rfl (lv_at hl 0 rfl) ?_
    refine va_get (D := (dC, dI)) (ci := 4) (v := .int (b.1 7)) (C := RX4) (T := TX4) (N := 10) hx hb hts hi_X4 hown hK hP 0 rfl rfl 7 (by decide) kw0 (fun _ h9 => h9) rfl dX4_runBody_10 ?_
    refine lv_bipush (v := 16) hx hb dX4_runBody_13 (by decide) ?_
    refine lv_icmp_ge (tgt := 35) hx hb dX4_runBody_15 (by decide) (fun c_15 => ?_) (fun c_15 => ?_)
    · replace hd := ob_t c_15 hd
      exact L35   _ _ b _ hP hD hS (lv_sub hl [0, 1, 2, 3] rfl) hd
    · replace hd := ob_f c_15 hd
      refine lv_aload_n hx hb dX4_runBody_18 rfl (lv_at hl 0 rfl) ?_
      refine va_get (D := (dC, dI)) (ci := 4) (v := .ref (a_b 6)) (C := RX4) (T := TX4) (N := 10) hx hb hts hi_X4 hown hK hP 0 rfl rfl 6 (by decide) kw1 (fun _ h9 => h9) rfl dX4_runBody_19 ?_
      refine lv_aload_n hx hb dX4_runBody_22 rfl (lv_at hl 0 rfl) ?_
      refine lv_dup hx hb dX4_runBody_23 rfl ?_
      refine va_get (D := (dC, dI)) (ci := 4) (v := .int (b.1 7)) (C := RX4) (T := TX4) (N := 10) hx hb hts hi_X4 hown hK hP 0 rfl rfl 7 (by decide) kw0 (fun _ h9 => h9) rfl dX4_runBody_24 ?_
      refine lv_dup_x1 hx hb dX4_runBody_27 rfl rfl ?_
      refine lv_iconst (v := 1) hx hb dX4_runBody_28 (by decide) ?_
      refine lv_iadd hx hb dX4_runBody_29 ?_
      refine lv_topi (fun x_1 ex_1 => ?_)
      replace hd := ob_lx ex_1 hd
      clear ex_1
      refine va_put (D := (dC, dI)) (ci := 4) (v := .int x_1) (ty := .int) (C := RX4) (T := TX4) (N := 10) hx hb hts hi_X4 tyX4 tyX4_ok nmX4 hown hK hP hD hS 0 rfl rfl 7 (by decide) kw0 (fun _ h9 => h9) rfl (by decide +kernel) rfl rfl (Nat.le_of_ble_eq_true rfl) dX4_runBody_30 (fun H locs hP hD hS => ?_)
      obtain ⟨b_2, eb_2⟩ : ∃ z : ob_B, z = ob_I b 7 x_1 := ⟨_, rfl⟩
      replace hd := ob_lx eb_2 hd
      replace hP : va_P (dC, dI) vwCl (ob_w4 o_b a_b cI b_2 ++ ob_w1 (a_b 2) a_y cI y) H := by rw [eb_2]; exact hP
      replace hD : va_D A (ob_w4 o_b a_b cI b_2 ++ ob_w1 (a_b 2) a_y cI y) := by rw [eb_2]; exact hD
      clear eb_2
      refine lv_iload_n hx hb dX4_runBody_33 rfl (lv_at hl 1 rfl) ?_
      obtain ⟨h1_34, hd⟩ := ob_nn hd
      refine va_iast hx hb hK hP hD hS 1 0 rfl rfl h1_34 dX4_runBody_34 (fun H locs hP hD hS => ?_)
      obtain ⟨b_3, eb_3⟩ : ∃ z : ob_B, z = ob_A b_2 6 (upd (b_2.2 6) (Int32.toNatClampNeg (b.1 7)) x1) := ⟨_, rfl⟩
      replace hd := ob_lx eb_3 hd
      replace hP : va_P (dC, dI) vwCl (ob_w4 o_b a_b cI b_3 ++ ob_w1 (a_b 2) a_y cI y) H := by rw [eb_3]; exact hP
      replace hD : va_D A (ob_w4 o_b a_b cI b_3 ++ ob_w1 (a_b 2) a_y cI y) := by rw [eb_3]; exact hD
      clear eb_3
      exact L35   _ _ b_3 _ hP hD hS (lv_sub hl [0, 1, 2, 3] rfl) hd
  · replace hd := ob_f c_3 hd
    refine lv_ldc hx hb hown kw2 dX4_runBody_6 ?_
    obtain ⟨e1, e2⟩ := ob_pp hd
    subst e1
    subst e2
    exact ob_iret hx hb hr hlocks hP hD hS dX4_runBody_8

def fd_X4_askAnew3_L49  (b : ob_B) (y : ob_B) (x1 : Int32) (x2 : Int32) (x3 : Int32) (z4 : Int32) : Option (Int32 × ob_B) := ob_b1 (fd_X4_toldBody z4 x2) (fun r_5 => ob_b2 (fd_X4_runBody3 b y r_5 x1 x3) (fun r_6 b_7 => some (r_6, b_7)))
def fd_X4_askAnew3_L14  : Nat → ob_B → ob_B → Int32 → Int32 → Int32 → Int32 → Int32 → Option (Int32 × ob_B)
  | 0, _, _, _, _, _, _, _ => none
  | fu + 1, b, y, x1, x2, x3, z4, z5 => if 6 ≤ z5 then (fd_X4_askAnew3_L49 b y x1 x2 x3 z4) else (if z4 ≤ 0 then (fd_X4_askAnew3_L49 b y x1 x2 x3 z4) else (ob_b1 (fd_X4_toldBody z4 x2) (fun r_2 => if r_2 = 0 then (if z4 < 0 ∨ 6 ≤ Int32.toNatClampNeg z4 then none else (ob_lt (([0, 0, 1, 1, 0, 4] : List Int32).getD (Int32.toNatClampNeg z4) 0 : Int32) (fun x_3 => ob_lt (z5 + 1 : Int32) (fun x_4 => fd_X4_askAnew3_L14 fu b y x1 x2 x3 x_3 x_4)))) else (fd_X4_askAnew3_L49 b y x1 x2 x3 z4))))
def fd_X4_askAnew3  (b : ob_B) (y : ob_B) (x1 : Int32) (x2 : Int32) (x3 : Int32) : Option (Int32 × ob_B) := if x1 < 0 ∨ 7 ≤ Int32.toNatClampNeg x1 then none else (ob_lt ((y.2 7) (Int32.toNatClampNeg x1) : Int32) (fun x_1 => fd_X4_askAnew3_L14 2000 b y x1 x2 x3 x_1 0))
set_option maxHeartbeats 4000000 in
set_option maxRecDepth 100000 in
theorem mt_X4_askAnew3 (l : Launch) (dC : Nat → ClassId) (dI : Nat → Nat → Nat) (cI cZ cR cW : ClassId) (xs : Nat → Nat) (sz : Nat) (o_b : Nat) (a_b : Nat → Nat) (a_y : Nat → Nat) (b : ob_B) (y : ob_B) (x1 : Int32) (x2 : Int32) (x3 : Int32)  (rr : Int32) (b' : ob_B) (hd : fd_X4_askAnew3 b y x1 x2 x3 = some (rr, b')) : ob_M l yX4_askAnew wsX4_askAnew ({ frames := 7, cells := 0, slots := 0, locals := 171 } : Room) (dC, dI) (ob_ty cI cZ cR cW) xs [.ref o_b, .int x1, .int x2, .int x3] (ob_w4 o_b a_b cI b ++ ob_w1 (a_b 2) a_y cI y) sz (ob_Qi (dC, dI) rr (ob_w4 o_b a_b cI b' ++ ob_w1 (a_b 2) a_y cI y)) := by
  rw [fd_X4_askAnew3] at hd
  refine ob_in (cc := cX4_askAnew) (maxL := 6) (ret := (some .int)) (own := RX4) (by decide) rfl rfl [(0, .ref o_b), (1, .int x1), (2, .int x2), (3, .int x3)] rfl (Nat.le_of_ble_eq_true rfl) ?_
  intro p e s m below meth c hx hb hr hml hown hts hlocks hnm hK A hA hE hP hD hS ls hl
  have kw0 := hts (.fieldLink RX4 25 "OathCoach" "route" "LOathCoach$Route;") (by decide +kernel)
  have kw1 := hts (.fieldLink RX4 213 "OathCoach$Route" "kind" "[I") (by decide +kernel)
  have kw2 := hts (.fieldLink RX4 245 "OathCoach" "KIND_ABOVE" "[I") (by decide +kernel)
  have hi_X1 : ∀ w ∈ u_ws RX1 TX1 12, w ∈ wsX4_askAnew := by decide +kernel
  have hi_X4 : ∀ w ∈ u_ws RX4 TX4 10, w ∈ wsX4_askAnew := by decide +kernel
  obtain ⟨hE1, hE2, hE3, hE4, hE5, hE6, hE7, hE8, hE9, -⟩ := id hE
  have hET : va_T .byte (xs 4) 5 (fun j => .int (([111, 109, 108, 102, 118] : List Int32).getD j 0)) A s s.heap := (hE8.1 0 (by decide)).2.2.2
  have L49 : ∀ (H : Heap) (locs : List Loc) (b : ob_B) (z4 : Int32) (ls : Array Slot), va_P (dC, dI) vwCl (ob_w4 o_b a_b cI b ++ ob_w1 (a_b 2) a_y cI y) H → va_D A (ob_w4 o_b a_b cI b ++ ob_w1 (a_b 2) a_y cI y) → va_S A s.heap H locs → lv_has ls 6 [(0, .ref o_b), (1, .int x1), (2, .int x2), (3, .int x3), (4, .int z4)] → fd_X4_askAnew3_L49 b y x1 x2 x3 z4 = some (rr, b') → W p l e ({ frames := 7, cells := 0, slots := 0, locals := 171 } : Room) s m (List.toArray [.ref o_b, .int x1, .int x2, .int x3]) below meth c H locs 0 0 (MQ below ((ob_Qi (dC, dI) rr (ob_w4 o_b a_b cI b' ++ ob_w1 (a_b 2) a_y cI y)) A) (List.toArray [.ref o_b, .int x1, .int x2, .int x3]) s 0 0 A) (F0 m 49 ls []) := by
    intro  H locs b z4 ls hP hD hS hl hd
    rw [fd_X4_askAnew3_L49] at hd
    refine lv_aload_n hx hb dX4_askAnew_49 rfl (lv_at hl 0 rfl) ?_
    refine lv_iload hx hb dX4_askAnew_50 (lv_at hl 4 rfl) ?_
    refine lv_iload_n hx hb dX4_askAnew_52 rfl (lv_at hl 2 rfl) ?_
    obtain ⟨r_5, hc_53, hd⟩ := ob_s1 hd
    refine ob_Si (isC := []) (isR := [0, 1, 2, 3, 4, 5, 6, 7]) (is2 := [0, 1, 2, 3, 4, 5, 6, 7]) (wc := ([] : va_W)) (wr := (List.filterMap (fun i => (ob_w4 o_b a_b cI b ++ ob_w1 (a_b 2) a_y cI y)[i]?) [0, 1, 2, 3, 4, 5, 6, 7])) (w1 := ([] : va_W)) (w2 := (ob_w4 o_b a_b cI b ++ ob_w1 (a_b 2) a_y cI y)) (As := [.int z4, .int x2]) (rest := [.ref o_b]) ⟨hx, hb, hml, hown, hts⟩ (mt_X4_toldBody l dC dI cI cZ cR cW xs _ z4 x2 r_5 hc_53) (va_cwS 2 hts gX4_askAnew_X4_toldBody rfl rfl rfl (by decide +kernel) ⟨Nat.le_of_ble_eq_true rfl, Nat.le_of_ble_eq_true rfl⟩) hK hE hP hD hS hA ⟨rfl, rfl, rfl, rfl, rfl, rfl, rfl⟩ hl rfl rfl (Nat.le_of_ble_eq_true rfl) ⟨Nat.le_of_ble_eq_true rfl, Nat.le_of_ble_eq_true rfl⟩ dX4_askAnew_53 (fun H locs hP hD hS => ?_)
    refine W.widen (k := 0) (n := 0) (Nat.le_refl _) (Nat.le_refl _) ?_
    refine lv_iload_n hx hb dX4_askAnew_56 rfl (lv_at hl 1 rfl) ?_
    refine lv_iload_n hx hb dX4_askAnew_57 rfl (lv_at hl 3 rfl) ?_
    obtain ⟨r_6, b_7, hc_58, hd⟩ := ob_s2 hd
    refine ob_Vi (isC := [0, 1, 2, 3, 4, 5, 6, 7]) (isR := []) (is2 := [0, 1, 2, 3, 4, 5, 6, 7]) (wc := (ob_w4 o_b a_b cI b ++ ob_w1 (a_b 2) a_y cI y)) (wr := ([] : va_W)) (w1 := (ob_w4 o_b a_b cI b_7 ++ ob_w1 (a_b 2) a_y cI y)) (w2 := (ob_w4 o_b a_b cI b_7 ++ ob_w1 (a_b 2) a_y cI y)) (b := o_b) (As := [.int r_5, .int x1, .int x3]) (rest := []) ⟨hx, hb, hml, hown, hts⟩ (mt_X4_runBody3 l dC dI cI cZ cR cW xs _ o_b a_b a_y b y r_5 x1 x3 r_6 b_7 hc_58) (cwV 3 hts gX4_askAnew_X4_runBody rfl rfl rfl (by decide +kernel) ⟨Nat.le_of_ble_eq_true rfl, Nat.le_of_ble_eq_true rfl⟩) hK hE hP hD hS hA ⟨rfl, rfl, rfl, rfl, rfl, rfl, rfl⟩ 4 0 rfl rfl rfl hl rfl rfl (Nat.le_of_ble_eq_true rfl) ⟨Nat.le_of_ble_eq_true rfl, Nat.le_of_ble_eq_true rfl⟩ dX4_askAnew_58 (fun H locs hP hD hS => ?_)
    refine W.widen (k := 0) (n := 0) (Nat.le_refl _) (Nat.le_refl _) ?_
    obtain ⟨e1, e2⟩ := ob_pp hd
    subst e1
    subst e2
    exact ob_iret hx hb hr hlocks hP hD hS dX4_askAnew_61
  have L14 : ∀  (fu : Nat), ∀ (H : Heap) (locs : List Loc) (b : ob_B) (z4 : Int32) (z5 : Int32) (ls : Array Slot), va_P (dC, dI) vwCl (ob_w4 o_b a_b cI b ++ ob_w1 (a_b 2) a_y cI y) H → va_D A (ob_w4 o_b a_b cI b ++ ob_w1 (a_b 2) a_y cI y) → va_S A s.heap H locs → lv_has ls 6 [(0, .ref o_b), (1, .int x1), (2, .int x2), (3, .int x3), (4, .int z4), (5, .int z5)] → fd_X4_askAnew3_L14 fu b y x1 x2 x3 z4 z5 = some (rr, b') → W p l e ({ frames := 7, cells := 0, slots := 0, locals := 171 } : Room) s m (List.toArray [.ref o_b, .int x1, .int x2, .int x3]) below meth c H locs 0 0 (MQ below ((ob_Qi (dC, dI) rr (ob_w4 o_b a_b cI b' ++ ob_w1 (a_b 2) a_y cI y)) A) (List.toArray [.ref o_b, .int x1, .int x2, .int x3]) s 0 0 A) (F0 m 14 ls []) := by
    intro  fu
    induction fu with
    | zero =>
      intro H locs b z4 z5 ls hP hD hS hl hd
      rw [fd_X4_askAnew3_L14] at hd
      cases hd
    | succ fu ih =>
      intro H locs b z4 z5 ls hP hD hS hl hd
      rw [fd_X4_askAnew3_L14] at hd
      refine lv_iload hx hb dX4_askAnew_14 (lv_at hl 5 rfl) ?_
      refine lv_bipush (v := 6) hx hb dX4_askAnew_16 (by decide) ?_
      refine lv_icmp_ge (tgt := 49) hx hb dX4_askAnew_18 (by decide) (fun c_18 => ?_) (fun c_18 => ?_)
      · replace hd := ob_t c_18 hd
        exact L49   _ _ b z4 _ hP hD hS (lv_sub hl [0, 1, 2, 3, 4] rfl) hd
      · replace hd := ob_f c_18 hd
        refine lv_iload hx hb dX4_askAnew_21 (lv_at hl 4 rfl) ?_
        refine lv_if_le (tgt := 49) hx hb dX4_askAnew_23 (by decide) (fun c_23 => ?_) (fun c_23 => ?_)
        · replace hd := ob_t c_23 hd
          exact L49   _ _ b z4 _ hP hD hS (lv_sub hl [0, 1, 2, 3, 4] rfl) hd
        · replace hd := ob_f c_23 hd
          refine lv_iload hx hb dX4_askAnew_26 (lv_at hl 4 rfl) ?_
          refine lv_iload_n hx hb dX4_askAnew_28 rfl (lv_at hl 2 rfl) ?_
          obtain ⟨r_2, hc_29, hd⟩ := ob_s1 hd
          refine ob_Si (isC := []) (isR := [0, 1, 2, 3, 4, 5, 6, 7]) (is2 := [0, 1, 2, 3, 4, 5, 6, 7]) (wc := ([] : va_W)) (wr := (List.filterMap (fun i => (ob_w4 o_b a_b cI b ++ ob_w1 (a_b 2) a_y cI y)[i]?) [0, 1, 2, 3, 4, 5, 6, 7])) (w1 := ([] : va_W)) (w2 := (ob_w4 o_b a_b cI b ++ ob_w1 (a_b 2) a_y cI y)) (As := [.int z4, .int x2]) (rest := []) ⟨hx, hb, hml, hown, hts⟩ (mt_X4_toldBody l dC dI cI cZ cR cW xs _ z4 x2 r_2 hc_29) (va_cwS 2 hts gX4_askAnew_X4_toldBody rfl rfl rfl (by decide +kernel) ⟨Nat.le_of_ble_eq_true rfl, Nat.le_of_ble_eq_true rfl⟩) hK hE hP hD hS hA ⟨rfl, rfl, rfl, rfl, rfl, rfl, rfl⟩ hl rfl rfl (Nat.le_of_ble_eq_true rfl) ⟨Nat.le_of_ble_eq_true rfl, Nat.le_of_ble_eq_true rfl⟩ dX4_askAnew_29 (fun H locs hP hD hS => ?_)
          refine W.widen (k := 0) (n := 0) (Nat.le_refl _) (Nat.le_refl _) ?_
          refine lv_if_ne (tgt := 49) hx hb dX4_askAnew_32 (by decide) (fun c_32 => ?_) (fun c_32 => ?_)
          · replace hd := ob_f c_32 hd
            exact L49   _ _ b z4 _ hP hD hS (lv_sub hl [0, 1, 2, 3, 4] rfl) hd
          · replace hd := ob_t c_32 hd
            refine va_gets hx hb hE1 hS hown kw2 (fun _ h9 => h9) dX4_askAnew_35 ?_
            refine lv_iload hx hb dX4_askAnew_38 (lv_at hl 4 rfl) ?_
            obtain ⟨h1_40, hd⟩ := ob_nn hd
            refine va_ti hx hb hE2 hS h1_40 rfl dX4_askAnew_40 ?_
            refine lv_topi (fun x_3 ex_3 => ?_)
            replace hd := ob_lx ex_3 hd
            clear ex_3
            refine lv_istore (lv' := [(4, .int x_3), (0, .ref o_b), (1, .int x1), (2, .int x2), (3, .int x3), (5, .int z5)]) hx hb dX4_askAnew_41 hl (by decide) rfl (fun ls hl => ?_)
            obtain ⟨x_4, ex_4⟩ : ∃ z : Int32, z = z5 + 1 := ⟨_, rfl⟩
            replace hd := ob_lx ex_4 hd
            refine lv_iinc (v := x_4) (lv' := [(5, .int x_4), (4, .int x_3), (0, .ref o_b), (1, .int x1), (2, .int x2), (3, .int x3)]) hx hb dX4_askAnew_43 hl (k := 5) rfl (by rw [ex_4]; rfl) (by decide) rfl (fun ls hl => ?_)
            clear ex_4
            refine lv_goto (tgt := 14) hx hb dX4_askAnew_46 (by decide) ?_
            exact ih _ _ b x_3 x_4 _ hP hD hS (lv_sub hl [2, 3, 4, 5, 1, 0] rfl) hd
  refine lv_aload_n hx hb dX4_askAnew_0 rfl (lv_at hl 0 rfl) ?_
  refine va_get (D := (dC, dI)) (ci := 4) (v := .ref (a_b 2)) (C := RX4) (T := TX4) (N := 10) hx hb hts hi_X4 hown hK hP 0 rfl rfl 2 (by decide) kw0 (fun _ h9 => h9) rfl dX4_askAnew_1 ?_
  refine va_get (D := (dC, dI)) (ci := 1) (v := .ref (a_y 7)) (C := RX1) (T := TX1) (N := 12) hx hb hts hi_X1 hown hK hP 2 rfl rfl 7 (by decide) kw1 (fun _ h9 => h9) rfl dX4_askAnew_4 ?_
  refine lv_iload_n hx hb dX4_askAnew_7 rfl (lv_at hl 1 rfl) ?_
  obtain ⟨h1_8, hd⟩ := ob_nn hd
  refine va_iald hx hb hK hP 3 0 rfl rfl h1_8 dX4_askAnew_8 ?_
  refine lv_topi (fun x_1 ex_1 => ?_)
  replace hd := ob_lx ex_1 hd
  clear ex_1
  refine lv_istore (lv' := [(4, .int x_1), (0, .ref o_b), (1, .int x1), (2, .int x2), (3, .int x3)]) hx hb dX4_askAnew_9 hl (by decide) rfl (fun ls hl => ?_)
  refine lv_iconst (v := 0) hx hb dX4_askAnew_11 (by decide) ?_
  refine lv_istore (lv' := [(5, .int 0), (4, .int x_1), (0, .ref o_b), (1, .int x1), (2, .int x2), (3, .int x3)]) hx hb dX4_askAnew_12 hl (by decide) rfl (fun ls hl => ?_)
  exact L14  2000 _ _ b x_1 0 _ hP hD hS (lv_sub hl [2, 3, 4, 5, 1, 0] rfl) hd

def fd_X4_runBody4_L35  (b : ob_B) (y : ob_B) (x1 : Int32) (x2 : Int32) (x3 : Int32) : Option (Int32 × ob_B) := ob_lt (x3 + 1 : Int32) (fun x_4 => if x1 = 10 then (if x2 < 0 ∨ 7 ≤ Int32.toNatClampNeg x2 then none else (some ((y.2 9) (Int32.toNatClampNeg x2), b))) else (if x1 = 11 then (ob_b2 (fd_X4_runBody3 b y 10 x2 x_4) (fun r_5 b_6 => ob_b2 (fd_X4_askAnew3 b_6 y x2 1 x_4) (fun r_7 b_8 => some (r_5 + r_7, b_8)))) else (if x1 = 12 then (ob_b2 (fd_X4_runBody3 b y 11 x2 x_4) (fun r_9 b_10 => some (-r_9, b_10))) else (if x1 = 13 then (ob_b2 (fd_X4_runBody3 b y 10 x2 x_4) (fun r_11 b_12 => some (r_11 - 100, b_12))) else (if x1 = 14 then (ob_b2 (fd_X4_runBody3 b y 13 x2 x_4) (fun r_13 b_14 => some (2 * r_13, b_14))) else (if x1 = 15 then (some ((-1000001), b)) else (if x1 = 16 then (some ((-1000001), b)) else (if x1 = 17 then (some ((-1000001), b)) else (if x1 = 18 then (some ((-1000001), b)) else (if x1 = 19 then (some ((-1000001), b)) else (if x1 = 20 then (some (x2, b)) else (if x1 = 21 then (ob_b2 (fd_X4_runBody3 b y 20 x2 x_4) (fun r_15 b_16 => if x2 < 0 ∨ 7 ≤ Int32.toNatClampNeg x2 then none else (some (r_15 + ((y.2 8) (Int32.toNatClampNeg x2)), b_16)))) else (if x1 = 22 then (ob_b2 (fd_X4_runBody3 b y 21 x2 x_4) (fun r_17 b_18 => some (r_17 - 1000, b_18))) else (if x1 = 23 then (ob_b2 (fd_X4_runBody3 b y 20 x2 x_4) (fun r_19 b_20 => ob_b2 (fd_X4_askAnew3 b_20 y x2 0 x_4) (fun r_21 b_22 => some (r_19 - r_21, b_22)))) else (if x1 = 24 then (ob_b2 (fd_X4_runBody3 b y 21 x2 x_4) (fun r_23 b_24 => some (2 * r_23, b_24))) else (some ((-1000001), b)))))))))))))))))
def fd_X4_runBody4  (b : ob_B) (y : ob_B) (x1 : Int32) (x2 : Int32) (x3 : Int32) : Option (Int32 × ob_B) := if x3 ≤ 12 then (if 16 ≤ (b.1 7) then (fd_X4_runBody4_L35 b y x1 x2 x3) else (ob_lt ((b.1 7) + 1 : Int32) (fun x_1 => ob_lt (ob_I b 7 x_1 : ob_B) (fun b_2 => if (b.1 7) < 0 ∨ 16 ≤ Int32.toNatClampNeg (b.1 7) then none else (ob_lt (ob_A b_2 6 (upd (b_2.2 6) (Int32.toNatClampNeg (b.1 7)) x1) : ob_B) (fun b_3 => fd_X4_runBody4_L35 b_3 y x1 x2 x3)))))) else (some ((-1000001), b))
set_option maxHeartbeats 4000000 in
set_option maxRecDepth 100000 in
theorem mt_X4_runBody4 (l : Launch) (dC : Nat → ClassId) (dI : Nat → Nat → Nat) (cI cZ cR cW : ClassId) (xs : Nat → Nat) (sz : Nat) (o_b : Nat) (a_b : Nat → Nat) (a_y : Nat → Nat) (b : ob_B) (y : ob_B) (x1 : Int32) (x2 : Int32) (x3 : Int32)  (rr : Int32) (b' : ob_B) (hd : fd_X4_runBody4 b y x1 x2 x3 = some (rr, b')) : ob_M l yX4_runBody wsX4_runBody ({ frames := 8, cells := 0, slots := 0, locals := 196 } : Room) (dC, dI) (ob_ty cI cZ cR cW) xs [.ref o_b, .int x1, .int x2, .int x3] (ob_w4 o_b a_b cI b ++ ob_w1 (a_b 2) a_y cI y) sz (ob_Qi (dC, dI) rr (ob_w4 o_b a_b cI b' ++ ob_w1 (a_b 2) a_y cI y)) := by
  rw [fd_X4_runBody4] at hd
  refine ob_in (cc := cX4_runBody) (maxL := 5) (ret := (some .int)) (own := RX4) (by decide) rfl rfl [(0, .ref o_b), (1, .int x1), (2, .int x2), (3, .int x3)] rfl (Nat.le_of_ble_eq_true rfl) ?_
  intro p e s m below meth c hx hb hr hml hown hts hlocks hnm hK A hA hE hP hD hS ls hl
  have kw0 := hts (.fieldLink RX4 47 "OathCoach" "tracedCount" "I") (by decide +kernel)
  have kw1 := hts (.fieldLink RX4 43 "OathCoach" "traced" "[I") (by decide +kernel)
  have kw2 := hts (.constant RX4 62 (-1000001)) (by decide +kernel)
  have kw3 := hts (.fieldLink RX4 25 "OathCoach" "route" "LOathCoach$Route;") (by decide +kernel)
  have kw4 := hts (.fieldLink RX4 186 "OathCoach$Route" "weight" "[I") (by decide +kernel)
  have kw5 := hts (.fieldLink RX4 183 "OathCoach$Route" "place" "[I") (by decide +kernel)
  have hi_X1 : ∀ w ∈ u_ws RX1 TX1 12, w ∈ wsX4_runBody := by decide +kernel
  have hi_X4 : ∀ w ∈ u_ws RX4 TX4 10, w ∈ wsX4_runBody := by decide +kernel
  have L35 : ∀ (H : Heap) (locs : List Loc) (b : ob_B)  (ls : Array Slot), va_P (dC, dI) vwCl (ob_w4 o_b a_b cI b ++ ob_w1 (a_b 2) a_y cI y) H → va_D A (ob_w4 o_b a_b cI b ++ ob_w1 (a_b 2) a_y cI y) → va_S A s.heap H locs → lv_has ls 5 [(0, .ref o_b), (1, .int x1), (2, .int x2), (3, .int x3)] → fd_X4_runBody4_L35 b y x1 x2 x3 = some (rr, b') → W p l e ({ frames := 8, cells := 0, slots := 0, locals := 196 } : Room) s m (List.toArray [.ref o_b, .int x1, .int x2, .int x3]) below meth c H locs 0 0 (MQ below ((ob_Qi (dC, dI) rr (ob_w4 o_b a_b cI b' ++ ob_w1 (a_b 2) a_y cI y)) A) (List.toArray [.ref o_b, .int x1, .int x2, .int x3]) s 0 0 A) (F0 m 35 ls []) := by
    intro  H locs b ls hP hD hS hl hd
    rw [fd_X4_runBody4_L35] at hd
    refine lv_iload_n hx hb dX4_runBody_35 rfl (lv_at hl 3 rfl) ?_
    refine lv_iconst (v := 1) hx hb dX4_runBody_36 (by decide) ?_
    refine lv_iadd hx hb dX4_runBody_37 ?_
    refine lv_topi (fun x_4 ex_4 => ?_)
    replace hd := ob_lx ex_4 hd
    clear ex_4
    refine lv_istore (lv' := [(4, .int x_4), (0, .ref o_b), (1, .int x1), (2, .int x2), (3, .int x3)]) hx hb dX4_runBody_38 hl (by decide) rfl (fun ls hl => ?_)
    refine lv_iload_n hx hb dX4_runBody_40 rfl (lv_at hl 2 rfl) ?_
    by_cases c10_41 : x1 = 10
    · replace hd := ob_t c10_41 hd
      refine lv_tableIn (off := 75) (tgt := 116) hx hb dX4_runBody_41 (by rw [c10_41]; decide) (by rw [c10_41]; decide) (by rw [c10_41]; decide) (by decide) ?_
      refine lv_aload_n hx hb dX4_runBody_116 rfl (lv_at hl 1 rfl) ?_
      refine va_get (D := (dC, dI)) (ci := 4) (v := .ref (a_b 2)) (C := RX4) (T := TX4) (N := 10) hx hb hts hi_X4 hown hK hP 0 rfl rfl 2 (by decide) kw3 (fun _ h9 => h9) rfl dX4_runBody_117 ?_
      refine va_get (D := (dC, dI)) (ci := 1) (v := .ref (a_y 9)) (C := RX1) (T := TX1) (N := 12) hx hb hts hi_X1 hown hK hP 2 rfl rfl 9 (by decide) kw4 (fun _ h9 => h9) rfl dX4_runBody_120 ?_
      refine lv_iload_n hx hb dX4_runBody_123 rfl (lv_at hl 3 rfl) ?_
      obtain ⟨h1_124, hd⟩ := ob_nn hd
      refine va_iald hx hb hK hP 5 0 rfl rfl h1_124 dX4_runBody_124 ?_
      obtain ⟨e1, e2⟩ := ob_pp hd
      subst e1
      subst e2
      exact ob_iret hx hb hr hlocks hP hD hS dX4_runBody_125
    replace hd := ob_f c10_41 hd
    by_cases c11_41 : x1 = 11
    · replace hd := ob_t c11_41 hd
      refine lv_tableIn (off := 85) (tgt := 126) hx hb dX4_runBody_41 (by rw [c11_41]; decide) (by rw [c11_41]; decide) (by rw [c11_41]; decide) (by decide) ?_
      refine lv_aload_n hx hb dX4_runBody_126 rfl (lv_at hl 1 rfl) ?_
      refine lv_bipush (v := 10) hx hb dX4_runBody_127 (by decide) ?_
      refine lv_iload_n hx hb dX4_runBody_129 rfl (lv_at hl 3 rfl) ?_
      refine lv_iload hx hb dX4_runBody_130 (lv_at hl 0 rfl) ?_
      obtain ⟨r_5, b_6, hc_132, hd⟩ := ob_s2 hd
      refine ob_Vi (isC := [0, 1, 2, 3, 4, 5, 6, 7]) (isR := []) (is2 := [0, 1, 2, 3, 4, 5, 6, 7]) (wc := (ob_w4 o_b a_b cI b ++ ob_w1 (a_b 2) a_y cI y)) (wr := ([] : va_W)) (w1 := (ob_w4 o_b a_b cI b_6 ++ ob_w1 (a_b 2) a_y cI y)) (w2 := (ob_w4 o_b a_b cI b_6 ++ ob_w1 (a_b 2) a_y cI y)) (b := o_b) (As := [.int 10, .int x2, .int x_4]) (rest := []) ⟨hx, hb, hml, hown, hts⟩ (mt_X4_runBody3 l dC dI cI cZ cR cW xs _ o_b a_b a_y b y 10 x2 x_4 r_5 b_6 hc_132) (cwV 3 hts gX4_runBody_X4_runBody rfl rfl rfl (by decide +kernel) ⟨Nat.le_of_ble_eq_true rfl, Nat.le_of_ble_eq_true rfl⟩) hK hE hP hD hS hA ⟨rfl, rfl, rfl, rfl, rfl, rfl, rfl⟩ 4 0 rfl rfl rfl hl rfl rfl (Nat.le_of_ble_eq_true rfl) ⟨Nat.le_of_ble_eq_true rfl, Nat.le_of_ble_eq_true rfl⟩ dX4_runBody_132 (fun H locs hP hD hS => ?_)
      refine W.widen (k := 0) (n := 0) (Nat.le_refl _) (Nat.le_refl _) ?_
      refine lv_aload_n hx hb dX4_runBody_135 rfl (lv_at hl 1 rfl) ?_
      refine lv_iload_n hx hb dX4_runBody_136 rfl (lv_at hl 3 rfl) ?_
      refine lv_iconst (v := 1) hx hb dX4_runBody_137 (by decide) ?_
      refine lv_iload hx hb dX4_runBody_138 (lv_at hl 0 rfl) ?_
      obtain ⟨r_7, b_8, hc_140, hd⟩ := ob_s2 hd
      refine ob_Vi (isC := [0, 1, 2, 3, 4, 5, 6, 7]) (isR := []) (is2 := [0, 1, 2, 3, 4, 5, 6, 7]) (wc := (ob_w4 o_b a_b cI b_6 ++ ob_w1 (a_b 2) a_y cI y)) (wr := ([] : va_W)) (w1 := (ob_w4 o_b a_b cI b_8 ++ ob_w1 (a_b 2) a_y cI y)) (w2 := (ob_w4 o_b a_b cI b_8 ++ ob_w1 (a_b 2) a_y cI y)) (b := o_b) (As := [.int x2, .int 1, .int x_4]) (rest := [.int r_5]) ⟨hx, hb, hml, hown, hts⟩ (mt_X4_askAnew3 l dC dI cI cZ cR cW xs _ o_b a_b a_y b_6 y x2 1 x_4 r_7 b_8 hc_140) (cwV 3 hts gX4_runBody_X4_askAnew rfl rfl rfl (by decide +kernel) ⟨Nat.le_of_ble_eq_true rfl, Nat.le_of_ble_eq_true rfl⟩) hK hE hP hD hS hA ⟨rfl, rfl, rfl, rfl, rfl, rfl, rfl⟩ 4 0 rfl rfl rfl hl rfl rfl (Nat.le_of_ble_eq_true rfl) ⟨Nat.le_of_ble_eq_true rfl, Nat.le_of_ble_eq_true rfl⟩ dX4_runBody_140 (fun H locs hP hD hS => ?_)
      refine W.widen (k := 0) (n := 0) (Nat.le_refl _) (Nat.le_refl _) ?_
      refine lv_iadd hx hb dX4_runBody_143 ?_
      obtain ⟨e1, e2⟩ := ob_pp hd
      subst e1
      subst e2
      exact ob_iret hx hb hr hlocks hP hD hS dX4_runBody_144
    replace hd := ob_f c11_41 hd
    by_cases c12_41 : x1 = 12
    · replace hd := ob_t c12_41 hd
      refine lv_tableIn (off := 104) (tgt := 145) hx hb dX4_runBody_41 (by rw [c12_41]; decide) (by rw [c12_41]; decide) (by rw [c12_41]; decide) (by decide) ?_
      refine lv_aload_n hx hb dX4_runBody_145 rfl (lv_at hl 1 rfl) ?_
      refine lv_bipush (v := 11) hx hb dX4_runBody_146 (by decide) ?_
      refine lv_iload_n hx hb dX4_runBody_148 rfl (lv_at hl 3 rfl) ?_
      refine lv_iload hx hb dX4_runBody_149 (lv_at hl 0 rfl) ?_
      obtain ⟨r_9, b_10, hc_151, hd⟩ := ob_s2 hd
      refine ob_Vi (isC := [0, 1, 2, 3, 4, 5, 6, 7]) (isR := []) (is2 := [0, 1, 2, 3, 4, 5, 6, 7]) (wc := (ob_w4 o_b a_b cI b ++ ob_w1 (a_b 2) a_y cI y)) (wr := ([] : va_W)) (w1 := (ob_w4 o_b a_b cI b_10 ++ ob_w1 (a_b 2) a_y cI y)) (w2 := (ob_w4 o_b a_b cI b_10 ++ ob_w1 (a_b 2) a_y cI y)) (b := o_b) (As := [.int 11, .int x2, .int x_4]) (rest := []) ⟨hx, hb, hml, hown, hts⟩ (mt_X4_runBody3 l dC dI cI cZ cR cW xs _ o_b a_b a_y b y 11 x2 x_4 r_9 b_10 hc_151) (cwV 3 hts gX4_runBody_X4_runBody rfl rfl rfl (by decide +kernel) ⟨Nat.le_of_ble_eq_true rfl, Nat.le_of_ble_eq_true rfl⟩) hK hE hP hD hS hA ⟨rfl, rfl, rfl, rfl, rfl, rfl, rfl⟩ 4 0 rfl rfl rfl hl rfl rfl (Nat.le_of_ble_eq_true rfl) ⟨Nat.le_of_ble_eq_true rfl, Nat.le_of_ble_eq_true rfl⟩ dX4_runBody_151 (fun H locs hP hD hS => ?_)
      refine W.widen (k := 0) (n := 0) (Nat.le_refl _) (Nat.le_refl _) ?_
      refine lv_ineg hx hb dX4_runBody_154 ?_
      obtain ⟨e1, e2⟩ := ob_pp hd
      subst e1
      subst e2
      exact ob_iret hx hb hr hlocks hP hD hS dX4_runBody_155
    replace hd := ob_f c12_41 hd
    by_cases c13_41 : x1 = 13
    · replace hd := ob_t c13_41 hd
      refine lv_tableIn (off := 115) (tgt := 156) hx hb dX4_runBody_41 (by rw [c13_41]; decide) (by rw [c13_41]; decide) (by rw [c13_41]; decide) (by decide) ?_
      refine lv_aload_n hx hb dX4_runBody_156 rfl (lv_at hl 1 rfl) ?_
      refine lv_bipush (v := 10) hx hb dX4_runBody_157 (by decide) ?_
      refine lv_iload_n hx hb dX4_runBody_159 rfl (lv_at hl 3 rfl) ?_
      refine lv_iload hx hb dX4_runBody_160 (lv_at hl 0 rfl) ?_
      obtain ⟨r_11, b_12, hc_162, hd⟩ := ob_s2 hd
      refine ob_Vi (isC := [0, 1, 2, 3, 4, 5, 6, 7]) (isR := []) (is2 := [0, 1, 2, 3, 4, 5, 6, 7]) (wc := (ob_w4 o_b a_b cI b ++ ob_w1 (a_b 2) a_y cI y)) (wr := ([] : va_W)) (w1 := (ob_w4 o_b a_b cI b_12 ++ ob_w1 (a_b 2) a_y cI y)) (w2 := (ob_w4 o_b a_b cI b_12 ++ ob_w1 (a_b 2) a_y cI y)) (b := o_b) (As := [.int 10, .int x2, .int x_4]) (rest := []) ⟨hx, hb, hml, hown, hts⟩ (mt_X4_runBody3 l dC dI cI cZ cR cW xs _ o_b a_b a_y b y 10 x2 x_4 r_11 b_12 hc_162) (cwV 3 hts gX4_runBody_X4_runBody rfl rfl rfl (by decide +kernel) ⟨Nat.le_of_ble_eq_true rfl, Nat.le_of_ble_eq_true rfl⟩) hK hE hP hD hS hA ⟨rfl, rfl, rfl, rfl, rfl, rfl, rfl⟩ 4 0 rfl rfl rfl hl rfl rfl (Nat.le_of_ble_eq_true rfl) ⟨Nat.le_of_ble_eq_true rfl, Nat.le_of_ble_eq_true rfl⟩ dX4_runBody_162 (fun H locs hP hD hS => ?_)
      refine W.widen (k := 0) (n := 0) (Nat.le_refl _) (Nat.le_refl _) ?_
      refine lv_bipush (v := 100) hx hb dX4_runBody_165 (by decide) ?_
      refine lv_isub hx hb dX4_runBody_167 ?_
      obtain ⟨e1, e2⟩ := ob_pp hd
      subst e1
      subst e2
      exact ob_iret hx hb hr hlocks hP hD hS dX4_runBody_168
    replace hd := ob_f c13_41 hd
    by_cases c14_41 : x1 = 14
    · replace hd := ob_t c14_41 hd
      refine lv_tableIn (off := 128) (tgt := 169) hx hb dX4_runBody_41 (by rw [c14_41]; decide) (by rw [c14_41]; decide) (by rw [c14_41]; decide) (by decide) ?_
      refine lv_iconst (v := 2) hx hb dX4_runBody_169 (by decide) ?_
      refine lv_aload_n hx hb dX4_runBody_170 rfl (lv_at hl 1 rfl) ?_
      refine lv_bipush (v := 13) hx hb dX4_runBody_171 (by decide) ?_
      refine lv_iload_n hx hb dX4_runBody_173 rfl (lv_at hl 3 rfl) ?_
      refine lv_iload hx hb dX4_runBody_174 (lv_at hl 0 rfl) ?_
      obtain ⟨r_13, b_14, hc_176, hd⟩ := ob_s2 hd
      refine ob_Vi (isC := [0, 1, 2, 3, 4, 5, 6, 7]) (isR := []) (is2 := [0, 1, 2, 3, 4, 5, 6, 7]) (wc := (ob_w4 o_b a_b cI b ++ ob_w1 (a_b 2) a_y cI y)) (wr := ([] : va_W)) (w1 := (ob_w4 o_b a_b cI b_14 ++ ob_w1 (a_b 2) a_y cI y)) (w2 := (ob_w4 o_b a_b cI b_14 ++ ob_w1 (a_b 2) a_y cI y)) (b := o_b) (As := [.int 13, .int x2, .int x_4]) (rest := [.int 2]) ⟨hx, hb, hml, hown, hts⟩ (mt_X4_runBody3 l dC dI cI cZ cR cW xs _ o_b a_b a_y b y 13 x2 x_4 r_13 b_14 hc_176) (cwV 3 hts gX4_runBody_X4_runBody rfl rfl rfl (by decide +kernel) ⟨Nat.le_of_ble_eq_true rfl, Nat.le_of_ble_eq_true rfl⟩) hK hE hP hD hS hA ⟨rfl, rfl, rfl, rfl, rfl, rfl, rfl⟩ 4 0 rfl rfl rfl hl rfl rfl (Nat.le_of_ble_eq_true rfl) ⟨Nat.le_of_ble_eq_true rfl, Nat.le_of_ble_eq_true rfl⟩ dX4_runBody_176 (fun H locs hP hD hS => ?_)
      refine W.widen (k := 0) (n := 0) (Nat.le_refl _) (Nat.le_refl _) ?_
      refine lv_imul hx hb dX4_runBody_179 ?_
      obtain ⟨e1, e2⟩ := ob_pp hd
      subst e1
      subst e2
      exact ob_iret hx hb hr hlocks hP hD hS dX4_runBody_180
    replace hd := ob_f c14_41 hd
    by_cases c15_41 : x1 = 15
    · replace hd := ob_t c15_41 hd
      refine lv_tableIn (off := 207) (tgt := 248) hx hb dX4_runBody_41 (by rw [c15_41]; decide) (by rw [c15_41]; decide) (by rw [c15_41]; decide) (by decide) ?_
      refine lv_ldc hx hb hown kw2 dX4_runBody_248 ?_
      obtain ⟨e1, e2⟩ := ob_pp hd
      subst e1
      subst e2
      exact ob_iret hx hb hr hlocks hP hD hS dX4_runBody_250
    replace hd := ob_f c15_41 hd
    by_cases c16_41 : x1 = 16
    · replace hd := ob_t c16_41 hd
      refine lv_tableIn (off := 207) (tgt := 248) hx hb dX4_runBody_41 (by rw [c16_41]; decide) (by rw [c16_41]; decide) (by rw [c16_41]; decide) (by decide) ?_
      refine lv_ldc hx hb hown kw2 dX4_runBody_248 ?_
      obtain ⟨e1, e2⟩ := ob_pp hd
      subst e1
      subst e2
      exact ob_iret hx hb hr hlocks hP hD hS dX4_runBody_250
    replace hd := ob_f c16_41 hd
    by_cases c17_41 : x1 = 17
    · replace hd := ob_t c17_41 hd
      refine lv_tableIn (off := 207) (tgt := 248) hx hb dX4_runBody_41 (by rw [c17_41]; decide) (by rw [c17_41]; decide) (by rw [c17_41]; decide) (by decide) ?_
      refine lv_ldc hx hb hown kw2 dX4_runBody_248 ?_
      obtain ⟨e1, e2⟩ := ob_pp hd
      subst e1
      subst e2
      exact ob_iret hx hb hr hlocks hP hD hS dX4_runBody_250
    replace hd := ob_f c17_41 hd
    by_cases c18_41 : x1 = 18
    · replace hd := ob_t c18_41 hd
      refine lv_tableIn (off := 207) (tgt := 248) hx hb dX4_runBody_41 (by rw [c18_41]; decide) (by rw [c18_41]; decide) (by rw [c18_41]; decide) (by decide) ?_
      refine lv_ldc hx hb hown kw2 dX4_runBody_248 ?_
      obtain ⟨e1, e2⟩ := ob_pp hd
      subst e1
      subst e2
      exact ob_iret hx hb hr hlocks hP hD hS dX4_runBody_250
    replace hd := ob_f c18_41 hd
    by_cases c19_41 : x1 = 19
    · replace hd := ob_t c19_41 hd
      refine lv_tableIn (off := 207) (tgt := 248) hx hb dX4_runBody_41 (by rw [c19_41]; decide) (by rw [c19_41]; decide) (by rw [c19_41]; decide) (by decide) ?_
      refine lv_ldc hx hb hown kw2 dX4_runBody_248 ?_
      obtain ⟨e1, e2⟩ := ob_pp hd
      subst e1
      subst e2
      exact ob_iret hx hb hr hlocks hP hD hS dX4_runBody_250
    replace hd := ob_f c19_41 hd
    by_cases c20_41 : x1 = 20
    · replace hd := ob_t c20_41 hd
      refine lv_tableIn (off := 140) (tgt := 181) hx hb dX4_runBody_41 (by rw [c20_41]; decide) (by rw [c20_41]; decide) (by rw [c20_41]; decide) (by decide) ?_
      refine lv_iload_n hx hb dX4_runBody_181 rfl (lv_at hl 3 rfl) ?_
      obtain ⟨e1, e2⟩ := ob_pp hd
      subst e1
      subst e2
      exact ob_iret hx hb hr hlocks hP hD hS dX4_runBody_182
    replace hd := ob_f c20_41 hd
    by_cases c21_41 : x1 = 21
    · replace hd := ob_t c21_41 hd
      refine lv_tableIn (off := 142) (tgt := 183) hx hb dX4_runBody_41 (by rw [c21_41]; decide) (by rw [c21_41]; decide) (by rw [c21_41]; decide) (by decide) ?_
      refine lv_aload_n hx hb dX4_runBody_183 rfl (lv_at hl 1 rfl) ?_
      refine lv_bipush (v := 20) hx hb dX4_runBody_184 (by decide) ?_
      refine lv_iload_n hx hb dX4_runBody_186 rfl (lv_at hl 3 rfl) ?_
      refine lv_iload hx hb dX4_runBody_187 (lv_at hl 0 rfl) ?_
      obtain ⟨r_15, b_16, hc_189, hd⟩ := ob_s2 hd
      refine ob_Vi (isC := [0, 1, 2, 3, 4, 5, 6, 7]) (isR := []) (is2 := [0, 1, 2, 3, 4, 5, 6, 7]) (wc := (ob_w4 o_b a_b cI b ++ ob_w1 (a_b 2) a_y cI y)) (wr := ([] : va_W)) (w1 := (ob_w4 o_b a_b cI b_16 ++ ob_w1 (a_b 2) a_y cI y)) (w2 := (ob_w4 o_b a_b cI b_16 ++ ob_w1 (a_b 2) a_y cI y)) (b := o_b) (As := [.int 20, .int x2, .int x_4]) (rest := []) ⟨hx, hb, hml, hown, hts⟩ (mt_X4_runBody3 l dC dI cI cZ cR cW xs _ o_b a_b a_y b y 20 x2 x_4 r_15 b_16 hc_189) (cwV 3 hts gX4_runBody_X4_runBody rfl rfl rfl (by decide +kernel) ⟨Nat.le_of_ble_eq_true rfl, Nat.le_of_ble_eq_true rfl⟩) hK hE hP hD hS hA ⟨rfl, rfl, rfl, rfl, rfl, rfl, rfl⟩ 4 0 rfl rfl rfl hl rfl rfl (Nat.le_of_ble_eq_true rfl) ⟨Nat.le_of_ble_eq_true rfl, Nat.le_of_ble_eq_true rfl⟩ dX4_runBody_189 (fun H locs hP hD hS => ?_)
      refine W.widen (k := 0) (n := 0) (Nat.le_refl _) (Nat.le_refl _) ?_
      refine lv_aload_n hx hb dX4_runBody_192 rfl (lv_at hl 1 rfl) ?_
      refine va_get (D := (dC, dI)) (ci := 4) (v := .ref (a_b 2)) (C := RX4) (T := TX4) (N := 10) hx hb hts hi_X4 hown hK hP 0 rfl rfl 2 (by decide) kw3 (fun _ h9 => h9) rfl dX4_runBody_193 ?_
      refine va_get (D := (dC, dI)) (ci := 1) (v := .ref (a_y 8)) (C := RX1) (T := TX1) (N := 12) hx hb hts hi_X1 hown hK hP 2 rfl rfl 8 (by decide) kw5 (fun _ h9 => h9) rfl dX4_runBody_196 ?_
      refine lv_iload_n hx hb dX4_runBody_199 rfl (lv_at hl 3 rfl) ?_
      obtain ⟨h1_200, hd⟩ := ob_nn hd
      refine va_iald hx hb hK hP 4 0 rfl rfl h1_200 dX4_runBody_200 ?_
      refine lv_iadd hx hb dX4_runBody_201 ?_
      obtain ⟨e1, e2⟩ := ob_pp hd
      subst e1
      subst e2
      exact ob_iret hx hb hr hlocks hP hD hS dX4_runBody_202
    replace hd := ob_f c21_41 hd
    by_cases c22_41 : x1 = 22
    · replace hd := ob_t c22_41 hd
      refine lv_tableIn (off := 162) (tgt := 203) hx hb dX4_runBody_41 (by rw [c22_41]; decide) (by rw [c22_41]; decide) (by rw [c22_41]; decide) (by decide) ?_
      refine lv_aload_n hx hb dX4_runBody_203 rfl (lv_at hl 1 rfl) ?_
      refine lv_bipush (v := 21) hx hb dX4_runBody_204 (by decide) ?_
      refine lv_iload_n hx hb dX4_runBody_206 rfl (lv_at hl 3 rfl) ?_
      refine lv_iload hx hb dX4_runBody_207 (lv_at hl 0 rfl) ?_
      obtain ⟨r_17, b_18, hc_209, hd⟩ := ob_s2 hd
      refine ob_Vi (isC := [0, 1, 2, 3, 4, 5, 6, 7]) (isR := []) (is2 := [0, 1, 2, 3, 4, 5, 6, 7]) (wc := (ob_w4 o_b a_b cI b ++ ob_w1 (a_b 2) a_y cI y)) (wr := ([] : va_W)) (w1 := (ob_w4 o_b a_b cI b_18 ++ ob_w1 (a_b 2) a_y cI y)) (w2 := (ob_w4 o_b a_b cI b_18 ++ ob_w1 (a_b 2) a_y cI y)) (b := o_b) (As := [.int 21, .int x2, .int x_4]) (rest := []) ⟨hx, hb, hml, hown, hts⟩ (mt_X4_runBody3 l dC dI cI cZ cR cW xs _ o_b a_b a_y b y 21 x2 x_4 r_17 b_18 hc_209) (cwV 3 hts gX4_runBody_X4_runBody rfl rfl rfl (by decide +kernel) ⟨Nat.le_of_ble_eq_true rfl, Nat.le_of_ble_eq_true rfl⟩) hK hE hP hD hS hA ⟨rfl, rfl, rfl, rfl, rfl, rfl, rfl⟩ 4 0 rfl rfl rfl hl rfl rfl (Nat.le_of_ble_eq_true rfl) ⟨Nat.le_of_ble_eq_true rfl, Nat.le_of_ble_eq_true rfl⟩ dX4_runBody_209 (fun H locs hP hD hS => ?_)
      refine W.widen (k := 0) (n := 0) (Nat.le_refl _) (Nat.le_refl _) ?_
      refine lv_sipush (v := 1000) hx hb dX4_runBody_212 (by decide) ?_
      refine lv_isub hx hb dX4_runBody_215 ?_
      obtain ⟨e1, e2⟩ := ob_pp hd
      subst e1
      subst e2
      exact ob_iret hx hb hr hlocks hP hD hS dX4_runBody_216
    replace hd := ob_f c22_41 hd
    by_cases c23_41 : x1 = 23
    · replace hd := ob_t c23_41 hd
      refine lv_tableIn (off := 176) (tgt := 217) hx hb dX4_runBody_41 (by rw [c23_41]; decide) (by rw [c23_41]; decide) (by rw [c23_41]; decide) (by decide) ?_
      refine lv_aload_n hx hb dX4_runBody_217 rfl (lv_at hl 1 rfl) ?_
      refine lv_bipush (v := 20) hx hb dX4_runBody_218 (by decide) ?_
      refine lv_iload_n hx hb dX4_runBody_220 rfl (lv_at hl 3 rfl) ?_
      refine lv_iload hx hb dX4_runBody_221 (lv_at hl 0 rfl) ?_
      obtain ⟨r_19, b_20, hc_223, hd⟩ := ob_s2 hd
      refine ob_Vi (isC := [0, 1, 2, 3, 4, 5, 6, 7]) (isR := []) (is2 := [0, 1, 2, 3, 4, 5, 6, 7]) (wc := (ob_w4 o_b a_b cI b ++ ob_w1 (a_b 2) a_y cI y)) (wr := ([] : va_W)) (w1 := (ob_w4 o_b a_b cI b_20 ++ ob_w1 (a_b 2) a_y cI y)) (w2 := (ob_w4 o_b a_b cI b_20 ++ ob_w1 (a_b 2) a_y cI y)) (b := o_b) (As := [.int 20, .int x2, .int x_4]) (rest := []) ⟨hx, hb, hml, hown, hts⟩ (mt_X4_runBody3 l dC dI cI cZ cR cW xs _ o_b a_b a_y b y 20 x2 x_4 r_19 b_20 hc_223) (cwV 3 hts gX4_runBody_X4_runBody rfl rfl rfl (by decide +kernel) ⟨Nat.le_of_ble_eq_true rfl, Nat.le_of_ble_eq_true rfl⟩) hK hE hP hD hS hA ⟨rfl, rfl, rfl, rfl, rfl, rfl, rfl⟩ 4 0 rfl rfl rfl hl rfl rfl (Nat.le_of_ble_eq_true rfl) ⟨Nat.le_of_ble_eq_true rfl, Nat.le_of_ble_eq_true rfl⟩ dX4_runBody_223 (fun H locs hP hD hS => ?_)
      refine W.widen (k := 0) (n := 0) (Nat.le_refl _) (Nat.le_refl _) ?_
      refine lv_aload_n hx hb dX4_runBody_226 rfl (lv_at hl 1 rfl) ?_
      refine lv_iload_n hx hb dX4_runBody_227 rfl (lv_at hl 3 rfl) ?_
      refine lv_iconst (v := 0) hx hb dX4_runBody_228 (by decide) ?_
      refine lv_iload hx hb dX4_runBody_229 (lv_at hl 0 rfl) ?_
      obtain ⟨r_21, b_22, hc_231, hd⟩ := ob_s2 hd
      refine ob_Vi (isC := [0, 1, 2, 3, 4, 5, 6, 7]) (isR := []) (is2 := [0, 1, 2, 3, 4, 5, 6, 7]) (wc := (ob_w4 o_b a_b cI b_20 ++ ob_w1 (a_b 2) a_y cI y)) (wr := ([] : va_W)) (w1 := (ob_w4 o_b a_b cI b_22 ++ ob_w1 (a_b 2) a_y cI y)) (w2 := (ob_w4 o_b a_b cI b_22 ++ ob_w1 (a_b 2) a_y cI y)) (b := o_b) (As := [.int x2, .int 0, .int x_4]) (rest := [.int r_19]) ⟨hx, hb, hml, hown, hts⟩ (mt_X4_askAnew3 l dC dI cI cZ cR cW xs _ o_b a_b a_y b_20 y x2 0 x_4 r_21 b_22 hc_231) (cwV 3 hts gX4_runBody_X4_askAnew rfl rfl rfl (by decide +kernel) ⟨Nat.le_of_ble_eq_true rfl, Nat.le_of_ble_eq_true rfl⟩) hK hE hP hD hS hA ⟨rfl, rfl, rfl, rfl, rfl, rfl, rfl⟩ 4 0 rfl rfl rfl hl rfl rfl (Nat.le_of_ble_eq_true rfl) ⟨Nat.le_of_ble_eq_true rfl, Nat.le_of_ble_eq_true rfl⟩ dX4_runBody_231 (fun H locs hP hD hS => ?_)
      refine W.widen (k := 0) (n := 0) (Nat.le_refl _) (Nat.le_refl _) ?_
      refine lv_isub hx hb dX4_runBody_234 ?_
      obtain ⟨e1, e2⟩ := ob_pp hd
      subst e1
      subst e2
      exact ob_iret hx hb hr hlocks hP hD hS dX4_runBody_235
    replace hd := ob_f c23_41 hd
    by_cases c24_41 : x1 = 24
    · replace hd := ob_t c24_41 hd
      refine lv_tableIn (off := 195) (tgt := 236) hx hb dX4_runBody_41 (by rw [c24_41]; decide) (by rw [c24_41]; decide) (by rw [c24_41]; decide) (by decide) ?_
      refine lv_iconst (v := 2) hx hb dX4_runBody_236 (by decide) ?_
      refine lv_aload_n hx hb dX4_runBody_237 rfl (lv_at hl 1 rfl) ?_
      refine lv_bipush (v := 21) hx hb dX4_runBody_238 (by decide) ?_
      refine lv_iload_n hx hb dX4_runBody_240 rfl (lv_at hl 3 rfl) ?_
      refine lv_iload hx hb dX4_runBody_241 (lv_at hl 0 rfl) ?_
      obtain ⟨r_23, b_24, hc_243, hd⟩ := ob_s2 hd
      refine ob_Vi (isC := [0, 1, 2, 3, 4, 5, 6, 7]) (isR := []) (is2 := [0, 1, 2, 3, 4, 5, 6, 7]) (wc := (ob_w4 o_b a_b cI b ++ ob_w1 (a_b 2) a_y cI y)) (wr := ([] : va_W)) (w1 := (ob_w4 o_b a_b cI b_24 ++ ob_w1 (a_b 2) a_y cI y)) (w2 := (ob_w4 o_b a_b cI b_24 ++ ob_w1 (a_b 2) a_y cI y)) (b := o_b) (As := [.int 21, .int x2, .int x_4]) (rest := [.int 2]) ⟨hx, hb, hml, hown, hts⟩ (mt_X4_runBody3 l dC dI cI cZ cR cW xs _ o_b a_b a_y b y 21 x2 x_4 r_23 b_24 hc_243) (cwV 3 hts gX4_runBody_X4_runBody rfl rfl rfl (by decide +kernel) ⟨Nat.le_of_ble_eq_true rfl, Nat.le_of_ble_eq_true rfl⟩) hK hE hP hD hS hA ⟨rfl, rfl, rfl, rfl, rfl, rfl, rfl⟩ 4 0 rfl rfl rfl hl rfl rfl (Nat.le_of_ble_eq_true rfl) ⟨Nat.le_of_ble_eq_true rfl, Nat.le_of_ble_eq_true rfl⟩ dX4_runBody_243 (fun H locs hP hD hS => ?_)
      refine W.widen (k := 0) (n := 0) (Nat.le_refl _) (Nat.le_refl _) ?_
      refine lv_imul hx hb dX4_runBody_246 ?_
      obtain ⟨e1, e2⟩ := ob_pp hd
      subst e1
      subst e2
      exact ob_iret hx hb hr hlocks hP hD hS dX4_runBody_247
    replace hd := ob_f c24_41 hd
    refine lv_tableOut (tgt := 248) hx hb dX4_runBody_41 (by have n10 := lv_neT c10_41 (show (10 : Int32).toInt = 10 from rfl); have n11 := lv_neT c11_41 (show (11 : Int32).toInt = 11 from rfl); have n12 := lv_neT c12_41 (show (12 : Int32).toInt = 12 from rfl); have n13 := lv_neT c13_41 (show (13 : Int32).toInt = 13 from rfl); have n14 := lv_neT c14_41 (show (14 : Int32).toInt = 14 from rfl); have n15 := lv_neT c15_41 (show (15 : Int32).toInt = 15 from rfl); have n16 := lv_neT c16_41 (show (16 : Int32).toInt = 16 from rfl); have n17 := lv_neT c17_41 (show (17 : Int32).toInt = 17 from rfl); have n18 := lv_neT c18_41 (show (18 : Int32).toInt = 18 from rfl); have n19 := lv_neT c19_41 (show (19 : Int32).toInt = 19 from rfl); have n20 := lv_neT c20_41 (show (20 : Int32).toInt = 20 from rfl); have n21 := lv_neT c21_41 (show (21 : Int32).toInt = 21 from rfl); have n22 := lv_neT c22_41 (show (22 : Int32).toInt = 22 from rfl); have n23 := lv_neT c23_41 (show (23 : Int32).toInt = 23 from rfl); have n24 := lv_neT c24_41 (show (24 : Int32).toInt = 24 from rfl); omega) (by decide) ?_
    refine lv_ldc hx hb hown kw2 dX4_runBody_248 ?_
    obtain ⟨e1, e2⟩ := ob_pp hd
    subst e1
    subst e2
    exact ob_iret hx hb hr hlocks hP hD hS dX4_runBody_250
  refine lv_iload_n hx hb dX4_runBody_0 rfl (lv_at hl 3 rfl) ?_
  refine lv_bipush (v := 12) hx hb dX4_runBody_1 (by decide) ?_
  refine lv_icmp_le (tgt := 9) hx hb dX4_runBody_3 (by decide) (fun c_3 => ?_) (fun c_3 => ?_)
  · replace hd := ob_t c_3 hd
    refine lv_aload_n hx hb dX4_runBody_9 rfl (lv_at hl 0 rfl) ?_
    refine va_get (D := (dC, dI)) (ci := 4) (v := .int (b.1 7)) (C := RX4) (T := TX4) (N := 10) hx hb hts hi_X4 hown hK hP 0 rfl rfl 7 (by decide) kw0 (fun _ h9 => h9) rfl dX4_runBody_10 ?_
    refine lv_bipush (v := 16) hx hb dX4_runBody_13 (by decide) ?_
    refine lv_icmp_ge (tgt := 35) hx hb dX4_runBody_15 (by decide) (fun c_15 => ?_) (fun c_15 => ?_)
    · replace hd := ob_t c_15 hd
      exact L35   _ _ b _ hP hD hS (lv_sub hl [0, 1, 2, 3] rfl) hd
    · replace hd := ob_f c_15 hd
      refine lv_aload_n hx hb dX4_runBody_18 rfl (lv_at hl 0 rfl) ?_
      refine va_get (D := (dC, dI)) (ci := 4) (v := .ref (a_b 6)) (C := RX4) (T := TX4) (N := 10) hx hb hts hi_X4 hown hK hP 0 rfl rfl 6 (by decide) kw1 (fun _ h9 => h9) rfl dX4_runBody_19 ?_
      refine lv_aload_n hx hb dX4_runBody_22 rfl (lv_at hl 0 rfl) ?_
      refine lv_dup hx hb dX4_runBody_23 rfl ?_
      refine va_get (D := (dC, dI)) (ci := 4) (v := .int (b.1 7)) (C := RX4) (T := TX4) (N := 10) hx hb hts hi_X4 hown hK hP 0 rfl rfl 7 (by decide) kw0 (fun _ h9 => h9) rfl dX4_runBody_24 ?_
      refine lv_dup_x1 hx hb dX4_runBody_27 rfl rfl ?_
      refine lv_iconst (v := 1) hx hb dX4_runBody_28 (by decide) ?_
      refine lv_iadd hx hb dX4_runBody_29 ?_
      refine lv_topi (fun x_1 ex_1 => ?_)
      replace hd := ob_lx ex_1 hd
      clear ex_1
      refine va_put (D := (dC, dI)) (ci := 4) (v := .int x_1) (ty := .int) (C := RX4) (T := TX4) (N := 10) hx hb hts hi_X4 tyX4 tyX4_ok nmX4 hown hK hP hD hS 0 rfl rfl 7 (by decide) kw0 (fun _ h9 => h9) rfl (by decide +kernel) rfl rfl (Nat.le_of_ble_eq_true rfl) dX4_runBody_30 (fun H locs hP hD hS => ?_)
      obtain ⟨b_2, eb_2⟩ : ∃ z : ob_B, z = ob_I b 7 x_1 := ⟨_, rfl⟩
      replace hd := ob_lx eb_2 hd
      replace hP : va_P (dC, dI) vwCl (ob_w4 o_b a_b cI b_2 ++ ob_w1 (a_b 2) a_y cI y) H := by rw [eb_2]; exact hP
      replace hD : va_D A (ob_w4 o_b a_b cI b_2 ++ ob_w1 (a_b 2) a_y cI y) := by rw [eb_2]; exact hD
      clear eb_2
      refine lv_iload_n hx hb dX4_runBody_33 rfl (lv_at hl 1 rfl) ?_
      obtain ⟨h1_34, hd⟩ := ob_nn hd
      refine va_iast hx hb hK hP hD hS 1 0 rfl rfl h1_34 dX4_runBody_34 (fun H locs hP hD hS => ?_)
      obtain ⟨b_3, eb_3⟩ : ∃ z : ob_B, z = ob_A b_2 6 (upd (b_2.2 6) (Int32.toNatClampNeg (b.1 7)) x1) := ⟨_, rfl⟩
      replace hd := ob_lx eb_3 hd
      replace hP : va_P (dC, dI) vwCl (ob_w4 o_b a_b cI b_3 ++ ob_w1 (a_b 2) a_y cI y) H := by rw [eb_3]; exact hP
      replace hD : va_D A (ob_w4 o_b a_b cI b_3 ++ ob_w1 (a_b 2) a_y cI y) := by rw [eb_3]; exact hD
      clear eb_3
      exact L35   _ _ b_3 _ hP hD hS (lv_sub hl [0, 1, 2, 3] rfl) hd
  · replace hd := ob_f c_3 hd
    refine lv_ldc hx hb hown kw2 dX4_runBody_6 ?_
    obtain ⟨e1, e2⟩ := ob_pp hd
    subst e1
    subst e2
    exact ob_iret hx hb hr hlocks hP hD hS dX4_runBody_8

def fd_X4_askAnew4_L49  (b : ob_B) (y : ob_B) (x1 : Int32) (x2 : Int32) (x3 : Int32) (z4 : Int32) : Option (Int32 × ob_B) := ob_b1 (fd_X4_toldBody z4 x2) (fun r_5 => ob_b2 (fd_X4_runBody4 b y r_5 x1 x3) (fun r_6 b_7 => some (r_6, b_7)))
def fd_X4_askAnew4_L14  : Nat → ob_B → ob_B → Int32 → Int32 → Int32 → Int32 → Int32 → Option (Int32 × ob_B)
  | 0, _, _, _, _, _, _, _ => none
  | fu + 1, b, y, x1, x2, x3, z4, z5 => if 6 ≤ z5 then (fd_X4_askAnew4_L49 b y x1 x2 x3 z4) else (if z4 ≤ 0 then (fd_X4_askAnew4_L49 b y x1 x2 x3 z4) else (ob_b1 (fd_X4_toldBody z4 x2) (fun r_2 => if r_2 = 0 then (if z4 < 0 ∨ 6 ≤ Int32.toNatClampNeg z4 then none else (ob_lt (([0, 0, 1, 1, 0, 4] : List Int32).getD (Int32.toNatClampNeg z4) 0 : Int32) (fun x_3 => ob_lt (z5 + 1 : Int32) (fun x_4 => fd_X4_askAnew4_L14 fu b y x1 x2 x3 x_3 x_4)))) else (fd_X4_askAnew4_L49 b y x1 x2 x3 z4))))
def fd_X4_askAnew4  (b : ob_B) (y : ob_B) (x1 : Int32) (x2 : Int32) (x3 : Int32) : Option (Int32 × ob_B) := if x1 < 0 ∨ 7 ≤ Int32.toNatClampNeg x1 then none else (ob_lt ((y.2 7) (Int32.toNatClampNeg x1) : Int32) (fun x_1 => fd_X4_askAnew4_L14 2000 b y x1 x2 x3 x_1 0))
set_option maxHeartbeats 4000000 in
set_option maxRecDepth 100000 in
theorem mt_X4_askAnew4 (l : Launch) (dC : Nat → ClassId) (dI : Nat → Nat → Nat) (cI cZ cR cW : ClassId) (xs : Nat → Nat) (sz : Nat) (o_b : Nat) (a_b : Nat → Nat) (a_y : Nat → Nat) (b : ob_B) (y : ob_B) (x1 : Int32) (x2 : Int32) (x3 : Int32)  (rr : Int32) (b' : ob_B) (hd : fd_X4_askAnew4 b y x1 x2 x3 = some (rr, b')) : ob_M l yX4_askAnew wsX4_askAnew ({ frames := 9, cells := 0, slots := 0, locals := 220 } : Room) (dC, dI) (ob_ty cI cZ cR cW) xs [.ref o_b, .int x1, .int x2, .int x3] (ob_w4 o_b a_b cI b ++ ob_w1 (a_b 2) a_y cI y) sz (ob_Qi (dC, dI) rr (ob_w4 o_b a_b cI b' ++ ob_w1 (a_b 2) a_y cI y)) := by
  rw [fd_X4_askAnew4] at hd
  refine ob_in (cc := cX4_askAnew) (maxL := 6) (ret := (some .int)) (own := RX4) (by decide) rfl rfl [(0, .ref o_b), (1, .int x1), (2, .int x2), (3, .int x3)] rfl (Nat.le_of_ble_eq_true rfl) ?_
  intro p e s m below meth c hx hb hr hml hown hts hlocks hnm hK A hA hE hP hD hS ls hl
  have kw0 := hts (.fieldLink RX4 25 "OathCoach" "route" "LOathCoach$Route;") (by decide +kernel)
  have kw1 := hts (.fieldLink RX4 213 "OathCoach$Route" "kind" "[I") (by decide +kernel)
  have kw2 := hts (.fieldLink RX4 245 "OathCoach" "KIND_ABOVE" "[I") (by decide +kernel)
  have hi_X1 : ∀ w ∈ u_ws RX1 TX1 12, w ∈ wsX4_askAnew := by decide +kernel
  have hi_X4 : ∀ w ∈ u_ws RX4 TX4 10, w ∈ wsX4_askAnew := by decide +kernel
  obtain ⟨hE1, hE2, hE3, hE4, hE5, hE6, hE7, hE8, hE9, -⟩ := id hE
  have hET : va_T .byte (xs 4) 5 (fun j => .int (([111, 109, 108, 102, 118] : List Int32).getD j 0)) A s s.heap := (hE8.1 0 (by decide)).2.2.2
  have L49 : ∀ (H : Heap) (locs : List Loc) (b : ob_B) (z4 : Int32) (ls : Array Slot), va_P (dC, dI) vwCl (ob_w4 o_b a_b cI b ++ ob_w1 (a_b 2) a_y cI y) H → va_D A (ob_w4 o_b a_b cI b ++ ob_w1 (a_b 2) a_y cI y) → va_S A s.heap H locs → lv_has ls 6 [(0, .ref o_b), (1, .int x1), (2, .int x2), (3, .int x3), (4, .int z4)] → fd_X4_askAnew4_L49 b y x1 x2 x3 z4 = some (rr, b') → W p l e ({ frames := 9, cells := 0, slots := 0, locals := 220 } : Room) s m (List.toArray [.ref o_b, .int x1, .int x2, .int x3]) below meth c H locs 0 0 (MQ below ((ob_Qi (dC, dI) rr (ob_w4 o_b a_b cI b' ++ ob_w1 (a_b 2) a_y cI y)) A) (List.toArray [.ref o_b, .int x1, .int x2, .int x3]) s 0 0 A) (F0 m 49 ls []) := by
    intro  H locs b z4 ls hP hD hS hl hd
    rw [fd_X4_askAnew4_L49] at hd
    refine lv_aload_n hx hb dX4_askAnew_49 rfl (lv_at hl 0 rfl) ?_
    refine lv_iload hx hb dX4_askAnew_50 (lv_at hl 4 rfl) ?_
    refine lv_iload_n hx hb dX4_askAnew_52 rfl (lv_at hl 2 rfl) ?_
    obtain ⟨r_5, hc_53, hd⟩ := ob_s1 hd
    refine ob_Si (isC := []) (isR := [0, 1, 2, 3, 4, 5, 6, 7]) (is2 := [0, 1, 2, 3, 4, 5, 6, 7]) (wc := ([] : va_W)) (wr := (List.filterMap (fun i => (ob_w4 o_b a_b cI b ++ ob_w1 (a_b 2) a_y cI y)[i]?) [0, 1, 2, 3, 4, 5, 6, 7])) (w1 := ([] : va_W)) (w2 := (ob_w4 o_b a_b cI b ++ ob_w1 (a_b 2) a_y cI y)) (As := [.int z4, .int x2]) (rest := [.ref o_b]) ⟨hx, hb, hml, hown, hts⟩ (mt_X4_toldBody l dC dI cI cZ cR cW xs _ z4 x2 r_5 hc_53) (va_cwS 2 hts gX4_askAnew_X4_toldBody rfl rfl rfl (by decide +kernel) ⟨Nat.le_of_ble_eq_true rfl, Nat.le_of_ble_eq_true rfl⟩) hK hE hP hD hS hA ⟨rfl, rfl, rfl, rfl, rfl, rfl, rfl⟩ hl rfl rfl (Nat.le_of_ble_eq_true rfl) ⟨Nat.le_of_ble_eq_true rfl, Nat.le_of_ble_eq_true rfl⟩ dX4_askAnew_53 (fun H locs hP hD hS => ?_)
    refine W.widen (k := 0) (n := 0) (Nat.le_refl _) (Nat.le_refl _) ?_
    refine lv_iload_n hx hb dX4_askAnew_56 rfl (lv_at hl 1 rfl) ?_
    refine lv_iload_n hx hb dX4_askAnew_57 rfl (lv_at hl 3 rfl) ?_
    obtain ⟨r_6, b_7, hc_58, hd⟩ := ob_s2 hd
    refine ob_Vi (isC := [0, 1, 2, 3, 4, 5, 6, 7]) (isR := []) (is2 := [0, 1, 2, 3, 4, 5, 6, 7]) (wc := (ob_w4 o_b a_b cI b ++ ob_w1 (a_b 2) a_y cI y)) (wr := ([] : va_W)) (w1 := (ob_w4 o_b a_b cI b_7 ++ ob_w1 (a_b 2) a_y cI y)) (w2 := (ob_w4 o_b a_b cI b_7 ++ ob_w1 (a_b 2) a_y cI y)) (b := o_b) (As := [.int r_5, .int x1, .int x3]) (rest := []) ⟨hx, hb, hml, hown, hts⟩ (mt_X4_runBody4 l dC dI cI cZ cR cW xs _ o_b a_b a_y b y r_5 x1 x3 r_6 b_7 hc_58) (cwV 3 hts gX4_askAnew_X4_runBody rfl rfl rfl (by decide +kernel) ⟨Nat.le_of_ble_eq_true rfl, Nat.le_of_ble_eq_true rfl⟩) hK hE hP hD hS hA ⟨rfl, rfl, rfl, rfl, rfl, rfl, rfl⟩ 4 0 rfl rfl rfl hl rfl rfl (Nat.le_of_ble_eq_true rfl) ⟨Nat.le_of_ble_eq_true rfl, Nat.le_of_ble_eq_true rfl⟩ dX4_askAnew_58 (fun H locs hP hD hS => ?_)
    refine W.widen (k := 0) (n := 0) (Nat.le_refl _) (Nat.le_refl _) ?_
    obtain ⟨e1, e2⟩ := ob_pp hd
    subst e1
    subst e2
    exact ob_iret hx hb hr hlocks hP hD hS dX4_askAnew_61
  have L14 : ∀  (fu : Nat), ∀ (H : Heap) (locs : List Loc) (b : ob_B) (z4 : Int32) (z5 : Int32) (ls : Array Slot), va_P (dC, dI) vwCl (ob_w4 o_b a_b cI b ++ ob_w1 (a_b 2) a_y cI y) H → va_D A (ob_w4 o_b a_b cI b ++ ob_w1 (a_b 2) a_y cI y) → va_S A s.heap H locs → lv_has ls 6 [(0, .ref o_b), (1, .int x1), (2, .int x2), (3, .int x3), (4, .int z4), (5, .int z5)] → fd_X4_askAnew4_L14 fu b y x1 x2 x3 z4 z5 = some (rr, b') → W p l e ({ frames := 9, cells := 0, slots := 0, locals := 220 } : Room) s m (List.toArray [.ref o_b, .int x1, .int x2, .int x3]) below meth c H locs 0 0 (MQ below ((ob_Qi (dC, dI) rr (ob_w4 o_b a_b cI b' ++ ob_w1 (a_b 2) a_y cI y)) A) (List.toArray [.ref o_b, .int x1, .int x2, .int x3]) s 0 0 A) (F0 m 14 ls []) := by
    intro  fu
    induction fu with
    | zero =>
      intro H locs b z4 z5 ls hP hD hS hl hd
      rw [fd_X4_askAnew4_L14] at hd
      cases hd
    | succ fu ih =>
      intro H locs b z4 z5 ls hP hD hS hl hd
      rw [fd_X4_askAnew4_L14] at hd
      refine lv_iload hx hb dX4_askAnew_14 (lv_at hl 5 rfl) ?_
      refine lv_bipush (v := 6) hx hb dX4_askAnew_16 (by decide) ?_
      refine lv_icmp_ge (tgt := 49) hx hb dX4_askAnew_18 (by decide) (fun c_18 => ?_) (fun c_18 => ?_)
      · replace hd := ob_t c_18 hd
        exact L49   _ _ b z4 _ hP hD hS (lv_sub hl [0, 1, 2, 3, 4] rfl) hd
      · replace hd := ob_f c_18 hd
        refine lv_iload hx hb dX4_askAnew_21 (lv_at hl 4 rfl) ?_
        refine lv_if_le (tgt := 49) hx hb dX4_askAnew_23 (by decide) (fun c_23 => ?_) (fun c_23 => ?_)
        · replace hd := ob_t c_23 hd
          exact L49   _ _ b z4 _ hP hD hS (lv_sub hl [0, 1, 2, 3, 4] rfl) hd
        · replace hd := ob_f c_23 hd
          refine lv_iload hx hb dX4_askAnew_26 (lv_at hl 4 rfl) ?_
          refine lv_iload_n hx hb dX4_askAnew_28 rfl (lv_at hl 2 rfl) ?_
          obtain ⟨r_2, hc_29, hd⟩ := ob_s1 hd
          refine ob_Si (isC := []) (isR := [0, 1, 2, 3, 4, 5, 6, 7]) (is2 := [0, 1, 2, 3, 4, 5, 6, 7]) (wc := ([] : va_W)) (wr := (List.filterMap (fun i => (ob_w4 o_b a_b cI b ++ ob_w1 (a_b 2) a_y cI y)[i]?) [0, 1, 2, 3, 4, 5, 6, 7])) (w1 := ([] : va_W)) (w2 := (ob_w4 o_b a_b cI b ++ ob_w1 (a_b 2) a_y cI y)) (As := [.int z4, .int x2]) (rest := []) ⟨hx, hb, hml, hown, hts⟩ (mt_X4_toldBody l dC dI cI cZ cR cW xs _ z4 x2 r_2 hc_29) (va_cwS 2 hts gX4_askAnew_X4_toldBody rfl rfl rfl (by decide +kernel) ⟨Nat.le_of_ble_eq_true rfl, Nat.le_of_ble_eq_true rfl⟩) hK hE hP hD hS hA ⟨rfl, rfl, rfl, rfl, rfl, rfl, rfl⟩ hl rfl rfl (Nat.le_of_ble_eq_true rfl) ⟨Nat.le_of_ble_eq_true rfl, Nat.le_of_ble_eq_true rfl⟩ dX4_askAnew_29 (fun H locs hP hD hS => ?_)
          refine W.widen (k := 0) (n := 0) (Nat.le_refl _) (Nat.le_refl _) ?_
          refine lv_if_ne (tgt := 49) hx hb dX4_askAnew_32 (by decide) (fun c_32 => ?_) (fun c_32 => ?_)
          · replace hd := ob_f c_32 hd
            exact L49   _ _ b z4 _ hP hD hS (lv_sub hl [0, 1, 2, 3, 4] rfl) hd
          · replace hd := ob_t c_32 hd
            refine va_gets hx hb hE1 hS hown kw2 (fun _ h9 => h9) dX4_askAnew_35 ?_
            refine lv_iload hx hb dX4_askAnew_38 (lv_at hl 4 rfl) ?_
            obtain ⟨h1_40, hd⟩ := ob_nn hd
            refine va_ti hx hb hE2 hS h1_40 rfl dX4_askAnew_40 ?_
            refine lv_topi (fun x_3 ex_3 => ?_)
            replace hd := ob_lx ex_3 hd
            clear ex_3
            refine lv_istore (lv' := [(4, .int x_3), (0, .ref o_b), (1, .int x1), (2, .int x2), (3, .int x3), (5, .int z5)]) hx hb dX4_askAnew_41 hl (by decide) rfl (fun ls hl => ?_)
            obtain ⟨x_4, ex_4⟩ : ∃ z : Int32, z = z5 + 1 := ⟨_, rfl⟩
            replace hd := ob_lx ex_4 hd
            refine lv_iinc (v := x_4) (lv' := [(5, .int x_4), (4, .int x_3), (0, .ref o_b), (1, .int x1), (2, .int x2), (3, .int x3)]) hx hb dX4_askAnew_43 hl (k := 5) rfl (by rw [ex_4]; rfl) (by decide) rfl (fun ls hl => ?_)
            clear ex_4
            refine lv_goto (tgt := 14) hx hb dX4_askAnew_46 (by decide) ?_
            exact ih _ _ b x_3 x_4 _ hP hD hS (lv_sub hl [2, 3, 4, 5, 1, 0] rfl) hd
  refine lv_aload_n hx hb dX4_askAnew_0 rfl (lv_at hl 0 rfl) ?_
  refine va_get (D := (dC, dI)) (ci := 4) (v := .ref (a_b 2)) (C := RX4) (T := TX4) (N := 10) hx hb hts hi_X4 hown hK hP 0 rfl rfl 2 (by decide) kw0 (fun _ h9 => h9) rfl dX4_askAnew_1 ?_
  refine va_get (D := (dC, dI)) (ci := 1) (v := .ref (a_y 7)) (C := RX1) (T := TX1) (N := 12) hx hb hts hi_X1 hown hK hP 2 rfl rfl 7 (by decide) kw1 (fun _ h9 => h9) rfl dX4_askAnew_4 ?_
  refine lv_iload_n hx hb dX4_askAnew_7 rfl (lv_at hl 1 rfl) ?_
  obtain ⟨h1_8, hd⟩ := ob_nn hd
  refine va_iald hx hb hK hP 3 0 rfl rfl h1_8 dX4_askAnew_8 ?_
  refine lv_topi (fun x_1 ex_1 => ?_)
  replace hd := ob_lx ex_1 hd
  clear ex_1
  refine lv_istore (lv' := [(4, .int x_1), (0, .ref o_b), (1, .int x1), (2, .int x2), (3, .int x3)]) hx hb dX4_askAnew_9 hl (by decide) rfl (fun ls hl => ?_)
  refine lv_iconst (v := 0) hx hb dX4_askAnew_11 (by decide) ?_
  refine lv_istore (lv' := [(5, .int 0), (4, .int x_1), (0, .ref o_b), (1, .int x1), (2, .int x2), (3, .int x3)]) hx hb dX4_askAnew_12 hl (by decide) rfl (fun ls hl => ?_)
  exact L14  2000 _ _ b x_1 0 _ hP hD hS (lv_sub hl [2, 3, 4, 5, 1, 0] rfl) hd

def fd_X4_runBody5_L35  (b : ob_B) (y : ob_B) (x1 : Int32) (x2 : Int32) (x3 : Int32) : Option (Int32 × ob_B) := ob_lt (x3 + 1 : Int32) (fun x_4 => if x1 = 10 then (if x2 < 0 ∨ 7 ≤ Int32.toNatClampNeg x2 then none else (some ((y.2 9) (Int32.toNatClampNeg x2), b))) else (if x1 = 11 then (ob_b2 (fd_X4_runBody4 b y 10 x2 x_4) (fun r_5 b_6 => ob_b2 (fd_X4_askAnew4 b_6 y x2 1 x_4) (fun r_7 b_8 => some (r_5 + r_7, b_8)))) else (if x1 = 12 then (ob_b2 (fd_X4_runBody4 b y 11 x2 x_4) (fun r_9 b_10 => some (-r_9, b_10))) else (if x1 = 13 then (ob_b2 (fd_X4_runBody4 b y 10 x2 x_4) (fun r_11 b_12 => some (r_11 - 100, b_12))) else (if x1 = 14 then (ob_b2 (fd_X4_runBody4 b y 13 x2 x_4) (fun r_13 b_14 => some (2 * r_13, b_14))) else (if x1 = 15 then (some ((-1000001), b)) else (if x1 = 16 then (some ((-1000001), b)) else (if x1 = 17 then (some ((-1000001), b)) else (if x1 = 18 then (some ((-1000001), b)) else (if x1 = 19 then (some ((-1000001), b)) else (if x1 = 20 then (some (x2, b)) else (if x1 = 21 then (ob_b2 (fd_X4_runBody4 b y 20 x2 x_4) (fun r_15 b_16 => if x2 < 0 ∨ 7 ≤ Int32.toNatClampNeg x2 then none else (some (r_15 + ((y.2 8) (Int32.toNatClampNeg x2)), b_16)))) else (if x1 = 22 then (ob_b2 (fd_X4_runBody4 b y 21 x2 x_4) (fun r_17 b_18 => some (r_17 - 1000, b_18))) else (if x1 = 23 then (ob_b2 (fd_X4_runBody4 b y 20 x2 x_4) (fun r_19 b_20 => ob_b2 (fd_X4_askAnew4 b_20 y x2 0 x_4) (fun r_21 b_22 => some (r_19 - r_21, b_22)))) else (if x1 = 24 then (ob_b2 (fd_X4_runBody4 b y 21 x2 x_4) (fun r_23 b_24 => some (2 * r_23, b_24))) else (some ((-1000001), b)))))))))))))))))
def fd_X4_runBody5  (b : ob_B) (y : ob_B) (x1 : Int32) (x2 : Int32) (x3 : Int32) : Option (Int32 × ob_B) := if x3 ≤ 12 then (if 16 ≤ (b.1 7) then (fd_X4_runBody5_L35 b y x1 x2 x3) else (ob_lt ((b.1 7) + 1 : Int32) (fun x_1 => ob_lt (ob_I b 7 x_1 : ob_B) (fun b_2 => if (b.1 7) < 0 ∨ 16 ≤ Int32.toNatClampNeg (b.1 7) then none else (ob_lt (ob_A b_2 6 (upd (b_2.2 6) (Int32.toNatClampNeg (b.1 7)) x1) : ob_B) (fun b_3 => fd_X4_runBody5_L35 b_3 y x1 x2 x3)))))) else (some ((-1000001), b))
set_option maxHeartbeats 4000000 in
set_option maxRecDepth 100000 in
theorem mt_X4_runBody5 (l : Launch) (dC : Nat → ClassId) (dI : Nat → Nat → Nat) (cI cZ cR cW : ClassId) (xs : Nat → Nat) (sz : Nat) (o_b : Nat) (a_b : Nat → Nat) (a_y : Nat → Nat) (b : ob_B) (y : ob_B) (x1 : Int32) (x2 : Int32) (x3 : Int32)  (rr : Int32) (b' : ob_B) (hd : fd_X4_runBody5 b y x1 x2 x3 = some (rr, b')) : ob_M l yX4_runBody wsX4_runBody ({ frames := 10, cells := 0, slots := 0, locals := 245 } : Room) (dC, dI) (ob_ty cI cZ cR cW) xs [.ref o_b, .int x1, .int x2, .int x3] (ob_w4 o_b a_b cI b ++ ob_w1 (a_b 2) a_y cI y) sz (ob_Qi (dC, dI) rr (ob_w4 o_b a_b cI b' ++ ob_w1 (a_b 2) a_y cI y)) := by
  rw [fd_X4_runBody5] at hd
  refine ob_in (cc := cX4_runBody) (maxL := 5) (ret := (some .int)) (own := RX4) (by decide) rfl rfl [(0, .ref o_b), (1, .int x1), (2, .int x2), (3, .int x3)] rfl (Nat.le_of_ble_eq_true rfl) ?_
  intro p e s m below meth c hx hb hr hml hown hts hlocks hnm hK A hA hE hP hD hS ls hl
  have kw0 := hts (.fieldLink RX4 47 "OathCoach" "tracedCount" "I") (by decide +kernel)
  have kw1 := hts (.fieldLink RX4 43 "OathCoach" "traced" "[I") (by decide +kernel)
  have kw2 := hts (.constant RX4 62 (-1000001)) (by decide +kernel)
  have kw3 := hts (.fieldLink RX4 25 "OathCoach" "route" "LOathCoach$Route;") (by decide +kernel)
  have kw4 := hts (.fieldLink RX4 186 "OathCoach$Route" "weight" "[I") (by decide +kernel)
  have kw5 := hts (.fieldLink RX4 183 "OathCoach$Route" "place" "[I") (by decide +kernel)
  have hi_X1 : ∀ w ∈ u_ws RX1 TX1 12, w ∈ wsX4_runBody := by decide +kernel
  have hi_X4 : ∀ w ∈ u_ws RX4 TX4 10, w ∈ wsX4_runBody := by decide +kernel
  have L35 : ∀ (H : Heap) (locs : List Loc) (b : ob_B)  (ls : Array Slot), va_P (dC, dI) vwCl (ob_w4 o_b a_b cI b ++ ob_w1 (a_b 2) a_y cI y) H → va_D A (ob_w4 o_b a_b cI b ++ ob_w1 (a_b 2) a_y cI y) → va_S A s.heap H locs → lv_has ls 5 [(0, .ref o_b), (1, .int x1), (2, .int x2), (3, .int x3)] → fd_X4_runBody5_L35 b y x1 x2 x3 = some (rr, b') → W p l e ({ frames := 10, cells := 0, slots := 0, locals := 245 } : Room) s m (List.toArray [.ref o_b, .int x1, .int x2, .int x3]) below meth c H locs 0 0 (MQ below ((ob_Qi (dC, dI) rr (ob_w4 o_b a_b cI b' ++ ob_w1 (a_b 2) a_y cI y)) A) (List.toArray [.ref o_b, .int x1, .int x2, .int x3]) s 0 0 A) (F0 m 35 ls []) := by
    intro  H locs b ls hP hD hS hl hd
    rw [fd_X4_runBody5_L35] at hd
    refine lv_iload_n hx hb dX4_runBody_35 rfl (lv_at hl 3 rfl) ?_
    refine lv_iconst (v := 1) hx hb dX4_runBody_36 (by decide) ?_
    refine lv_iadd hx hb dX4_runBody_37 ?_
    refine lv_topi (fun x_4 ex_4 => ?_)
    replace hd := ob_lx ex_4 hd
    clear ex_4
    refine lv_istore (lv' := [(4, .int x_4), (0, .ref o_b), (1, .int x1), (2, .int x2), (3, .int x3)]) hx hb dX4_runBody_38 hl (by decide) rfl (fun ls hl => ?_)
    refine lv_iload_n hx hb dX4_runBody_40 rfl (lv_at hl 2 rfl) ?_
    by_cases c10_41 : x1 = 10
    · replace hd := ob_t c10_41 hd
      refine lv_tableIn (off := 75) (tgt := 116) hx hb dX4_runBody_41 (by rw [c10_41]; decide) (by rw [c10_41]; decide) (by rw [c10_41]; decide) (by decide) ?_
      refine lv_aload_n hx hb dX4_runBody_116 rfl (lv_at hl 1 rfl) ?_
      refine va_get (D := (dC, dI)) (ci := 4) (v := .ref (a_b 2)) (C := RX4) (T := TX4) (N := 10) hx hb hts hi_X4 hown hK hP 0 rfl rfl 2 (by decide) kw3 (fun _ h9 => h9) rfl dX4_runBody_117 ?_
      refine va_get (D := (dC, dI)) (ci := 1) (v := .ref (a_y 9)) (C := RX1) (T := TX1) (N := 12) hx hb hts hi_X1 hown hK hP 2 rfl rfl 9 (by decide) kw4 (fun _ h9 => h9) rfl dX4_runBody_120 ?_
      refine lv_iload_n hx hb dX4_runBody_123 rfl (lv_at hl 3 rfl) ?_
      obtain ⟨h1_124, hd⟩ := ob_nn hd
      refine va_iald hx hb hK hP 5 0 rfl rfl h1_124 dX4_runBody_124 ?_
      obtain ⟨e1, e2⟩ := ob_pp hd
      subst e1
      subst e2
      exact ob_iret hx hb hr hlocks hP hD hS dX4_runBody_125
    replace hd := ob_f c10_41 hd
    by_cases c11_41 : x1 = 11
    · replace hd := ob_t c11_41 hd
      refine lv_tableIn (off := 85) (tgt := 126) hx hb dX4_runBody_41 (by rw [c11_41]; decide) (by rw [c11_41]; decide) (by rw [c11_41]; decide) (by decide) ?_
      refine lv_aload_n hx hb dX4_runBody_126 rfl (lv_at hl 1 rfl) ?_
      refine lv_bipush (v := 10) hx hb dX4_runBody_127 (by decide) ?_
      refine lv_iload_n hx hb dX4_runBody_129 rfl (lv_at hl 3 rfl) ?_
      refine lv_iload hx hb dX4_runBody_130 (lv_at hl 0 rfl) ?_
      obtain ⟨r_5, b_6, hc_132, hd⟩ := ob_s2 hd
      refine ob_Vi (isC := [0, 1, 2, 3, 4, 5, 6, 7]) (isR := []) (is2 := [0, 1, 2, 3, 4, 5, 6, 7]) (wc := (ob_w4 o_b a_b cI b ++ ob_w1 (a_b 2) a_y cI y)) (wr := ([] : va_W)) (w1 := (ob_w4 o_b a_b cI b_6 ++ ob_w1 (a_b 2) a_y cI y)) (w2 := (ob_w4 o_b a_b cI b_6 ++ ob_w1 (a_b 2) a_y cI y)) (b := o_b) (As := [.int 10, .int x2, .int x_4]) (rest := []) ⟨hx, hb, hml, hown, hts⟩ (mt_X4_runBody4 l dC dI cI cZ cR cW xs _ o_b a_b a_y b y 10 x2 x_4 r_5 b_6 hc_132) (cwV 3 hts gX4_runBody_X4_runBody rfl rfl rfl (by decide +kernel) ⟨Nat.le_of_ble_eq_true rfl, Nat.le_of_ble_eq_true rfl⟩) hK hE hP hD hS hA ⟨rfl, rfl, rfl, rfl, rfl, rfl, rfl⟩ 4 0 rfl rfl rfl hl rfl rfl (Nat.le_of_ble_eq_true rfl) ⟨Nat.le_of_ble_eq_true rfl, Nat.le_of_ble_eq_true rfl⟩ dX4_runBody_132 (fun H locs hP hD hS => ?_)
      refine W.widen (k := 0) (n := 0) (Nat.le_refl _) (Nat.le_refl _) ?_
      refine lv_aload_n hx hb dX4_runBody_135 rfl (lv_at hl 1 rfl) ?_
      refine lv_iload_n hx hb dX4_runBody_136 rfl (lv_at hl 3 rfl) ?_
      refine lv_iconst (v := 1) hx hb dX4_runBody_137 (by decide) ?_
      refine lv_iload hx hb dX4_runBody_138 (lv_at hl 0 rfl) ?_
      obtain ⟨r_7, b_8, hc_140, hd⟩ := ob_s2 hd
      refine ob_Vi (isC := [0, 1, 2, 3, 4, 5, 6, 7]) (isR := []) (is2 := [0, 1, 2, 3, 4, 5, 6, 7]) (wc := (ob_w4 o_b a_b cI b_6 ++ ob_w1 (a_b 2) a_y cI y)) (wr := ([] : va_W)) (w1 := (ob_w4 o_b a_b cI b_8 ++ ob_w1 (a_b 2) a_y cI y)) (w2 := (ob_w4 o_b a_b cI b_8 ++ ob_w1 (a_b 2) a_y cI y)) (b := o_b) (As := [.int x2, .int 1, .int x_4]) (rest := [.int r_5]) ⟨hx, hb, hml, hown, hts⟩ (mt_X4_askAnew4 l dC dI cI cZ cR cW xs _ o_b a_b a_y b_6 y x2 1 x_4 r_7 b_8 hc_140) (cwV 3 hts gX4_runBody_X4_askAnew rfl rfl rfl (by decide +kernel) ⟨Nat.le_of_ble_eq_true rfl, Nat.le_of_ble_eq_true rfl⟩) hK hE hP hD hS hA ⟨rfl, rfl, rfl, rfl, rfl, rfl, rfl⟩ 4 0 rfl rfl rfl hl rfl rfl (Nat.le_of_ble_eq_true rfl) ⟨Nat.le_of_ble_eq_true rfl, Nat.le_of_ble_eq_true rfl⟩ dX4_runBody_140 (fun H locs hP hD hS => ?_)
      refine W.widen (k := 0) (n := 0) (Nat.le_refl _) (Nat.le_refl _) ?_
      refine lv_iadd hx hb dX4_runBody_143 ?_
      obtain ⟨e1, e2⟩ := ob_pp hd
      subst e1
      subst e2
      exact ob_iret hx hb hr hlocks hP hD hS dX4_runBody_144
    replace hd := ob_f c11_41 hd
    by_cases c12_41 : x1 = 12
    · replace hd := ob_t c12_41 hd
      refine lv_tableIn (off := 104) (tgt := 145) hx hb dX4_runBody_41 (by rw [c12_41]; decide) (by rw [c12_41]; decide) (by rw [c12_41]; decide) (by decide) ?_
      refine lv_aload_n hx hb dX4_runBody_145 rfl (lv_at hl 1 rfl) ?_
      refine lv_bipush (v := 11) hx hb dX4_runBody_146 (by decide) ?_
      refine lv_iload_n hx hb dX4_runBody_148 rfl (lv_at hl 3 rfl) ?_
      refine lv_iload hx hb dX4_runBody_149 (lv_at hl 0 rfl) ?_
      obtain ⟨r_9, b_10, hc_151, hd⟩ := ob_s2 hd
      refine ob_Vi (isC := [0, 1, 2, 3, 4, 5, 6, 7]) (isR := []) (is2 := [0, 1, 2, 3, 4, 5, 6, 7]) (wc := (ob_w4 o_b a_b cI b ++ ob_w1 (a_b 2) a_y cI y)) (wr := ([] : va_W)) (w1 := (ob_w4 o_b a_b cI b_10 ++ ob_w1 (a_b 2) a_y cI y)) (w2 := (ob_w4 o_b a_b cI b_10 ++ ob_w1 (a_b 2) a_y cI y)) (b := o_b) (As := [.int 11, .int x2, .int x_4]) (rest := []) ⟨hx, hb, hml, hown, hts⟩ (mt_X4_runBody4 l dC dI cI cZ cR cW xs _ o_b a_b a_y b y 11 x2 x_4 r_9 b_10 hc_151) (cwV 3 hts gX4_runBody_X4_runBody rfl rfl rfl (by decide +kernel) ⟨Nat.le_of_ble_eq_true rfl, Nat.le_of_ble_eq_true rfl⟩) hK hE hP hD hS hA ⟨rfl, rfl, rfl, rfl, rfl, rfl, rfl⟩ 4 0 rfl rfl rfl hl rfl rfl (Nat.le_of_ble_eq_true rfl) ⟨Nat.le_of_ble_eq_true rfl, Nat.le_of_ble_eq_true rfl⟩ dX4_runBody_151 (fun H locs hP hD hS => ?_)
      refine W.widen (k := 0) (n := 0) (Nat.le_refl _) (Nat.le_refl _) ?_
      refine lv_ineg hx hb dX4_runBody_154 ?_
      obtain ⟨e1, e2⟩ := ob_pp hd
      subst e1
      subst e2
      exact ob_iret hx hb hr hlocks hP hD hS dX4_runBody_155
    replace hd := ob_f c12_41 hd
    by_cases c13_41 : x1 = 13
    · replace hd := ob_t c13_41 hd
      refine lv_tableIn (off := 115) (tgt := 156) hx hb dX4_runBody_41 (by rw [c13_41]; decide) (by rw [c13_41]; decide) (by rw [c13_41]; decide) (by decide) ?_
      refine lv_aload_n hx hb dX4_runBody_156 rfl (lv_at hl 1 rfl) ?_
      refine lv_bipush (v := 10) hx hb dX4_runBody_157 (by decide) ?_
      refine lv_iload_n hx hb dX4_runBody_159 rfl (lv_at hl 3 rfl) ?_
      refine lv_iload hx hb dX4_runBody_160 (lv_at hl 0 rfl) ?_
      obtain ⟨r_11, b_12, hc_162, hd⟩ := ob_s2 hd
      refine ob_Vi (isC := [0, 1, 2, 3, 4, 5, 6, 7]) (isR := []) (is2 := [0, 1, 2, 3, 4, 5, 6, 7]) (wc := (ob_w4 o_b a_b cI b ++ ob_w1 (a_b 2) a_y cI y)) (wr := ([] : va_W)) (w1 := (ob_w4 o_b a_b cI b_12 ++ ob_w1 (a_b 2) a_y cI y)) (w2 := (ob_w4 o_b a_b cI b_12 ++ ob_w1 (a_b 2) a_y cI y)) (b := o_b) (As := [.int 10, .int x2, .int x_4]) (rest := []) ⟨hx, hb, hml, hown, hts⟩ (mt_X4_runBody4 l dC dI cI cZ cR cW xs _ o_b a_b a_y b y 10 x2 x_4 r_11 b_12 hc_162) (cwV 3 hts gX4_runBody_X4_runBody rfl rfl rfl (by decide +kernel) ⟨Nat.le_of_ble_eq_true rfl, Nat.le_of_ble_eq_true rfl⟩) hK hE hP hD hS hA ⟨rfl, rfl, rfl, rfl, rfl, rfl, rfl⟩ 4 0 rfl rfl rfl hl rfl rfl (Nat.le_of_ble_eq_true rfl) ⟨Nat.le_of_ble_eq_true rfl, Nat.le_of_ble_eq_true rfl⟩ dX4_runBody_162 (fun H locs hP hD hS => ?_)
      refine W.widen (k := 0) (n := 0) (Nat.le_refl _) (Nat.le_refl _) ?_
      refine lv_bipush (v := 100) hx hb dX4_runBody_165 (by decide) ?_
      refine lv_isub hx hb dX4_runBody_167 ?_
      obtain ⟨e1, e2⟩ := ob_pp hd
      subst e1
      subst e2
      exact ob_iret hx hb hr hlocks hP hD hS dX4_runBody_168
    replace hd := ob_f c13_41 hd
    by_cases c14_41 : x1 = 14
    · replace hd := ob_t c14_41 hd
      refine lv_tableIn (off := 128) (tgt := 169) hx hb dX4_runBody_41 (by rw [c14_41]; decide) (by rw [c14_41]; decide) (by rw [c14_41]; decide) (by decide) ?_
      refine lv_iconst (v := 2) hx hb dX4_runBody_169 (by decide) ?_
      refine lv_aload_n hx hb dX4_runBody_170 rfl (lv_at hl 1 rfl) ?_
      refine lv_bipush (v := 13) hx hb dX4_runBody_171 (by decide) ?_
      refine lv_iload_n hx hb dX4_runBody_173 rfl (lv_at hl 3 rfl) ?_
      refine lv_iload hx hb dX4_runBody_174 (lv_at hl 0 rfl) ?_
      obtain ⟨r_13, b_14, hc_176, hd⟩ := ob_s2 hd
      refine ob_Vi (isC := [0, 1, 2, 3, 4, 5, 6, 7]) (isR := []) (is2 := [0, 1, 2, 3, 4, 5, 6, 7]) (wc := (ob_w4 o_b a_b cI b ++ ob_w1 (a_b 2) a_y cI y)) (wr := ([] : va_W)) (w1 := (ob_w4 o_b a_b cI b_14 ++ ob_w1 (a_b 2) a_y cI y)) (w2 := (ob_w4 o_b a_b cI b_14 ++ ob_w1 (a_b 2) a_y cI y)) (b := o_b) (As := [.int 13, .int x2, .int x_4]) (rest := [.int 2]) ⟨hx, hb, hml, hown, hts⟩ (mt_X4_runBody4 l dC dI cI cZ cR cW xs _ o_b a_b a_y b y 13 x2 x_4 r_13 b_14 hc_176) (cwV 3 hts gX4_runBody_X4_runBody rfl rfl rfl (by decide +kernel) ⟨Nat.le_of_ble_eq_true rfl, Nat.le_of_ble_eq_true rfl⟩) hK hE hP hD hS hA ⟨rfl, rfl, rfl, rfl, rfl, rfl, rfl⟩ 4 0 rfl rfl rfl hl rfl rfl (Nat.le_of_ble_eq_true rfl) ⟨Nat.le_of_ble_eq_true rfl, Nat.le_of_ble_eq_true rfl⟩ dX4_runBody_176 (fun H locs hP hD hS => ?_)
      refine W.widen (k := 0) (n := 0) (Nat.le_refl _) (Nat.le_refl _) ?_
      refine lv_imul hx hb dX4_runBody_179 ?_
      obtain ⟨e1, e2⟩ := ob_pp hd
      subst e1
      subst e2
      exact ob_iret hx hb hr hlocks hP hD hS dX4_runBody_180
    replace hd := ob_f c14_41 hd
    by_cases c15_41 : x1 = 15
    · replace hd := ob_t c15_41 hd
      refine lv_tableIn (off := 207) (tgt := 248) hx hb dX4_runBody_41 (by rw [c15_41]; decide) (by rw [c15_41]; decide) (by rw [c15_41]; decide) (by decide) ?_
      refine lv_ldc hx hb hown kw2 dX4_runBody_248 ?_
      obtain ⟨e1, e2⟩ := ob_pp hd
      subst e1
      subst e2
      exact ob_iret hx hb hr hlocks hP hD hS dX4_runBody_250
    replace hd := ob_f c15_41 hd
    by_cases c16_41 : x1 = 16
    · replace hd := ob_t c16_41 hd
      refine lv_tableIn (off := 207) (tgt := 248) hx hb dX4_runBody_41 (by rw [c16_41]; decide) (by rw [c16_41]; decide) (by rw [c16_41]; decide) (by decide) ?_
      refine lv_ldc hx hb hown kw2 dX4_runBody_248 ?_
      obtain ⟨e1, e2⟩ := ob_pp hd
      subst e1
      subst e2
      exact ob_iret hx hb hr hlocks hP hD hS dX4_runBody_250
    replace hd := ob_f c16_41 hd
    by_cases c17_41 : x1 = 17
    · replace hd := ob_t c17_41 hd
      refine lv_tableIn (off := 207) (tgt := 248) hx hb dX4_runBody_41 (by rw [c17_41]; decide) (by rw [c17_41]; decide) (by rw [c17_41]; decide) (by decide) ?_
      refine lv_ldc hx hb hown kw2 dX4_runBody_248 ?_
      obtain ⟨e1, e2⟩ := ob_pp hd
      subst e1
      subst e2
      exact ob_iret hx hb hr hlocks hP hD hS dX4_runBody_250
    replace hd := ob_f c17_41 hd
    by_cases c18_41 : x1 = 18
    · replace hd := ob_t c18_41 hd
      refine lv_tableIn (off := 207) (tgt := 248) hx hb dX4_runBody_41 (by rw [c18_41]; decide) (by rw [c18_41]; decide) (by rw [c18_41]; decide) (by decide) ?_
      refine lv_ldc hx hb hown kw2 dX4_runBody_248 ?_
      obtain ⟨e1, e2⟩ := ob_pp hd
      subst e1
      subst e2
      exact ob_iret hx hb hr hlocks hP hD hS dX4_runBody_250
    replace hd := ob_f c18_41 hd
    by_cases c19_41 : x1 = 19
    · replace hd := ob_t c19_41 hd
      refine lv_tableIn (off := 207) (tgt := 248) hx hb dX4_runBody_41 (by rw [c19_41]; decide) (by rw [c19_41]; decide) (by rw [c19_41]; decide) (by decide) ?_
      refine lv_ldc hx hb hown kw2 dX4_runBody_248 ?_
      obtain ⟨e1, e2⟩ := ob_pp hd
      subst e1
      subst e2
      exact ob_iret hx hb hr hlocks hP hD hS dX4_runBody_250
    replace hd := ob_f c19_41 hd
    by_cases c20_41 : x1 = 20
    · replace hd := ob_t c20_41 hd
      refine lv_tableIn (off := 140) (tgt := 181) hx hb dX4_runBody_41 (by rw [c20_41]; decide) (by rw [c20_41]; decide) (by rw [c20_41]; decide) (by decide) ?_
      refine lv_iload_n hx hb dX4_runBody_181 rfl (lv_at hl 3 rfl) ?_
      obtain ⟨e1, e2⟩ := ob_pp hd
      subst e1
      subst e2
      exact ob_iret hx hb hr hlocks hP hD hS dX4_runBody_182
    replace hd := ob_f c20_41 hd
    by_cases c21_41 : x1 = 21
    · replace hd := ob_t c21_41 hd
      refine lv_tableIn (off := 142) (tgt := 183) hx hb dX4_runBody_41 (by rw [c21_41]; decide) (by rw [c21_41]; decide) (by rw [c21_41]; decide) (by decide) ?_
      refine lv_aload_n hx hb dX4_runBody_183 rfl (lv_at hl 1 rfl) ?_
      refine lv_bipush (v := 20) hx hb dX4_runBody_184 (by decide) ?_
      refine lv_iload_n hx hb dX4_runBody_186 rfl (lv_at hl 3 rfl) ?_
      refine lv_iload hx hb dX4_runBody_187 (lv_at hl 0 rfl) ?_
      obtain ⟨r_15, b_16, hc_189, hd⟩ := ob_s2 hd
      refine ob_Vi (isC := [0, 1, 2, 3, 4, 5, 6, 7]) (isR := []) (is2 := [0, 1, 2, 3, 4, 5, 6, 7]) (wc := (ob_w4 o_b a_b cI b ++ ob_w1 (a_b 2) a_y cI y)) (wr := ([] : va_W)) (w1 := (ob_w4 o_b a_b cI b_16 ++ ob_w1 (a_b 2) a_y cI y)) (w2 := (ob_w4 o_b a_b cI b_16 ++ ob_w1 (a_b 2) a_y cI y)) (b := o_b) (As := [.int 20, .int x2, .int x_4]) (rest := []) ⟨hx, hb, hml, hown, hts⟩ (mt_X4_runBody4 l dC dI cI cZ cR cW xs _ o_b a_b a_y b y 20 x2 x_4 r_15 b_16 hc_189) (cwV 3 hts gX4_runBody_X4_runBody rfl rfl rfl (by decide +kernel) ⟨Nat.le_of_ble_eq_true rfl, Nat.le_of_ble_eq_true rfl⟩) hK hE hP hD hS hA ⟨rfl, rfl, rfl, rfl, rfl, rfl, rfl⟩ 4 0 rfl rfl rfl hl rfl rfl (Nat.le_of_ble_eq_true rfl) ⟨Nat.le_of_ble_eq_true rfl, Nat.le_of_ble_eq_true rfl⟩ dX4_runBody_189 (fun H locs hP hD hS => ?_)
      refine W.widen (k := 0) (n := 0) (Nat.le_refl _) (Nat.le_refl _) ?_
      refine lv_aload_n hx hb dX4_runBody_192 rfl (lv_at hl 1 rfl) ?_
      refine va_get (D := (dC, dI)) (ci := 4) (v := .ref (a_b 2)) (C := RX4) (T := TX4) (N := 10) hx hb hts hi_X4 hown hK hP 0 rfl rfl 2 (by decide) kw3 (fun _ h9 => h9) rfl dX4_runBody_193 ?_
      refine va_get (D := (dC, dI)) (ci := 1) (v := .ref (a_y 8)) (C := RX1) (T := TX1) (N := 12) hx hb hts hi_X1 hown hK hP 2 rfl rfl 8 (by decide) kw5 (fun _ h9 => h9) rfl dX4_runBody_196 ?_
      refine lv_iload_n hx hb dX4_runBody_199 rfl (lv_at hl 3 rfl) ?_
      obtain ⟨h1_200, hd⟩ := ob_nn hd
      refine va_iald hx hb hK hP 4 0 rfl rfl h1_200 dX4_runBody_200 ?_
      refine lv_iadd hx hb dX4_runBody_201 ?_
      obtain ⟨e1, e2⟩ := ob_pp hd
      subst e1
      subst e2
      exact ob_iret hx hb hr hlocks hP hD hS dX4_runBody_202
    replace hd := ob_f c21_41 hd
    by_cases c22_41 : x1 = 22
    · replace hd := ob_t c22_41 hd
      refine lv_tableIn (off := 162) (tgt := 203) hx hb dX4_runBody_41 (by rw [c22_41]; decide) (by rw [c22_41]; decide) (by rw [c22_41]; decide) (by decide) ?_
      refine lv_aload_n hx hb dX4_runBody_203 rfl (lv_at hl 1 rfl) ?_
      refine lv_bipush (v := 21) hx hb dX4_runBody_204 (by decide) ?_
      refine lv_iload_n hx hb dX4_runBody_206 rfl (lv_at hl 3 rfl) ?_
      refine lv_iload hx hb dX4_runBody_207 (lv_at hl 0 rfl) ?_
      obtain ⟨r_17, b_18, hc_209, hd⟩ := ob_s2 hd
      refine ob_Vi (isC := [0, 1, 2, 3, 4, 5, 6, 7]) (isR := []) (is2 := [0, 1, 2, 3, 4, 5, 6, 7]) (wc := (ob_w4 o_b a_b cI b ++ ob_w1 (a_b 2) a_y cI y)) (wr := ([] : va_W)) (w1 := (ob_w4 o_b a_b cI b_18 ++ ob_w1 (a_b 2) a_y cI y)) (w2 := (ob_w4 o_b a_b cI b_18 ++ ob_w1 (a_b 2) a_y cI y)) (b := o_b) (As := [.int 21, .int x2, .int x_4]) (rest := []) ⟨hx, hb, hml, hown, hts⟩ (mt_X4_runBody4 l dC dI cI cZ cR cW xs _ o_b a_b a_y b y 21 x2 x_4 r_17 b_18 hc_209) (cwV 3 hts gX4_runBody_X4_runBody rfl rfl rfl (by decide +kernel) ⟨Nat.le_of_ble_eq_true rfl, Nat.le_of_ble_eq_true rfl⟩) hK hE hP hD hS hA ⟨rfl, rfl, rfl, rfl, rfl, rfl, rfl⟩ 4 0 rfl rfl rfl hl rfl rfl (Nat.le_of_ble_eq_true rfl) ⟨Nat.le_of_ble_eq_true rfl, Nat.le_of_ble_eq_true rfl⟩ dX4_runBody_209 (fun H locs hP hD hS => ?_)
      refine W.widen (k := 0) (n := 0) (Nat.le_refl _) (Nat.le_refl _) ?_
      refine lv_sipush (v := 1000) hx hb dX4_runBody_212 (by decide) ?_
      refine lv_isub hx hb dX4_runBody_215 ?_
      obtain ⟨e1, e2⟩ := ob_pp hd
      subst e1
      subst e2
      exact ob_iret hx hb hr hlocks hP hD hS dX4_runBody_216
    replace hd := ob_f c22_41 hd
    by_cases c23_41 : x1 = 23
    · replace hd := ob_t c23_41 hd
      refine lv_tableIn (off := 176) (tgt := 217) hx hb dX4_runBody_41 (by rw [c23_41]; decide) (by rw [c23_41]; decide) (by rw [c23_41]; decide) (by decide) ?_
      refine lv_aload_n hx hb dX4_runBody_217 rfl (lv_at hl 1 rfl) ?_
      refine lv_bipush (v := 20) hx hb dX4_runBody_218 (by decide) ?_
      refine lv_iload_n hx hb dX4_runBody_220 rfl (lv_at hl 3 rfl) ?_
      refine lv_iload hx hb dX4_runBody_221 (lv_at hl 0 rfl) ?_
      obtain ⟨r_19, b_20, hc_223, hd⟩ := ob_s2 hd
      refine ob_Vi (isC := [0, 1, 2, 3, 4, 5, 6, 7]) (isR := []) (is2 := [0, 1, 2, 3, 4, 5, 6, 7]) (wc := (ob_w4 o_b a_b cI b ++ ob_w1 (a_b 2) a_y cI y)) (wr := ([] : va_W)) (w1 := (ob_w4 o_b a_b cI b_20 ++ ob_w1 (a_b 2) a_y cI y)) (w2 := (ob_w4 o_b a_b cI b_20 ++ ob_w1 (a_b 2) a_y cI y)) (b := o_b) (As := [.int 20, .int x2, .int x_4]) (rest := []) ⟨hx, hb, hml, hown, hts⟩ (mt_X4_runBody4 l dC dI cI cZ cR cW xs _ o_b a_b a_y b y 20 x2 x_4 r_19 b_20 hc_223) (cwV 3 hts gX4_runBody_X4_runBody rfl rfl rfl (by decide +kernel) ⟨Nat.le_of_ble_eq_true rfl, Nat.le_of_ble_eq_true rfl⟩) hK hE hP hD hS hA ⟨rfl, rfl, rfl, rfl, rfl, rfl, rfl⟩ 4 0 rfl rfl rfl hl rfl rfl (Nat.le_of_ble_eq_true rfl) ⟨Nat.le_of_ble_eq_true rfl, Nat.le_of_ble_eq_true rfl⟩ dX4_runBody_223 (fun H locs hP hD hS => ?_)
      refine W.widen (k := 0) (n := 0) (Nat.le_refl _) (Nat.le_refl _) ?_
      refine lv_aload_n hx hb dX4_runBody_226 rfl (lv_at hl 1 rfl) ?_
      refine lv_iload_n hx hb dX4_runBody_227 rfl (lv_at hl 3 rfl) ?_
      refine lv_iconst (v := 0) hx hb dX4_runBody_228 (by decide) ?_
      refine lv_iload hx hb dX4_runBody_229 (lv_at hl 0 rfl) ?_
      obtain ⟨r_21, b_22, hc_231, hd⟩ := ob_s2 hd
      refine ob_Vi (isC := [0, 1, 2, 3, 4, 5, 6, 7]) (isR := []) (is2 := [0, 1, 2, 3, 4, 5, 6, 7]) (wc := (ob_w4 o_b a_b cI b_20 ++ ob_w1 (a_b 2) a_y cI y)) (wr := ([] : va_W)) (w1 := (ob_w4 o_b a_b cI b_22 ++ ob_w1 (a_b 2) a_y cI y)) (w2 := (ob_w4 o_b a_b cI b_22 ++ ob_w1 (a_b 2) a_y cI y)) (b := o_b) (As := [.int x2, .int 0, .int x_4]) (rest := [.int r_19]) ⟨hx, hb, hml, hown, hts⟩ (mt_X4_askAnew4 l dC dI cI cZ cR cW xs _ o_b a_b a_y b_20 y x2 0 x_4 r_21 b_22 hc_231) (cwV 3 hts gX4_runBody_X4_askAnew rfl rfl rfl (by decide +kernel) ⟨Nat.le_of_ble_eq_true rfl, Nat.le_of_ble_eq_true rfl⟩) hK hE hP hD hS hA ⟨rfl, rfl, rfl, rfl, rfl, rfl, rfl⟩ 4 0 rfl rfl rfl hl rfl rfl (Nat.le_of_ble_eq_true rfl) ⟨Nat.le_of_ble_eq_true rfl, Nat.le_of_ble_eq_true rfl⟩ dX4_runBody_231 (fun H locs hP hD hS => ?_)
      refine W.widen (k := 0) (n := 0) (Nat.le_refl _) (Nat.le_refl _) ?_
      refine lv_isub hx hb dX4_runBody_234 ?_
      obtain ⟨e1, e2⟩ := ob_pp hd
      subst e1
      subst e2
      exact ob_iret hx hb hr hlocks hP hD hS dX4_runBody_235
    replace hd := ob_f c23_41 hd
    by_cases c24_41 : x1 = 24
    · replace hd := ob_t c24_41 hd
      refine lv_tableIn (off := 195) (tgt := 236) hx hb dX4_runBody_41 (by rw [c24_41]; decide) (by rw [c24_41]; decide) (by rw [c24_41]; decide) (by decide) ?_
      refine lv_iconst (v := 2) hx hb dX4_runBody_236 (by decide) ?_
      refine lv_aload_n hx hb dX4_runBody_237 rfl (lv_at hl 1 rfl) ?_
      refine lv_bipush (v := 21) hx hb dX4_runBody_238 (by decide) ?_
      refine lv_iload_n hx hb dX4_runBody_240 rfl (lv_at hl 3 rfl) ?_
      refine lv_iload hx hb dX4_runBody_241 (lv_at hl 0 rfl) ?_
      obtain ⟨r_23, b_24, hc_243, hd⟩ := ob_s2 hd
      refine ob_Vi (isC := [0, 1, 2, 3, 4, 5, 6, 7]) (isR := []) (is2 := [0, 1, 2, 3, 4, 5, 6, 7]) (wc := (ob_w4 o_b a_b cI b ++ ob_w1 (a_b 2) a_y cI y)) (wr := ([] : va_W)) (w1 := (ob_w4 o_b a_b cI b_24 ++ ob_w1 (a_b 2) a_y cI y)) (w2 := (ob_w4 o_b a_b cI b_24 ++ ob_w1 (a_b 2) a_y cI y)) (b := o_b) (As := [.int 21, .int x2, .int x_4]) (rest := [.int 2]) ⟨hx, hb, hml, hown, hts⟩ (mt_X4_runBody4 l dC dI cI cZ cR cW xs _ o_b a_b a_y b y 21 x2 x_4 r_23 b_24 hc_243) (cwV 3 hts gX4_runBody_X4_runBody rfl rfl rfl (by decide +kernel) ⟨Nat.le_of_ble_eq_true rfl, Nat.le_of_ble_eq_true rfl⟩) hK hE hP hD hS hA ⟨rfl, rfl, rfl, rfl, rfl, rfl, rfl⟩ 4 0 rfl rfl rfl hl rfl rfl (Nat.le_of_ble_eq_true rfl) ⟨Nat.le_of_ble_eq_true rfl, Nat.le_of_ble_eq_true rfl⟩ dX4_runBody_243 (fun H locs hP hD hS => ?_)
      refine W.widen (k := 0) (n := 0) (Nat.le_refl _) (Nat.le_refl _) ?_
      refine lv_imul hx hb dX4_runBody_246 ?_
      obtain ⟨e1, e2⟩ := ob_pp hd
      subst e1
      subst e2
      exact ob_iret hx hb hr hlocks hP hD hS dX4_runBody_247
    replace hd := ob_f c24_41 hd
    refine lv_tableOut (tgt := 248) hx hb dX4_runBody_41 (by have n10 := lv_neT c10_41 (show (10 : Int32).toInt = 10 from rfl); have n11 := lv_neT c11_41 (show (11 : Int32).toInt = 11 from rfl); have n12 := lv_neT c12_41 (show (12 : Int32).toInt = 12 from rfl); have n13 := lv_neT c13_41 (show (13 : Int32).toInt = 13 from rfl); have n14 := lv_neT c14_41 (show (14 : Int32).toInt = 14 from rfl); have n15 := lv_neT c15_41 (show (15 : Int32).toInt = 15 from rfl); have n16 := lv_neT c16_41 (show (16 : Int32).toInt = 16 from rfl); have n17 := lv_neT c17_41 (show (17 : Int32).toInt = 17 from rfl); have n18 := lv_neT c18_41 (show (18 : Int32).toInt = 18 from rfl); have n19 := lv_neT c19_41 (show (19 : Int32).toInt = 19 from rfl); have n20 := lv_neT c20_41 (show (20 : Int32).toInt = 20 from rfl); have n21 := lv_neT c21_41 (show (21 : Int32).toInt = 21 from rfl); have n22 := lv_neT c22_41 (show (22 : Int32).toInt = 22 from rfl); have n23 := lv_neT c23_41 (show (23 : Int32).toInt = 23 from rfl); have n24 := lv_neT c24_41 (show (24 : Int32).toInt = 24 from rfl); omega) (by decide) ?_
    refine lv_ldc hx hb hown kw2 dX4_runBody_248 ?_
    obtain ⟨e1, e2⟩ := ob_pp hd
    subst e1
    subst e2
    exact ob_iret hx hb hr hlocks hP hD hS dX4_runBody_250
  refine lv_iload_n hx hb dX4_runBody_0 rfl (lv_at hl 3 rfl) ?_
  refine lv_bipush (v := 12) hx hb dX4_runBody_1 (by decide) ?_
  refine lv_icmp_le (tgt := 9) hx hb dX4_runBody_3 (by decide) (fun c_3 => ?_) (fun c_3 => ?_)
  · replace hd := ob_t c_3 hd
    refine lv_aload_n hx hb dX4_runBody_9 rfl (lv_at hl 0 rfl) ?_
    refine va_get (D := (dC, dI)) (ci := 4) (v := .int (b.1 7)) (C := RX4) (T := TX4) (N := 10) hx hb hts hi_X4 hown hK hP 0 rfl rfl 7 (by decide) kw0 (fun _ h9 => h9) rfl dX4_runBody_10 ?_
    refine lv_bipush (v := 16) hx hb dX4_runBody_13 (by decide) ?_
    refine lv_icmp_ge (tgt := 35) hx hb dX4_runBody_15 (by decide) (fun c_15 => ?_) (fun c_15 => ?_)
    · replace hd := ob_t c_15 hd
      exact L35   _ _ b _ hP hD hS (lv_sub hl [0, 1, 2, 3] rfl) hd
    · replace hd := ob_f c_15 hd
      refine lv_aload_n hx hb dX4_runBody_18 rfl (lv_at hl 0 rfl) ?_
      refine va_get (D := (dC, dI)) (ci := 4) (v := .ref (a_b 6)) (C := RX4) (T := TX4) (N := 10) hx hb hts hi_X4 hown hK hP 0 rfl rfl 6 (by decide) kw1 (fun _ h9 => h9) rfl dX4_runBody_19 ?_
      refine lv_aload_n hx hb dX4_runBody_22 rfl (lv_at hl 0 rfl) ?_
      refine lv_dup hx hb dX4_runBody_23 rfl ?_
      refine va_get (D := (dC, dI)) (ci := 4) (v := .int (b.1 7)) (C := RX4) (T := TX4) (N := 10) hx hb hts hi_X4 hown hK hP 0 rfl rfl 7 (by decide) kw0 (fun _ h9 => h9) rfl dX4_runBody_24 ?_
      refine lv_dup_x1 hx hb dX4_runBody_27 rfl rfl ?_
      refine lv_iconst (v := 1) hx hb dX4_runBody_28 (by decide) ?_
      refine lv_iadd hx hb dX4_runBody_29 ?_
      refine lv_topi (fun x_1 ex_1 => ?_)
      replace hd := ob_lx ex_1 hd
      clear ex_1
      refine va_put (D := (dC, dI)) (ci := 4) (v := .int x_1) (ty := .int) (C := RX4) (T := TX4) (N := 10) hx hb hts hi_X4 tyX4 tyX4_ok nmX4 hown hK hP hD hS 0 rfl rfl 7 (by decide) kw0 (fun _ h9 => h9) rfl (by decide +kernel) rfl rfl (Nat.le_of_ble_eq_true rfl) dX4_runBody_30 (fun H locs hP hD hS => ?_)
      obtain ⟨b_2, eb_2⟩ : ∃ z : ob_B, z = ob_I b 7 x_1 := ⟨_, rfl⟩
      replace hd := ob_lx eb_2 hd
      replace hP : va_P (dC, dI) vwCl (ob_w4 o_b a_b cI b_2 ++ ob_w1 (a_b 2) a_y cI y) H := by rw [eb_2]; exact hP
      replace hD : va_D A (ob_w4 o_b a_b cI b_2 ++ ob_w1 (a_b 2) a_y cI y) := by rw [eb_2]; exact hD
      clear eb_2
      refine lv_iload_n hx hb dX4_runBody_33 rfl (lv_at hl 1 rfl) ?_
      obtain ⟨h1_34, hd⟩ := ob_nn hd
      refine va_iast hx hb hK hP hD hS 1 0 rfl rfl h1_34 dX4_runBody_34 (fun H locs hP hD hS => ?_)
      obtain ⟨b_3, eb_3⟩ : ∃ z : ob_B, z = ob_A b_2 6 (upd (b_2.2 6) (Int32.toNatClampNeg (b.1 7)) x1) := ⟨_, rfl⟩
      replace hd := ob_lx eb_3 hd
      replace hP : va_P (dC, dI) vwCl (ob_w4 o_b a_b cI b_3 ++ ob_w1 (a_b 2) a_y cI y) H := by rw [eb_3]; exact hP
      replace hD : va_D A (ob_w4 o_b a_b cI b_3 ++ ob_w1 (a_b 2) a_y cI y) := by rw [eb_3]; exact hD
      clear eb_3
      exact L35   _ _ b_3 _ hP hD hS (lv_sub hl [0, 1, 2, 3] rfl) hd
  · replace hd := ob_f c_3 hd
    refine lv_ldc hx hb hown kw2 dX4_runBody_6 ?_
    obtain ⟨e1, e2⟩ := ob_pp hd
    subst e1
    subst e2
    exact ob_iret hx hb hr hlocks hP hD hS dX4_runBody_8

def fd_X4_askAnew5_L49  (b : ob_B) (y : ob_B) (x1 : Int32) (x2 : Int32) (x3 : Int32) (z4 : Int32) : Option (Int32 × ob_B) := ob_b1 (fd_X4_toldBody z4 x2) (fun r_5 => ob_b2 (fd_X4_runBody5 b y r_5 x1 x3) (fun r_6 b_7 => some (r_6, b_7)))
def fd_X4_askAnew5_L14  : Nat → ob_B → ob_B → Int32 → Int32 → Int32 → Int32 → Int32 → Option (Int32 × ob_B)
  | 0, _, _, _, _, _, _, _ => none
  | fu + 1, b, y, x1, x2, x3, z4, z5 => if 6 ≤ z5 then (fd_X4_askAnew5_L49 b y x1 x2 x3 z4) else (if z4 ≤ 0 then (fd_X4_askAnew5_L49 b y x1 x2 x3 z4) else (ob_b1 (fd_X4_toldBody z4 x2) (fun r_2 => if r_2 = 0 then (if z4 < 0 ∨ 6 ≤ Int32.toNatClampNeg z4 then none else (ob_lt (([0, 0, 1, 1, 0, 4] : List Int32).getD (Int32.toNatClampNeg z4) 0 : Int32) (fun x_3 => ob_lt (z5 + 1 : Int32) (fun x_4 => fd_X4_askAnew5_L14 fu b y x1 x2 x3 x_3 x_4)))) else (fd_X4_askAnew5_L49 b y x1 x2 x3 z4))))
def fd_X4_askAnew5  (b : ob_B) (y : ob_B) (x1 : Int32) (x2 : Int32) (x3 : Int32) : Option (Int32 × ob_B) := if x1 < 0 ∨ 7 ≤ Int32.toNatClampNeg x1 then none else (ob_lt ((y.2 7) (Int32.toNatClampNeg x1) : Int32) (fun x_1 => fd_X4_askAnew5_L14 2000 b y x1 x2 x3 x_1 0))
set_option maxHeartbeats 4000000 in
set_option maxRecDepth 100000 in
theorem mt_X4_askAnew5 (l : Launch) (dC : Nat → ClassId) (dI : Nat → Nat → Nat) (cI cZ cR cW : ClassId) (xs : Nat → Nat) (sz : Nat) (o_b : Nat) (a_b : Nat → Nat) (a_y : Nat → Nat) (b : ob_B) (y : ob_B) (x1 : Int32) (x2 : Int32) (x3 : Int32)  (rr : Int32) (b' : ob_B) (hd : fd_X4_askAnew5 b y x1 x2 x3 = some (rr, b')) : ob_M l yX4_askAnew wsX4_askAnew ({ frames := 11, cells := 0, slots := 0, locals := 269 } : Room) (dC, dI) (ob_ty cI cZ cR cW) xs [.ref o_b, .int x1, .int x2, .int x3] (ob_w4 o_b a_b cI b ++ ob_w1 (a_b 2) a_y cI y) sz (ob_Qi (dC, dI) rr (ob_w4 o_b a_b cI b' ++ ob_w1 (a_b 2) a_y cI y)) := by
  rw [fd_X4_askAnew5] at hd
  refine ob_in (cc := cX4_askAnew) (maxL := 6) (ret := (some .int)) (own := RX4) (by decide) rfl rfl [(0, .ref o_b), (1, .int x1), (2, .int x2), (3, .int x3)] rfl (Nat.le_of_ble_eq_true rfl) ?_
  intro p e s m below meth c hx hb hr hml hown hts hlocks hnm hK A hA hE hP hD hS ls hl
  have kw0 := hts (.fieldLink RX4 25 "OathCoach" "route" "LOathCoach$Route;") (by decide +kernel)
  have kw1 := hts (.fieldLink RX4 213 "OathCoach$Route" "kind" "[I") (by decide +kernel)
  have kw2 := hts (.fieldLink RX4 245 "OathCoach" "KIND_ABOVE" "[I") (by decide +kernel)
  have hi_X1 : ∀ w ∈ u_ws RX1 TX1 12, w ∈ wsX4_askAnew := by decide +kernel
  have hi_X4 : ∀ w ∈ u_ws RX4 TX4 10, w ∈ wsX4_askAnew := by decide +kernel
  obtain ⟨hE1, hE2, hE3, hE4, hE5, hE6, hE7, hE8, hE9, -⟩ := id hE
  have hET : va_T .byte (xs 4) 5 (fun j => .int (([111, 109, 108, 102, 118] : List Int32).getD j 0)) A s s.heap := (hE8.1 0 (by decide)).2.2.2
  have L49 : ∀ (H : Heap) (locs : List Loc) (b : ob_B) (z4 : Int32) (ls : Array Slot), va_P (dC, dI) vwCl (ob_w4 o_b a_b cI b ++ ob_w1 (a_b 2) a_y cI y) H → va_D A (ob_w4 o_b a_b cI b ++ ob_w1 (a_b 2) a_y cI y) → va_S A s.heap H locs → lv_has ls 6 [(0, .ref o_b), (1, .int x1), (2, .int x2), (3, .int x3), (4, .int z4)] → fd_X4_askAnew5_L49 b y x1 x2 x3 z4 = some (rr, b') → W p l e ({ frames := 11, cells := 0, slots := 0, locals := 269 } : Room) s m (List.toArray [.ref o_b, .int x1, .int x2, .int x3]) below meth c H locs 0 0 (MQ below ((ob_Qi (dC, dI) rr (ob_w4 o_b a_b cI b' ++ ob_w1 (a_b 2) a_y cI y)) A) (List.toArray [.ref o_b, .int x1, .int x2, .int x3]) s 0 0 A) (F0 m 49 ls []) := by
    intro  H locs b z4 ls hP hD hS hl hd
    rw [fd_X4_askAnew5_L49] at hd
    refine lv_aload_n hx hb dX4_askAnew_49 rfl (lv_at hl 0 rfl) ?_
    refine lv_iload hx hb dX4_askAnew_50 (lv_at hl 4 rfl) ?_
    refine lv_iload_n hx hb dX4_askAnew_52 rfl (lv_at hl 2 rfl) ?_
    obtain ⟨r_5, hc_53, hd⟩ := ob_s1 hd
    refine ob_Si (isC := []) (isR := [0, 1, 2, 3, 4, 5, 6, 7]) (is2 := [0, 1, 2, 3, 4, 5, 6, 7]) (wc := ([] : va_W)) (wr := (List.filterMap (fun i => (ob_w4 o_b a_b cI b ++ ob_w1 (a_b 2) a_y cI y)[i]?) [0, 1, 2, 3, 4, 5, 6, 7])) (w1 := ([] : va_W)) (w2 := (ob_w4 o_b a_b cI b ++ ob_w1 (a_b 2) a_y cI y)) (As := [.int z4, .int x2]) (rest := [.ref o_b]) ⟨hx, hb, hml, hown, hts⟩ (mt_X4_toldBody l dC dI cI cZ cR cW xs _ z4 x2 r_5 hc_53) (va_cwS 2 hts gX4_askAnew_X4_toldBody rfl rfl rfl (by decide +kernel) ⟨Nat.le_of_ble_eq_true rfl, Nat.le_of_ble_eq_true rfl⟩) hK hE hP hD hS hA ⟨rfl, rfl, rfl, rfl, rfl, rfl, rfl⟩ hl rfl rfl (Nat.le_of_ble_eq_true rfl) ⟨Nat.le_of_ble_eq_true rfl, Nat.le_of_ble_eq_true rfl⟩ dX4_askAnew_53 (fun H locs hP hD hS => ?_)
    refine W.widen (k := 0) (n := 0) (Nat.le_refl _) (Nat.le_refl _) ?_
    refine lv_iload_n hx hb dX4_askAnew_56 rfl (lv_at hl 1 rfl) ?_
    refine lv_iload_n hx hb dX4_askAnew_57 rfl (lv_at hl 3 rfl) ?_
    obtain ⟨r_6, b_7, hc_58, hd⟩ := ob_s2 hd
    refine ob_Vi (isC := [0, 1, 2, 3, 4, 5, 6, 7]) (isR := []) (is2 := [0, 1, 2, 3, 4, 5, 6, 7]) (wc := (ob_w4 o_b a_b cI b ++ ob_w1 (a_b 2) a_y cI y)) (wr := ([] : va_W)) (w1 := (ob_w4 o_b a_b cI b_7 ++ ob_w1 (a_b 2) a_y cI y)) (w2 := (ob_w4 o_b a_b cI b_7 ++ ob_w1 (a_b 2) a_y cI y)) (b := o_b) (As := [.int r_5, .int x1, .int x3]) (rest := []) ⟨hx, hb, hml, hown, hts⟩ (mt_X4_runBody5 l dC dI cI cZ cR cW xs _ o_b a_b a_y b y r_5 x1 x3 r_6 b_7 hc_58) (cwV 3 hts gX4_askAnew_X4_runBody rfl rfl rfl (by decide +kernel) ⟨Nat.le_of_ble_eq_true rfl, Nat.le_of_ble_eq_true rfl⟩) hK hE hP hD hS hA ⟨rfl, rfl, rfl, rfl, rfl, rfl, rfl⟩ 4 0 rfl rfl rfl hl rfl rfl (Nat.le_of_ble_eq_true rfl) ⟨Nat.le_of_ble_eq_true rfl, Nat.le_of_ble_eq_true rfl⟩ dX4_askAnew_58 (fun H locs hP hD hS => ?_)
    refine W.widen (k := 0) (n := 0) (Nat.le_refl _) (Nat.le_refl _) ?_
    obtain ⟨e1, e2⟩ := ob_pp hd
    subst e1
    subst e2
    exact ob_iret hx hb hr hlocks hP hD hS dX4_askAnew_61
  have L14 : ∀  (fu : Nat), ∀ (H : Heap) (locs : List Loc) (b : ob_B) (z4 : Int32) (z5 : Int32) (ls : Array Slot), va_P (dC, dI) vwCl (ob_w4 o_b a_b cI b ++ ob_w1 (a_b 2) a_y cI y) H → va_D A (ob_w4 o_b a_b cI b ++ ob_w1 (a_b 2) a_y cI y) → va_S A s.heap H locs → lv_has ls 6 [(0, .ref o_b), (1, .int x1), (2, .int x2), (3, .int x3), (4, .int z4), (5, .int z5)] → fd_X4_askAnew5_L14 fu b y x1 x2 x3 z4 z5 = some (rr, b') → W p l e ({ frames := 11, cells := 0, slots := 0, locals := 269 } : Room) s m (List.toArray [.ref o_b, .int x1, .int x2, .int x3]) below meth c H locs 0 0 (MQ below ((ob_Qi (dC, dI) rr (ob_w4 o_b a_b cI b' ++ ob_w1 (a_b 2) a_y cI y)) A) (List.toArray [.ref o_b, .int x1, .int x2, .int x3]) s 0 0 A) (F0 m 14 ls []) := by
    intro  fu
    induction fu with
    | zero =>
      intro H locs b z4 z5 ls hP hD hS hl hd
      rw [fd_X4_askAnew5_L14] at hd
      cases hd
    | succ fu ih =>
      intro H locs b z4 z5 ls hP hD hS hl hd
      rw [fd_X4_askAnew5_L14] at hd
      refine lv_iload hx hb dX4_askAnew_14 (lv_at hl 5 rfl) ?_
      refine lv_bipush (v := 6) hx hb dX4_askAnew_16 (by decide) ?_
      refine lv_icmp_ge (tgt := 49) hx hb dX4_askAnew_18 (by decide) (fun c_18 => ?_) (fun c_18 => ?_)
      · replace hd := ob_t c_18 hd
        exact L49   _ _ b z4 _ hP hD hS (lv_sub hl [0, 1, 2, 3, 4] rfl) hd
      · replace hd := ob_f c_18 hd
        refine lv_iload hx hb dX4_askAnew_21 (lv_at hl 4 rfl) ?_
        refine lv_if_le (tgt := 49) hx hb dX4_askAnew_23 (by decide) (fun c_23 => ?_) (fun c_23 => ?_)
        · replace hd := ob_t c_23 hd
          exact L49   _ _ b z4 _ hP hD hS (lv_sub hl [0, 1, 2, 3, 4] rfl) hd
        · replace hd := ob_f c_23 hd
          refine lv_iload hx hb dX4_askAnew_26 (lv_at hl 4 rfl) ?_
          refine lv_iload_n hx hb dX4_askAnew_28 rfl (lv_at hl 2 rfl) ?_
          obtain ⟨r_2, hc_29, hd⟩ := ob_s1 hd
          refine ob_Si (isC := []) (isR := [0, 1, 2, 3, 4, 5, 6, 7]) (is2 := [0, 1, 2, 3, 4, 5, 6, 7]) (wc := ([] : va_W)) (wr := (List.filterMap (fun i => (ob_w4 o_b a_b cI b ++ ob_w1 (a_b 2) a_y cI y)[i]?) [0, 1, 2, 3, 4, 5, 6, 7])) (w1 := ([] : va_W)) (w2 := (ob_w4 o_b a_b cI b ++ ob_w1 (a_b 2) a_y cI y)) (As := [.int z4, .int x2]) (rest := []) ⟨hx, hb, hml, hown, hts⟩ (mt_X4_toldBody l dC dI cI cZ cR cW xs _ z4 x2 r_2 hc_29) (va_cwS 2 hts gX4_askAnew_X4_toldBody rfl rfl rfl (by decide +kernel) ⟨Nat.le_of_ble_eq_true rfl, Nat.le_of_ble_eq_true rfl⟩) hK hE hP hD hS hA ⟨rfl, rfl, rfl, rfl, rfl, rfl, rfl⟩ hl rfl rfl (Nat.le_of_ble_eq_true rfl) ⟨Nat.le_of_ble_eq_true rfl, Nat.le_of_ble_eq_true rfl⟩ dX4_askAnew_29 (fun H locs hP hD hS => ?_)
          refine W.widen (k := 0) (n := 0) (Nat.le_refl _) (Nat.le_refl _) ?_
          refine lv_if_ne (tgt := 49) hx hb dX4_askAnew_32 (by decide) (fun c_32 => ?_) (fun c_32 => ?_)
          · replace hd := ob_f c_32 hd
            exact L49   _ _ b z4 _ hP hD hS (lv_sub hl [0, 1, 2, 3, 4] rfl) hd
          · replace hd := ob_t c_32 hd
            refine va_gets hx hb hE1 hS hown kw2 (fun _ h9 => h9) dX4_askAnew_35 ?_
            refine lv_iload hx hb dX4_askAnew_38 (lv_at hl 4 rfl) ?_
            obtain ⟨h1_40, hd⟩ := ob_nn hd
            refine va_ti hx hb hE2 hS h1_40 rfl dX4_askAnew_40 ?_
            refine lv_topi (fun x_3 ex_3 => ?_)
            replace hd := ob_lx ex_3 hd
            clear ex_3
            refine lv_istore (lv' := [(4, .int x_3), (0, .ref o_b), (1, .int x1), (2, .int x2), (3, .int x3), (5, .int z5)]) hx hb dX4_askAnew_41 hl (by decide) rfl (fun ls hl => ?_)
            obtain ⟨x_4, ex_4⟩ : ∃ z : Int32, z = z5 + 1 := ⟨_, rfl⟩
            replace hd := ob_lx ex_4 hd
            refine lv_iinc (v := x_4) (lv' := [(5, .int x_4), (4, .int x_3), (0, .ref o_b), (1, .int x1), (2, .int x2), (3, .int x3)]) hx hb dX4_askAnew_43 hl (k := 5) rfl (by rw [ex_4]; rfl) (by decide) rfl (fun ls hl => ?_)
            clear ex_4
            refine lv_goto (tgt := 14) hx hb dX4_askAnew_46 (by decide) ?_
            exact ih _ _ b x_3 x_4 _ hP hD hS (lv_sub hl [2, 3, 4, 5, 1, 0] rfl) hd
  refine lv_aload_n hx hb dX4_askAnew_0 rfl (lv_at hl 0 rfl) ?_
  refine va_get (D := (dC, dI)) (ci := 4) (v := .ref (a_b 2)) (C := RX4) (T := TX4) (N := 10) hx hb hts hi_X4 hown hK hP 0 rfl rfl 2 (by decide) kw0 (fun _ h9 => h9) rfl dX4_askAnew_1 ?_
  refine va_get (D := (dC, dI)) (ci := 1) (v := .ref (a_y 7)) (C := RX1) (T := TX1) (N := 12) hx hb hts hi_X1 hown hK hP 2 rfl rfl 7 (by decide) kw1 (fun _ h9 => h9) rfl dX4_askAnew_4 ?_
  refine lv_iload_n hx hb dX4_askAnew_7 rfl (lv_at hl 1 rfl) ?_
  obtain ⟨h1_8, hd⟩ := ob_nn hd
  refine va_iald hx hb hK hP 3 0 rfl rfl h1_8 dX4_askAnew_8 ?_
  refine lv_topi (fun x_1 ex_1 => ?_)
  replace hd := ob_lx ex_1 hd
  clear ex_1
  refine lv_istore (lv' := [(4, .int x_1), (0, .ref o_b), (1, .int x1), (2, .int x2), (3, .int x3)]) hx hb dX4_askAnew_9 hl (by decide) rfl (fun ls hl => ?_)
  refine lv_iconst (v := 0) hx hb dX4_askAnew_11 (by decide) ?_
  refine lv_istore (lv' := [(5, .int 0), (4, .int x_1), (0, .ref o_b), (1, .int x1), (2, .int x2), (3, .int x3)]) hx hb dX4_askAnew_12 hl (by decide) rfl (fun ls hl => ?_)
  exact L14  2000 _ _ b x_1 0 _ hP hD hS (lv_sub hl [2, 3, 4, 5, 1, 0] rfl) hd

def fd_X4_runBody6_L35  (b : ob_B) (y : ob_B) (x1 : Int32) (x2 : Int32) (x3 : Int32) : Option (Int32 × ob_B) := ob_lt (x3 + 1 : Int32) (fun x_4 => if x1 = 10 then (if x2 < 0 ∨ 7 ≤ Int32.toNatClampNeg x2 then none else (some ((y.2 9) (Int32.toNatClampNeg x2), b))) else (if x1 = 11 then (ob_b2 (fd_X4_runBody5 b y 10 x2 x_4) (fun r_5 b_6 => ob_b2 (fd_X4_askAnew5 b_6 y x2 1 x_4) (fun r_7 b_8 => some (r_5 + r_7, b_8)))) else (if x1 = 12 then (ob_b2 (fd_X4_runBody5 b y 11 x2 x_4) (fun r_9 b_10 => some (-r_9, b_10))) else (if x1 = 13 then (ob_b2 (fd_X4_runBody5 b y 10 x2 x_4) (fun r_11 b_12 => some (r_11 - 100, b_12))) else (if x1 = 14 then (ob_b2 (fd_X4_runBody5 b y 13 x2 x_4) (fun r_13 b_14 => some (2 * r_13, b_14))) else (if x1 = 15 then (some ((-1000001), b)) else (if x1 = 16 then (some ((-1000001), b)) else (if x1 = 17 then (some ((-1000001), b)) else (if x1 = 18 then (some ((-1000001), b)) else (if x1 = 19 then (some ((-1000001), b)) else (if x1 = 20 then (some (x2, b)) else (if x1 = 21 then (ob_b2 (fd_X4_runBody5 b y 20 x2 x_4) (fun r_15 b_16 => if x2 < 0 ∨ 7 ≤ Int32.toNatClampNeg x2 then none else (some (r_15 + ((y.2 8) (Int32.toNatClampNeg x2)), b_16)))) else (if x1 = 22 then (ob_b2 (fd_X4_runBody5 b y 21 x2 x_4) (fun r_17 b_18 => some (r_17 - 1000, b_18))) else (if x1 = 23 then (ob_b2 (fd_X4_runBody5 b y 20 x2 x_4) (fun r_19 b_20 => ob_b2 (fd_X4_askAnew5 b_20 y x2 0 x_4) (fun r_21 b_22 => some (r_19 - r_21, b_22)))) else (if x1 = 24 then (ob_b2 (fd_X4_runBody5 b y 21 x2 x_4) (fun r_23 b_24 => some (2 * r_23, b_24))) else (some ((-1000001), b)))))))))))))))))
def fd_X4_runBody6  (b : ob_B) (y : ob_B) (x1 : Int32) (x2 : Int32) (x3 : Int32) : Option (Int32 × ob_B) := if x3 ≤ 12 then (if 16 ≤ (b.1 7) then (fd_X4_runBody6_L35 b y x1 x2 x3) else (ob_lt ((b.1 7) + 1 : Int32) (fun x_1 => ob_lt (ob_I b 7 x_1 : ob_B) (fun b_2 => if (b.1 7) < 0 ∨ 16 ≤ Int32.toNatClampNeg (b.1 7) then none else (ob_lt (ob_A b_2 6 (upd (b_2.2 6) (Int32.toNatClampNeg (b.1 7)) x1) : ob_B) (fun b_3 => fd_X4_runBody6_L35 b_3 y x1 x2 x3)))))) else (some ((-1000001), b))
set_option maxHeartbeats 4000000 in
set_option maxRecDepth 100000 in
theorem mt_X4_runBody6 (l : Launch) (dC : Nat → ClassId) (dI : Nat → Nat → Nat) (cI cZ cR cW : ClassId) (xs : Nat → Nat) (sz : Nat) (o_b : Nat) (a_b : Nat → Nat) (a_y : Nat → Nat) (b : ob_B) (y : ob_B) (x1 : Int32) (x2 : Int32) (x3 : Int32)  (rr : Int32) (b' : ob_B) (hd : fd_X4_runBody6 b y x1 x2 x3 = some (rr, b')) : ob_M l yX4_runBody wsX4_runBody ({ frames := 12, cells := 0, slots := 0, locals := 294 } : Room) (dC, dI) (ob_ty cI cZ cR cW) xs [.ref o_b, .int x1, .int x2, .int x3] (ob_w4 o_b a_b cI b ++ ob_w1 (a_b 2) a_y cI y) sz (ob_Qi (dC, dI) rr (ob_w4 o_b a_b cI b' ++ ob_w1 (a_b 2) a_y cI y)) := by
  rw [fd_X4_runBody6] at hd
  refine ob_in (cc := cX4_runBody) (maxL := 5) (ret := (some .int)) (own := RX4) (by decide) rfl rfl [(0, .ref o_b), (1, .int x1), (2, .int x2), (3, .int x3)] rfl (Nat.le_of_ble_eq_true rfl) ?_
  intro p e s m below meth c hx hb hr hml hown hts hlocks hnm hK A hA hE hP hD hS ls hl
  have kw0 := hts (.fieldLink RX4 47 "OathCoach" "tracedCount" "I") (by decide +kernel)
  have kw1 := hts (.fieldLink RX4 43 "OathCoach" "traced" "[I") (by decide +kernel)
  have kw2 := hts (.constant RX4 62 (-1000001)) (by decide +kernel)
  have kw3 := hts (.fieldLink RX4 25 "OathCoach" "route" "LOathCoach$Route;") (by decide +kernel)
  have kw4 := hts (.fieldLink RX4 186 "OathCoach$Route" "weight" "[I") (by decide +kernel)
  have kw5 := hts (.fieldLink RX4 183 "OathCoach$Route" "place" "[I") (by decide +kernel)
  have hi_X1 : ∀ w ∈ u_ws RX1 TX1 12, w ∈ wsX4_runBody := by decide +kernel
  have hi_X4 : ∀ w ∈ u_ws RX4 TX4 10, w ∈ wsX4_runBody := by decide +kernel
  have L35 : ∀ (H : Heap) (locs : List Loc) (b : ob_B)  (ls : Array Slot), va_P (dC, dI) vwCl (ob_w4 o_b a_b cI b ++ ob_w1 (a_b 2) a_y cI y) H → va_D A (ob_w4 o_b a_b cI b ++ ob_w1 (a_b 2) a_y cI y) → va_S A s.heap H locs → lv_has ls 5 [(0, .ref o_b), (1, .int x1), (2, .int x2), (3, .int x3)] → fd_X4_runBody6_L35 b y x1 x2 x3 = some (rr, b') → W p l e ({ frames := 12, cells := 0, slots := 0, locals := 294 } : Room) s m (List.toArray [.ref o_b, .int x1, .int x2, .int x3]) below meth c H locs 0 0 (MQ below ((ob_Qi (dC, dI) rr (ob_w4 o_b a_b cI b' ++ ob_w1 (a_b 2) a_y cI y)) A) (List.toArray [.ref o_b, .int x1, .int x2, .int x3]) s 0 0 A) (F0 m 35 ls []) := by
    intro  H locs b ls hP hD hS hl hd
    rw [fd_X4_runBody6_L35] at hd
    refine lv_iload_n hx hb dX4_runBody_35 rfl (lv_at hl 3 rfl) ?_
    refine lv_iconst (v := 1) hx hb dX4_runBody_36 (by decide) ?_
    refine lv_iadd hx hb dX4_runBody_37 ?_
    refine lv_topi (fun x_4 ex_4 => ?_)
    replace hd := ob_lx ex_4 hd
    clear ex_4
    refine lv_istore (lv' := [(4, .int x_4), (0, .ref o_b), (1, .int x1), (2, .int x2), (3, .int x3)]) hx hb dX4_runBody_38 hl (by decide) rfl (fun ls hl => ?_)
    refine lv_iload_n hx hb dX4_runBody_40 rfl (lv_at hl 2 rfl) ?_
    by_cases c10_41 : x1 = 10
    · replace hd := ob_t c10_41 hd
      refine lv_tableIn (off := 75) (tgt := 116) hx hb dX4_runBody_41 (by rw [c10_41]; decide) (by rw [c10_41]; decide) (by rw [c10_41]; decide) (by decide) ?_
      refine lv_aload_n hx hb dX4_runBody_116 rfl (lv_at hl 1 rfl) ?_
      refine va_get (D := (dC, dI)) (ci := 4) (v := .ref (a_b 2)) (C := RX4) (T := TX4) (N := 10) hx hb hts hi_X4 hown hK hP 0 rfl rfl 2 (by decide) kw3 (fun _ h9 => h9) rfl dX4_runBody_117 ?_
      refine va_get (D := (dC, dI)) (ci := 1) (v := .ref (a_y 9)) (C := RX1) (T := TX1) (N := 12) hx hb hts hi_X1 hown hK hP 2 rfl rfl 9 (by decide) kw4 (fun _ h9 => h9) rfl dX4_runBody_120 ?_
      refine lv_iload_n hx hb dX4_runBody_123 rfl (lv_at hl 3 rfl) ?_
      obtain ⟨h1_124, hd⟩ := ob_nn hd
      refine va_iald hx hb hK hP 5 0 rfl rfl h1_124 dX4_runBody_124 ?_
      obtain ⟨e1, e2⟩ := ob_pp hd
      subst e1
      subst e2
      exact ob_iret hx hb hr hlocks hP hD hS dX4_runBody_125
    replace hd := ob_f c10_41 hd
    by_cases c11_41 : x1 = 11
    · replace hd := ob_t c11_41 hd
      refine lv_tableIn (off := 85) (tgt := 126) hx hb dX4_runBody_41 (by rw [c11_41]; decide) (by rw [c11_41]; decide) (by rw [c11_41]; decide) (by decide) ?_
      refine lv_aload_n hx hb dX4_runBody_126 rfl (lv_at hl 1 rfl) ?_
      refine lv_bipush (v := 10) hx hb dX4_runBody_127 (by decide) ?_
      refine lv_iload_n hx hb dX4_runBody_129 rfl (lv_at hl 3 rfl) ?_
      refine lv_iload hx hb dX4_runBody_130 (lv_at hl 0 rfl) ?_
      obtain ⟨r_5, b_6, hc_132, hd⟩ := ob_s2 hd
      refine ob_Vi (isC := [0, 1, 2, 3, 4, 5, 6, 7]) (isR := []) (is2 := [0, 1, 2, 3, 4, 5, 6, 7]) (wc := (ob_w4 o_b a_b cI b ++ ob_w1 (a_b 2) a_y cI y)) (wr := ([] : va_W)) (w1 := (ob_w4 o_b a_b cI b_6 ++ ob_w1 (a_b 2) a_y cI y)) (w2 := (ob_w4 o_b a_b cI b_6 ++ ob_w1 (a_b 2) a_y cI y)) (b := o_b) (As := [.int 10, .int x2, .int x_4]) (rest := []) ⟨hx, hb, hml, hown, hts⟩ (mt_X4_runBody5 l dC dI cI cZ cR cW xs _ o_b a_b a_y b y 10 x2 x_4 r_5 b_6 hc_132) (cwV 3 hts gX4_runBody_X4_runBody rfl rfl rfl (by decide +kernel) ⟨Nat.le_of_ble_eq_true rfl, Nat.le_of_ble_eq_true rfl⟩) hK hE hP hD hS hA ⟨rfl, rfl, rfl, rfl, rfl, rfl, rfl⟩ 4 0 rfl rfl rfl hl rfl rfl (Nat.le_of_ble_eq_true rfl) ⟨Nat.le_of_ble_eq_true rfl, Nat.le_of_ble_eq_true rfl⟩ dX4_runBody_132 (fun H locs hP hD hS => ?_)
      refine W.widen (k := 0) (n := 0) (Nat.le_refl _) (Nat.le_refl _) ?_
      refine lv_aload_n hx hb dX4_runBody_135 rfl (lv_at hl 1 rfl) ?_
      refine lv_iload_n hx hb dX4_runBody_136 rfl (lv_at hl 3 rfl) ?_
      refine lv_iconst (v := 1) hx hb dX4_runBody_137 (by decide) ?_
      refine lv_iload hx hb dX4_runBody_138 (lv_at hl 0 rfl) ?_
      obtain ⟨r_7, b_8, hc_140, hd⟩ := ob_s2 hd
      refine ob_Vi (isC := [0, 1, 2, 3, 4, 5, 6, 7]) (isR := []) (is2 := [0, 1, 2, 3, 4, 5, 6, 7]) (wc := (ob_w4 o_b a_b cI b_6 ++ ob_w1 (a_b 2) a_y cI y)) (wr := ([] : va_W)) (w1 := (ob_w4 o_b a_b cI b_8 ++ ob_w1 (a_b 2) a_y cI y)) (w2 := (ob_w4 o_b a_b cI b_8 ++ ob_w1 (a_b 2) a_y cI y)) (b := o_b) (As := [.int x2, .int 1, .int x_4]) (rest := [.int r_5]) ⟨hx, hb, hml, hown, hts⟩ (mt_X4_askAnew5 l dC dI cI cZ cR cW xs _ o_b a_b a_y b_6 y x2 1 x_4 r_7 b_8 hc_140) (cwV 3 hts gX4_runBody_X4_askAnew rfl rfl rfl (by decide +kernel) ⟨Nat.le_of_ble_eq_true rfl, Nat.le_of_ble_eq_true rfl⟩) hK hE hP hD hS hA ⟨rfl, rfl, rfl, rfl, rfl, rfl, rfl⟩ 4 0 rfl rfl rfl hl rfl rfl (Nat.le_of_ble_eq_true rfl) ⟨Nat.le_of_ble_eq_true rfl, Nat.le_of_ble_eq_true rfl⟩ dX4_runBody_140 (fun H locs hP hD hS => ?_)
      refine W.widen (k := 0) (n := 0) (Nat.le_refl _) (Nat.le_refl _) ?_
      refine lv_iadd hx hb dX4_runBody_143 ?_
      obtain ⟨e1, e2⟩ := ob_pp hd
      subst e1
      subst e2
      exact ob_iret hx hb hr hlocks hP hD hS dX4_runBody_144
    replace hd := ob_f c11_41 hd
    by_cases c12_41 : x1 = 12
    · replace hd := ob_t c12_41 hd
      refine lv_tableIn (off := 104) (tgt := 145) hx hb dX4_runBody_41 (by rw [c12_41]; decide) (by rw [c12_41]; decide) (by rw [c12_41]; decide) (by decide) ?_
      refine lv_aload_n hx hb dX4_runBody_145 rfl (lv_at hl 1 rfl) ?_
      refine lv_bipush (v := 11) hx hb dX4_runBody_146 (by decide) ?_
      refine lv_iload_n hx hb dX4_runBody_148 rfl (lv_at hl 3 rfl) ?_
      refine lv_iload hx hb dX4_runBody_149 (lv_at hl 0 rfl) ?_
      obtain ⟨r_9, b_10, hc_151, hd⟩ := ob_s2 hd
      refine ob_Vi (isC := [0, 1, 2, 3, 4, 5, 6, 7]) (isR := []) (is2 := [0, 1, 2, 3, 4, 5, 6, 7]) (wc := (ob_w4 o_b a_b cI b ++ ob_w1 (a_b 2) a_y cI y)) (wr := ([] : va_W)) (w1 := (ob_w4 o_b a_b cI b_10 ++ ob_w1 (a_b 2) a_y cI y)) (w2 := (ob_w4 o_b a_b cI b_10 ++ ob_w1 (a_b 2) a_y cI y)) (b := o_b) (As := [.int 11, .int x2, .int x_4]) (rest := []) ⟨hx, hb, hml, hown, hts⟩ (mt_X4_runBody5 l dC dI cI cZ cR cW xs _ o_b a_b a_y b y 11 x2 x_4 r_9 b_10 hc_151) (cwV 3 hts gX4_runBody_X4_runBody rfl rfl rfl (by decide +kernel) ⟨Nat.le_of_ble_eq_true rfl, Nat.le_of_ble_eq_true rfl⟩) hK hE hP hD hS hA ⟨rfl, rfl, rfl, rfl, rfl, rfl, rfl⟩ 4 0 rfl rfl rfl hl rfl rfl (Nat.le_of_ble_eq_true rfl) ⟨Nat.le_of_ble_eq_true rfl, Nat.le_of_ble_eq_true rfl⟩ dX4_runBody_151 (fun H locs hP hD hS => ?_)
      refine W.widen (k := 0) (n := 0) (Nat.le_refl _) (Nat.le_refl _) ?_
      refine lv_ineg hx hb dX4_runBody_154 ?_
      obtain ⟨e1, e2⟩ := ob_pp hd
      subst e1
      subst e2
      exact ob_iret hx hb hr hlocks hP hD hS dX4_runBody_155
    replace hd := ob_f c12_41 hd
    by_cases c13_41 : x1 = 13
    · replace hd := ob_t c13_41 hd
      refine lv_tableIn (off := 115) (tgt := 156) hx hb dX4_runBody_41 (by rw [c13_41]; decide) (by rw [c13_41]; decide) (by rw [c13_41]; decide) (by decide) ?_
      refine lv_aload_n hx hb dX4_runBody_156 rfl (lv_at hl 1 rfl) ?_
      refine lv_bipush (v := 10) hx hb dX4_runBody_157 (by decide) ?_
      refine lv_iload_n hx hb dX4_runBody_159 rfl (lv_at hl 3 rfl) ?_
      refine lv_iload hx hb dX4_runBody_160 (lv_at hl 0 rfl) ?_
      obtain ⟨r_11, b_12, hc_162, hd⟩ := ob_s2 hd
      refine ob_Vi (isC := [0, 1, 2, 3, 4, 5, 6, 7]) (isR := []) (is2 := [0, 1, 2, 3, 4, 5, 6, 7]) (wc := (ob_w4 o_b a_b cI b ++ ob_w1 (a_b 2) a_y cI y)) (wr := ([] : va_W)) (w1 := (ob_w4 o_b a_b cI b_12 ++ ob_w1 (a_b 2) a_y cI y)) (w2 := (ob_w4 o_b a_b cI b_12 ++ ob_w1 (a_b 2) a_y cI y)) (b := o_b) (As := [.int 10, .int x2, .int x_4]) (rest := []) ⟨hx, hb, hml, hown, hts⟩ (mt_X4_runBody5 l dC dI cI cZ cR cW xs _ o_b a_b a_y b y 10 x2 x_4 r_11 b_12 hc_162) (cwV 3 hts gX4_runBody_X4_runBody rfl rfl rfl (by decide +kernel) ⟨Nat.le_of_ble_eq_true rfl, Nat.le_of_ble_eq_true rfl⟩) hK hE hP hD hS hA ⟨rfl, rfl, rfl, rfl, rfl, rfl, rfl⟩ 4 0 rfl rfl rfl hl rfl rfl (Nat.le_of_ble_eq_true rfl) ⟨Nat.le_of_ble_eq_true rfl, Nat.le_of_ble_eq_true rfl⟩ dX4_runBody_162 (fun H locs hP hD hS => ?_)
      refine W.widen (k := 0) (n := 0) (Nat.le_refl _) (Nat.le_refl _) ?_
      refine lv_bipush (v := 100) hx hb dX4_runBody_165 (by decide) ?_
      refine lv_isub hx hb dX4_runBody_167 ?_
      obtain ⟨e1, e2⟩ := ob_pp hd
      subst e1
      subst e2
      exact ob_iret hx hb hr hlocks hP hD hS dX4_runBody_168
    replace hd := ob_f c13_41 hd
    by_cases c14_41 : x1 = 14
    · replace hd := ob_t c14_41 hd
      refine lv_tableIn (off := 128) (tgt := 169) hx hb dX4_runBody_41 (by rw [c14_41]; decide) (by rw [c14_41]; decide) (by rw [c14_41]; decide) (by decide) ?_
      refine lv_iconst (v := 2) hx hb dX4_runBody_169 (by decide) ?_
      refine lv_aload_n hx hb dX4_runBody_170 rfl (lv_at hl 1 rfl) ?_
      refine lv_bipush (v := 13) hx hb dX4_runBody_171 (by decide) ?_
      refine lv_iload_n hx hb dX4_runBody_173 rfl (lv_at hl 3 rfl) ?_
      refine lv_iload hx hb dX4_runBody_174 (lv_at hl 0 rfl) ?_
      obtain ⟨r_13, b_14, hc_176, hd⟩ := ob_s2 hd
      refine ob_Vi (isC := [0, 1, 2, 3, 4, 5, 6, 7]) (isR := []) (is2 := [0, 1, 2, 3, 4, 5, 6, 7]) (wc := (ob_w4 o_b a_b cI b ++ ob_w1 (a_b 2) a_y cI y)) (wr := ([] : va_W)) (w1 := (ob_w4 o_b a_b cI b_14 ++ ob_w1 (a_b 2) a_y cI y)) (w2 := (ob_w4 o_b a_b cI b_14 ++ ob_w1 (a_b 2) a_y cI y)) (b := o_b) (As := [.int 13, .int x2, .int x_4]) (rest := [.int 2]) ⟨hx, hb, hml, hown, hts⟩ (mt_X4_runBody5 l dC dI cI cZ cR cW xs _ o_b a_b a_y b y 13 x2 x_4 r_13 b_14 hc_176) (cwV 3 hts gX4_runBody_X4_runBody rfl rfl rfl (by decide +kernel) ⟨Nat.le_of_ble_eq_true rfl, Nat.le_of_ble_eq_true rfl⟩) hK hE hP hD hS hA ⟨rfl, rfl, rfl, rfl, rfl, rfl, rfl⟩ 4 0 rfl rfl rfl hl rfl rfl (Nat.le_of_ble_eq_true rfl) ⟨Nat.le_of_ble_eq_true rfl, Nat.le_of_ble_eq_true rfl⟩ dX4_runBody_176 (fun H locs hP hD hS => ?_)
      refine W.widen (k := 0) (n := 0) (Nat.le_refl _) (Nat.le_refl _) ?_
      refine lv_imul hx hb dX4_runBody_179 ?_
      obtain ⟨e1, e2⟩ := ob_pp hd
      subst e1
      subst e2
      exact ob_iret hx hb hr hlocks hP hD hS dX4_runBody_180
    replace hd := ob_f c14_41 hd
    by_cases c15_41 : x1 = 15
    · replace hd := ob_t c15_41 hd
      refine lv_tableIn (off := 207) (tgt := 248) hx hb dX4_runBody_41 (by rw [c15_41]; decide) (by rw [c15_41]; decide) (by rw [c15_41]; decide) (by decide) ?_
      refine lv_ldc hx hb hown kw2 dX4_runBody_248 ?_
      obtain ⟨e1, e2⟩ := ob_pp hd
      subst e1
      subst e2
      exact ob_iret hx hb hr hlocks hP hD hS dX4_runBody_250
    replace hd := ob_f c15_41 hd
    by_cases c16_41 : x1 = 16
    · replace hd := ob_t c16_41 hd
      refine lv_tableIn (off := 207) (tgt := 248) hx hb dX4_runBody_41 (by rw [c16_41]; decide) (by rw [c16_41]; decide) (by rw [c16_41]; decide) (by decide) ?_
      refine lv_ldc hx hb hown kw2 dX4_runBody_248 ?_
      obtain ⟨e1, e2⟩ := ob_pp hd
      subst e1
      subst e2
      exact ob_iret hx hb hr hlocks hP hD hS dX4_runBody_250
    replace hd := ob_f c16_41 hd
    by_cases c17_41 : x1 = 17
    · replace hd := ob_t c17_41 hd
      refine lv_tableIn (off := 207) (tgt := 248) hx hb dX4_runBody_41 (by rw [c17_41]; decide) (by rw [c17_41]; decide) (by rw [c17_41]; decide) (by decide) ?_
      refine lv_ldc hx hb hown kw2 dX4_runBody_248 ?_
      obtain ⟨e1, e2⟩ := ob_pp hd
      subst e1
      subst e2
      exact ob_iret hx hb hr hlocks hP hD hS dX4_runBody_250
    replace hd := ob_f c17_41 hd
    by_cases c18_41 : x1 = 18
    · replace hd := ob_t c18_41 hd
      refine lv_tableIn (off := 207) (tgt := 248) hx hb dX4_runBody_41 (by rw [c18_41]; decide) (by rw [c18_41]; decide) (by rw [c18_41]; decide) (by decide) ?_
      refine lv_ldc hx hb hown kw2 dX4_runBody_248 ?_
      obtain ⟨e1, e2⟩ := ob_pp hd
      subst e1
      subst e2
      exact ob_iret hx hb hr hlocks hP hD hS dX4_runBody_250
    replace hd := ob_f c18_41 hd
    by_cases c19_41 : x1 = 19
    · replace hd := ob_t c19_41 hd
      refine lv_tableIn (off := 207) (tgt := 248) hx hb dX4_runBody_41 (by rw [c19_41]; decide) (by rw [c19_41]; decide) (by rw [c19_41]; decide) (by decide) ?_
      refine lv_ldc hx hb hown kw2 dX4_runBody_248 ?_
      obtain ⟨e1, e2⟩ := ob_pp hd
      subst e1
      subst e2
      exact ob_iret hx hb hr hlocks hP hD hS dX4_runBody_250
    replace hd := ob_f c19_41 hd
    by_cases c20_41 : x1 = 20
    · replace hd := ob_t c20_41 hd
      refine lv_tableIn (off := 140) (tgt := 181) hx hb dX4_runBody_41 (by rw [c20_41]; decide) (by rw [c20_41]; decide) (by rw [c20_41]; decide) (by decide) ?_
      refine lv_iload_n hx hb dX4_runBody_181 rfl (lv_at hl 3 rfl) ?_
      obtain ⟨e1, e2⟩ := ob_pp hd
      subst e1
      subst e2
      exact ob_iret hx hb hr hlocks hP hD hS dX4_runBody_182
    replace hd := ob_f c20_41 hd
    by_cases c21_41 : x1 = 21
    · replace hd := ob_t c21_41 hd
      refine lv_tableIn (off := 142) (tgt := 183) hx hb dX4_runBody_41 (by rw [c21_41]; decide) (by rw [c21_41]; decide) (by rw [c21_41]; decide) (by decide) ?_
      refine lv_aload_n hx hb dX4_runBody_183 rfl (lv_at hl 1 rfl) ?_
      refine lv_bipush (v := 20) hx hb dX4_runBody_184 (by decide) ?_
      refine lv_iload_n hx hb dX4_runBody_186 rfl (lv_at hl 3 rfl) ?_
      refine lv_iload hx hb dX4_runBody_187 (lv_at hl 0 rfl) ?_
      obtain ⟨r_15, b_16, hc_189, hd⟩ := ob_s2 hd
      refine ob_Vi (isC := [0, 1, 2, 3, 4, 5, 6, 7]) (isR := []) (is2 := [0, 1, 2, 3, 4, 5, 6, 7]) (wc := (ob_w4 o_b a_b cI b ++ ob_w1 (a_b 2) a_y cI y)) (wr := ([] : va_W)) (w1 := (ob_w4 o_b a_b cI b_16 ++ ob_w1 (a_b 2) a_y cI y)) (w2 := (ob_w4 o_b a_b cI b_16 ++ ob_w1 (a_b 2) a_y cI y)) (b := o_b) (As := [.int 20, .int x2, .int x_4]) (rest := []) ⟨hx, hb, hml, hown, hts⟩ (mt_X4_runBody5 l dC dI cI cZ cR cW xs _ o_b a_b a_y b y 20 x2 x_4 r_15 b_16 hc_189) (cwV 3 hts gX4_runBody_X4_runBody rfl rfl rfl (by decide +kernel) ⟨Nat.le_of_ble_eq_true rfl, Nat.le_of_ble_eq_true rfl⟩) hK hE hP hD hS hA ⟨rfl, rfl, rfl, rfl, rfl, rfl, rfl⟩ 4 0 rfl rfl rfl hl rfl rfl (Nat.le_of_ble_eq_true rfl) ⟨Nat.le_of_ble_eq_true rfl, Nat.le_of_ble_eq_true rfl⟩ dX4_runBody_189 (fun H locs hP hD hS => ?_)
      refine W.widen (k := 0) (n := 0) (Nat.le_refl _) (Nat.le_refl _) ?_
      refine lv_aload_n hx hb dX4_runBody_192 rfl (lv_at hl 1 rfl) ?_
      refine va_get (D := (dC, dI)) (ci := 4) (v := .ref (a_b 2)) (C := RX4) (T := TX4) (N := 10) hx hb hts hi_X4 hown hK hP 0 rfl rfl 2 (by decide) kw3 (fun _ h9 => h9) rfl dX4_runBody_193 ?_
      refine va_get (D := (dC, dI)) (ci := 1) (v := .ref (a_y 8)) (C := RX1) (T := TX1) (N := 12) hx hb hts hi_X1 hown hK hP 2 rfl rfl 8 (by decide) kw5 (fun _ h9 => h9) rfl dX4_runBody_196 ?_
      refine lv_iload_n hx hb dX4_runBody_199 rfl (lv_at hl 3 rfl) ?_
      obtain ⟨h1_200, hd⟩ := ob_nn hd
      refine va_iald hx hb hK hP 4 0 rfl rfl h1_200 dX4_runBody_200 ?_
      refine lv_iadd hx hb dX4_runBody_201 ?_
      obtain ⟨e1, e2⟩ := ob_pp hd
      subst e1
      subst e2
      exact ob_iret hx hb hr hlocks hP hD hS dX4_runBody_202
    replace hd := ob_f c21_41 hd
    by_cases c22_41 : x1 = 22
    · replace hd := ob_t c22_41 hd
      refine lv_tableIn (off := 162) (tgt := 203) hx hb dX4_runBody_41 (by rw [c22_41]; decide) (by rw [c22_41]; decide) (by rw [c22_41]; decide) (by decide) ?_
      refine lv_aload_n hx hb dX4_runBody_203 rfl (lv_at hl 1 rfl) ?_
      refine lv_bipush (v := 21) hx hb dX4_runBody_204 (by decide) ?_
      refine lv_iload_n hx hb dX4_runBody_206 rfl (lv_at hl 3 rfl) ?_
      refine lv_iload hx hb dX4_runBody_207 (lv_at hl 0 rfl) ?_
      obtain ⟨r_17, b_18, hc_209, hd⟩ := ob_s2 hd
      refine ob_Vi (isC := [0, 1, 2, 3, 4, 5, 6, 7]) (isR := []) (is2 := [0, 1, 2, 3, 4, 5, 6, 7]) (wc := (ob_w4 o_b a_b cI b ++ ob_w1 (a_b 2) a_y cI y)) (wr := ([] : va_W)) (w1 := (ob_w4 o_b a_b cI b_18 ++ ob_w1 (a_b 2) a_y cI y)) (w2 := (ob_w4 o_b a_b cI b_18 ++ ob_w1 (a_b 2) a_y cI y)) (b := o_b) (As := [.int 21, .int x2, .int x_4]) (rest := []) ⟨hx, hb, hml, hown, hts⟩ (mt_X4_runBody5 l dC dI cI cZ cR cW xs _ o_b a_b a_y b y 21 x2 x_4 r_17 b_18 hc_209) (cwV 3 hts gX4_runBody_X4_runBody rfl rfl rfl (by decide +kernel) ⟨Nat.le_of_ble_eq_true rfl, Nat.le_of_ble_eq_true rfl⟩) hK hE hP hD hS hA ⟨rfl, rfl, rfl, rfl, rfl, rfl, rfl⟩ 4 0 rfl rfl rfl hl rfl rfl (Nat.le_of_ble_eq_true rfl) ⟨Nat.le_of_ble_eq_true rfl, Nat.le_of_ble_eq_true rfl⟩ dX4_runBody_209 (fun H locs hP hD hS => ?_)
      refine W.widen (k := 0) (n := 0) (Nat.le_refl _) (Nat.le_refl _) ?_
      refine lv_sipush (v := 1000) hx hb dX4_runBody_212 (by decide) ?_
      refine lv_isub hx hb dX4_runBody_215 ?_
      obtain ⟨e1, e2⟩ := ob_pp hd
      subst e1
      subst e2
      exact ob_iret hx hb hr hlocks hP hD hS dX4_runBody_216
    replace hd := ob_f c22_41 hd
    by_cases c23_41 : x1 = 23
    · replace hd := ob_t c23_41 hd
      refine lv_tableIn (off := 176) (tgt := 217) hx hb dX4_runBody_41 (by rw [c23_41]; decide) (by rw [c23_41]; decide) (by rw [c23_41]; decide) (by decide) ?_
      refine lv_aload_n hx hb dX4_runBody_217 rfl (lv_at hl 1 rfl) ?_
      refine lv_bipush (v := 20) hx hb dX4_runBody_218 (by decide) ?_
      refine lv_iload_n hx hb dX4_runBody_220 rfl (lv_at hl 3 rfl) ?_
      refine lv_iload hx hb dX4_runBody_221 (lv_at hl 0 rfl) ?_
      obtain ⟨r_19, b_20, hc_223, hd⟩ := ob_s2 hd
      refine ob_Vi (isC := [0, 1, 2, 3, 4, 5, 6, 7]) (isR := []) (is2 := [0, 1, 2, 3, 4, 5, 6, 7]) (wc := (ob_w4 o_b a_b cI b ++ ob_w1 (a_b 2) a_y cI y)) (wr := ([] : va_W)) (w1 := (ob_w4 o_b a_b cI b_20 ++ ob_w1 (a_b 2) a_y cI y)) (w2 := (ob_w4 o_b a_b cI b_20 ++ ob_w1 (a_b 2) a_y cI y)) (b := o_b) (As := [.int 20, .int x2, .int x_4]) (rest := []) ⟨hx, hb, hml, hown, hts⟩ (mt_X4_runBody5 l dC dI cI cZ cR cW xs _ o_b a_b a_y b y 20 x2 x_4 r_19 b_20 hc_223) (cwV 3 hts gX4_runBody_X4_runBody rfl rfl rfl (by decide +kernel) ⟨Nat.le_of_ble_eq_true rfl, Nat.le_of_ble_eq_true rfl⟩) hK hE hP hD hS hA ⟨rfl, rfl, rfl, rfl, rfl, rfl, rfl⟩ 4 0 rfl rfl rfl hl rfl rfl (Nat.le_of_ble_eq_true rfl) ⟨Nat.le_of_ble_eq_true rfl, Nat.le_of_ble_eq_true rfl⟩ dX4_runBody_223 (fun H locs hP hD hS => ?_)
      refine W.widen (k := 0) (n := 0) (Nat.le_refl _) (Nat.le_refl _) ?_
      refine lv_aload_n hx hb dX4_runBody_226 rfl (lv_at hl 1 rfl) ?_
      refine lv_iload_n hx hb dX4_runBody_227 rfl (lv_at hl 3 rfl) ?_
      refine lv_iconst (v := 0) hx hb dX4_runBody_228 (by decide) ?_
      refine lv_iload hx hb dX4_runBody_229 (lv_at hl 0 rfl) ?_
      obtain ⟨r_21, b_22, hc_231, hd⟩ := ob_s2 hd
      refine ob_Vi (isC := [0, 1, 2, 3, 4, 5, 6, 7]) (isR := []) (is2 := [0, 1, 2, 3, 4, 5, 6, 7]) (wc := (ob_w4 o_b a_b cI b_20 ++ ob_w1 (a_b 2) a_y cI y)) (wr := ([] : va_W)) (w1 := (ob_w4 o_b a_b cI b_22 ++ ob_w1 (a_b 2) a_y cI y)) (w2 := (ob_w4 o_b a_b cI b_22 ++ ob_w1 (a_b 2) a_y cI y)) (b := o_b) (As := [.int x2, .int 0, .int x_4]) (rest := [.int r_19]) ⟨hx, hb, hml, hown, hts⟩ (mt_X4_askAnew5 l dC dI cI cZ cR cW xs _ o_b a_b a_y b_20 y x2 0 x_4 r_21 b_22 hc_231) (cwV 3 hts gX4_runBody_X4_askAnew rfl rfl rfl (by decide +kernel) ⟨Nat.le_of_ble_eq_true rfl, Nat.le_of_ble_eq_true rfl⟩) hK hE hP hD hS hA ⟨rfl, rfl, rfl, rfl, rfl, rfl, rfl⟩ 4 0 rfl rfl rfl hl rfl rfl (Nat.le_of_ble_eq_true rfl) ⟨Nat.le_of_ble_eq_true rfl, Nat.le_of_ble_eq_true rfl⟩ dX4_runBody_231 (fun H locs hP hD hS => ?_)
      refine W.widen (k := 0) (n := 0) (Nat.le_refl _) (Nat.le_refl _) ?_
      refine lv_isub hx hb dX4_runBody_234 ?_
      obtain ⟨e1, e2⟩ := ob_pp hd
      subst e1
      subst e2
      exact ob_iret hx hb hr hlocks hP hD hS dX4_runBody_235
    replace hd := ob_f c23_41 hd
    by_cases c24_41 : x1 = 24
    · replace hd := ob_t c24_41 hd
      refine lv_tableIn (off := 195) (tgt := 236) hx hb dX4_runBody_41 (by rw [c24_41]; decide) (by rw [c24_41]; decide) (by rw [c24_41]; decide) (by decide) ?_
      refine lv_iconst (v := 2) hx hb dX4_runBody_236 (by decide) ?_
      refine lv_aload_n hx hb dX4_runBody_237 rfl (lv_at hl 1 rfl) ?_
      refine lv_bipush (v := 21) hx hb dX4_runBody_238 (by decide) ?_
      refine lv_iload_n hx hb dX4_runBody_240 rfl (lv_at hl 3 rfl) ?_
      refine lv_iload hx hb dX4_runBody_241 (lv_at hl 0 rfl) ?_
      obtain ⟨r_23, b_24, hc_243, hd⟩ := ob_s2 hd
      refine ob_Vi (isC := [0, 1, 2, 3, 4, 5, 6, 7]) (isR := []) (is2 := [0, 1, 2, 3, 4, 5, 6, 7]) (wc := (ob_w4 o_b a_b cI b ++ ob_w1 (a_b 2) a_y cI y)) (wr := ([] : va_W)) (w1 := (ob_w4 o_b a_b cI b_24 ++ ob_w1 (a_b 2) a_y cI y)) (w2 := (ob_w4 o_b a_b cI b_24 ++ ob_w1 (a_b 2) a_y cI y)) (b := o_b) (As := [.int 21, .int x2, .int x_4]) (rest := [.int 2]) ⟨hx, hb, hml, hown, hts⟩ (mt_X4_runBody5 l dC dI cI cZ cR cW xs _ o_b a_b a_y b y 21 x2 x_4 r_23 b_24 hc_243) (cwV 3 hts gX4_runBody_X4_runBody rfl rfl rfl (by decide +kernel) ⟨Nat.le_of_ble_eq_true rfl, Nat.le_of_ble_eq_true rfl⟩) hK hE hP hD hS hA ⟨rfl, rfl, rfl, rfl, rfl, rfl, rfl⟩ 4 0 rfl rfl rfl hl rfl rfl (Nat.le_of_ble_eq_true rfl) ⟨Nat.le_of_ble_eq_true rfl, Nat.le_of_ble_eq_true rfl⟩ dX4_runBody_243 (fun H locs hP hD hS => ?_)
      refine W.widen (k := 0) (n := 0) (Nat.le_refl _) (Nat.le_refl _) ?_
      refine lv_imul hx hb dX4_runBody_246 ?_
      obtain ⟨e1, e2⟩ := ob_pp hd
      subst e1
      subst e2
      exact ob_iret hx hb hr hlocks hP hD hS dX4_runBody_247
    replace hd := ob_f c24_41 hd
    refine lv_tableOut (tgt := 248) hx hb dX4_runBody_41 (by have n10 := lv_neT c10_41 (show (10 : Int32).toInt = 10 from rfl); have n11 := lv_neT c11_41 (show (11 : Int32).toInt = 11 from rfl); have n12 := lv_neT c12_41 (show (12 : Int32).toInt = 12 from rfl); have n13 := lv_neT c13_41 (show (13 : Int32).toInt = 13 from rfl); have n14 := lv_neT c14_41 (show (14 : Int32).toInt = 14 from rfl); have n15 := lv_neT c15_41 (show (15 : Int32).toInt = 15 from rfl); have n16 := lv_neT c16_41 (show (16 : Int32).toInt = 16 from rfl); have n17 := lv_neT c17_41 (show (17 : Int32).toInt = 17 from rfl); have n18 := lv_neT c18_41 (show (18 : Int32).toInt = 18 from rfl); have n19 := lv_neT c19_41 (show (19 : Int32).toInt = 19 from rfl); have n20 := lv_neT c20_41 (show (20 : Int32).toInt = 20 from rfl); have n21 := lv_neT c21_41 (show (21 : Int32).toInt = 21 from rfl); have n22 := lv_neT c22_41 (show (22 : Int32).toInt = 22 from rfl); have n23 := lv_neT c23_41 (show (23 : Int32).toInt = 23 from rfl); have n24 := lv_neT c24_41 (show (24 : Int32).toInt = 24 from rfl); omega) (by decide) ?_
    refine lv_ldc hx hb hown kw2 dX4_runBody_248 ?_
    obtain ⟨e1, e2⟩ := ob_pp hd
    subst e1
    subst e2
    exact ob_iret hx hb hr hlocks hP hD hS dX4_runBody_250
  refine lv_iload_n hx hb dX4_runBody_0 rfl (lv_at hl 3 rfl) ?_
  refine lv_bipush (v := 12) hx hb dX4_runBody_1 (by decide) ?_
  refine lv_icmp_le (tgt := 9) hx hb dX4_runBody_3 (by decide) (fun c_3 => ?_) (fun c_3 => ?_)
  · replace hd := ob_t c_3 hd
    refine lv_aload_n hx hb dX4_runBody_9 rfl (lv_at hl 0 rfl) ?_
    refine va_get (D := (dC, dI)) (ci := 4) (v := .int (b.1 7)) (C := RX4) (T := TX4) (N := 10) hx hb hts hi_X4 hown hK hP 0 rfl rfl 7 (by decide) kw0 (fun _ h9 => h9) rfl dX4_runBody_10 ?_
    refine lv_bipush (v := 16) hx hb dX4_runBody_13 (by decide) ?_
    refine lv_icmp_ge (tgt := 35) hx hb dX4_runBody_15 (by decide) (fun c_15 => ?_) (fun c_15 => ?_)
    · replace hd := ob_t c_15 hd
      exact L35   _ _ b _ hP hD hS (lv_sub hl [0, 1, 2, 3] rfl) hd
    · replace hd := ob_f c_15 hd
      refine lv_aload_n hx hb dX4_runBody_18 rfl (lv_at hl 0 rfl) ?_
      refine va_get (D := (dC, dI)) (ci := 4) (v := .ref (a_b 6)) (C := RX4) (T := TX4) (N := 10) hx hb hts hi_X4 hown hK hP 0 rfl rfl 6 (by decide) kw1 (fun _ h9 => h9) rfl dX4_runBody_19 ?_
      refine lv_aload_n hx hb dX4_runBody_22 rfl (lv_at hl 0 rfl) ?_
      refine lv_dup hx hb dX4_runBody_23 rfl ?_
      refine va_get (D := (dC, dI)) (ci := 4) (v := .int (b.1 7)) (C := RX4) (T := TX4) (N := 10) hx hb hts hi_X4 hown hK hP 0 rfl rfl 7 (by decide) kw0 (fun _ h9 => h9) rfl dX4_runBody_24 ?_
      refine lv_dup_x1 hx hb dX4_runBody_27 rfl rfl ?_
      refine lv_iconst (v := 1) hx hb dX4_runBody_28 (by decide) ?_
      refine lv_iadd hx hb dX4_runBody_29 ?_
      refine lv_topi (fun x_1 ex_1 => ?_)
      replace hd := ob_lx ex_1 hd
      clear ex_1
      refine va_put (D := (dC, dI)) (ci := 4) (v := .int x_1) (ty := .int) (C := RX4) (T := TX4) (N := 10) hx hb hts hi_X4 tyX4 tyX4_ok nmX4 hown hK hP hD hS 0 rfl rfl 7 (by decide) kw0 (fun _ h9 => h9) rfl (by decide +kernel) rfl rfl (Nat.le_of_ble_eq_true rfl) dX4_runBody_30 (fun H locs hP hD hS => ?_)
      obtain ⟨b_2, eb_2⟩ : ∃ z : ob_B, z = ob_I b 7 x_1 := ⟨_, rfl⟩
      replace hd := ob_lx eb_2 hd
      replace hP : va_P (dC, dI) vwCl (ob_w4 o_b a_b cI b_2 ++ ob_w1 (a_b 2) a_y cI y) H := by rw [eb_2]; exact hP
      replace hD : va_D A (ob_w4 o_b a_b cI b_2 ++ ob_w1 (a_b 2) a_y cI y) := by rw [eb_2]; exact hD
      clear eb_2
      refine lv_iload_n hx hb dX4_runBody_33 rfl (lv_at hl 1 rfl) ?_
      obtain ⟨h1_34, hd⟩ := ob_nn hd
      refine va_iast hx hb hK hP hD hS 1 0 rfl rfl h1_34 dX4_runBody_34 (fun H locs hP hD hS => ?_)
      obtain ⟨b_3, eb_3⟩ : ∃ z : ob_B, z = ob_A b_2 6 (upd (b_2.2 6) (Int32.toNatClampNeg (b.1 7)) x1) := ⟨_, rfl⟩
      replace hd := ob_lx eb_3 hd
      replace hP : va_P (dC, dI) vwCl (ob_w4 o_b a_b cI b_3 ++ ob_w1 (a_b 2) a_y cI y) H := by rw [eb_3]; exact hP
      replace hD : va_D A (ob_w4 o_b a_b cI b_3 ++ ob_w1 (a_b 2) a_y cI y) := by rw [eb_3]; exact hD
      clear eb_3
      exact L35   _ _ b_3 _ hP hD hS (lv_sub hl [0, 1, 2, 3] rfl) hd
  · replace hd := ob_f c_3 hd
    refine lv_ldc hx hb hown kw2 dX4_runBody_6 ?_
    obtain ⟨e1, e2⟩ := ob_pp hd
    subst e1
    subst e2
    exact ob_iret hx hb hr hlocks hP hD hS dX4_runBody_8

def fd_X4_askAnew6_L49  (b : ob_B) (y : ob_B) (x1 : Int32) (x2 : Int32) (x3 : Int32) (z4 : Int32) : Option (Int32 × ob_B) := ob_b1 (fd_X4_toldBody z4 x2) (fun r_5 => ob_b2 (fd_X4_runBody6 b y r_5 x1 x3) (fun r_6 b_7 => some (r_6, b_7)))
def fd_X4_askAnew6_L14  : Nat → ob_B → ob_B → Int32 → Int32 → Int32 → Int32 → Int32 → Option (Int32 × ob_B)
  | 0, _, _, _, _, _, _, _ => none
  | fu + 1, b, y, x1, x2, x3, z4, z5 => if 6 ≤ z5 then (fd_X4_askAnew6_L49 b y x1 x2 x3 z4) else (if z4 ≤ 0 then (fd_X4_askAnew6_L49 b y x1 x2 x3 z4) else (ob_b1 (fd_X4_toldBody z4 x2) (fun r_2 => if r_2 = 0 then (if z4 < 0 ∨ 6 ≤ Int32.toNatClampNeg z4 then none else (ob_lt (([0, 0, 1, 1, 0, 4] : List Int32).getD (Int32.toNatClampNeg z4) 0 : Int32) (fun x_3 => ob_lt (z5 + 1 : Int32) (fun x_4 => fd_X4_askAnew6_L14 fu b y x1 x2 x3 x_3 x_4)))) else (fd_X4_askAnew6_L49 b y x1 x2 x3 z4))))
def fd_X4_askAnew6  (b : ob_B) (y : ob_B) (x1 : Int32) (x2 : Int32) (x3 : Int32) : Option (Int32 × ob_B) := if x1 < 0 ∨ 7 ≤ Int32.toNatClampNeg x1 then none else (ob_lt ((y.2 7) (Int32.toNatClampNeg x1) : Int32) (fun x_1 => fd_X4_askAnew6_L14 2000 b y x1 x2 x3 x_1 0))
set_option maxHeartbeats 4000000 in
set_option maxRecDepth 100000 in
theorem mt_X4_askAnew6 (l : Launch) (dC : Nat → ClassId) (dI : Nat → Nat → Nat) (cI cZ cR cW : ClassId) (xs : Nat → Nat) (sz : Nat) (o_b : Nat) (a_b : Nat → Nat) (a_y : Nat → Nat) (b : ob_B) (y : ob_B) (x1 : Int32) (x2 : Int32) (x3 : Int32)  (rr : Int32) (b' : ob_B) (hd : fd_X4_askAnew6 b y x1 x2 x3 = some (rr, b')) : ob_M l yX4_askAnew wsX4_askAnew ({ frames := 13, cells := 0, slots := 0, locals := 318 } : Room) (dC, dI) (ob_ty cI cZ cR cW) xs [.ref o_b, .int x1, .int x2, .int x3] (ob_w4 o_b a_b cI b ++ ob_w1 (a_b 2) a_y cI y) sz (ob_Qi (dC, dI) rr (ob_w4 o_b a_b cI b' ++ ob_w1 (a_b 2) a_y cI y)) := by
  rw [fd_X4_askAnew6] at hd
  refine ob_in (cc := cX4_askAnew) (maxL := 6) (ret := (some .int)) (own := RX4) (by decide) rfl rfl [(0, .ref o_b), (1, .int x1), (2, .int x2), (3, .int x3)] rfl (Nat.le_of_ble_eq_true rfl) ?_
  intro p e s m below meth c hx hb hr hml hown hts hlocks hnm hK A hA hE hP hD hS ls hl
  have kw0 := hts (.fieldLink RX4 25 "OathCoach" "route" "LOathCoach$Route;") (by decide +kernel)
  have kw1 := hts (.fieldLink RX4 213 "OathCoach$Route" "kind" "[I") (by decide +kernel)
  have kw2 := hts (.fieldLink RX4 245 "OathCoach" "KIND_ABOVE" "[I") (by decide +kernel)
  have hi_X1 : ∀ w ∈ u_ws RX1 TX1 12, w ∈ wsX4_askAnew := by decide +kernel
  have hi_X4 : ∀ w ∈ u_ws RX4 TX4 10, w ∈ wsX4_askAnew := by decide +kernel
  obtain ⟨hE1, hE2, hE3, hE4, hE5, hE6, hE7, hE8, hE9, -⟩ := id hE
  have hET : va_T .byte (xs 4) 5 (fun j => .int (([111, 109, 108, 102, 118] : List Int32).getD j 0)) A s s.heap := (hE8.1 0 (by decide)).2.2.2
  have L49 : ∀ (H : Heap) (locs : List Loc) (b : ob_B) (z4 : Int32) (ls : Array Slot), va_P (dC, dI) vwCl (ob_w4 o_b a_b cI b ++ ob_w1 (a_b 2) a_y cI y) H → va_D A (ob_w4 o_b a_b cI b ++ ob_w1 (a_b 2) a_y cI y) → va_S A s.heap H locs → lv_has ls 6 [(0, .ref o_b), (1, .int x1), (2, .int x2), (3, .int x3), (4, .int z4)] → fd_X4_askAnew6_L49 b y x1 x2 x3 z4 = some (rr, b') → W p l e ({ frames := 13, cells := 0, slots := 0, locals := 318 } : Room) s m (List.toArray [.ref o_b, .int x1, .int x2, .int x3]) below meth c H locs 0 0 (MQ below ((ob_Qi (dC, dI) rr (ob_w4 o_b a_b cI b' ++ ob_w1 (a_b 2) a_y cI y)) A) (List.toArray [.ref o_b, .int x1, .int x2, .int x3]) s 0 0 A) (F0 m 49 ls []) := by
    intro  H locs b z4 ls hP hD hS hl hd
    rw [fd_X4_askAnew6_L49] at hd
    refine lv_aload_n hx hb dX4_askAnew_49 rfl (lv_at hl 0 rfl) ?_
    refine lv_iload hx hb dX4_askAnew_50 (lv_at hl 4 rfl) ?_
    refine lv_iload_n hx hb dX4_askAnew_52 rfl (lv_at hl 2 rfl) ?_
    obtain ⟨r_5, hc_53, hd⟩ := ob_s1 hd
    refine ob_Si (isC := []) (isR := [0, 1, 2, 3, 4, 5, 6, 7]) (is2 := [0, 1, 2, 3, 4, 5, 6, 7]) (wc := ([] : va_W)) (wr := (List.filterMap (fun i => (ob_w4 o_b a_b cI b ++ ob_w1 (a_b 2) a_y cI y)[i]?) [0, 1, 2, 3, 4, 5, 6, 7])) (w1 := ([] : va_W)) (w2 := (ob_w4 o_b a_b cI b ++ ob_w1 (a_b 2) a_y cI y)) (As := [.int z4, .int x2]) (rest := [.ref o_b]) ⟨hx, hb, hml, hown, hts⟩ (mt_X4_toldBody l dC dI cI cZ cR cW xs _ z4 x2 r_5 hc_53) (va_cwS 2 hts gX4_askAnew_X4_toldBody rfl rfl rfl (by decide +kernel) ⟨Nat.le_of_ble_eq_true rfl, Nat.le_of_ble_eq_true rfl⟩) hK hE hP hD hS hA ⟨rfl, rfl, rfl, rfl, rfl, rfl, rfl⟩ hl rfl rfl (Nat.le_of_ble_eq_true rfl) ⟨Nat.le_of_ble_eq_true rfl, Nat.le_of_ble_eq_true rfl⟩ dX4_askAnew_53 (fun H locs hP hD hS => ?_)
    refine W.widen (k := 0) (n := 0) (Nat.le_refl _) (Nat.le_refl _) ?_
    refine lv_iload_n hx hb dX4_askAnew_56 rfl (lv_at hl 1 rfl) ?_
    refine lv_iload_n hx hb dX4_askAnew_57 rfl (lv_at hl 3 rfl) ?_
    obtain ⟨r_6, b_7, hc_58, hd⟩ := ob_s2 hd
    refine ob_Vi (isC := [0, 1, 2, 3, 4, 5, 6, 7]) (isR := []) (is2 := [0, 1, 2, 3, 4, 5, 6, 7]) (wc := (ob_w4 o_b a_b cI b ++ ob_w1 (a_b 2) a_y cI y)) (wr := ([] : va_W)) (w1 := (ob_w4 o_b a_b cI b_7 ++ ob_w1 (a_b 2) a_y cI y)) (w2 := (ob_w4 o_b a_b cI b_7 ++ ob_w1 (a_b 2) a_y cI y)) (b := o_b) (As := [.int r_5, .int x1, .int x3]) (rest := []) ⟨hx, hb, hml, hown, hts⟩ (mt_X4_runBody6 l dC dI cI cZ cR cW xs _ o_b a_b a_y b y r_5 x1 x3 r_6 b_7 hc_58) (cwV 3 hts gX4_askAnew_X4_runBody rfl rfl rfl (by decide +kernel) ⟨Nat.le_of_ble_eq_true rfl, Nat.le_of_ble_eq_true rfl⟩) hK hE hP hD hS hA ⟨rfl, rfl, rfl, rfl, rfl, rfl, rfl⟩ 4 0 rfl rfl rfl hl rfl rfl (Nat.le_of_ble_eq_true rfl) ⟨Nat.le_of_ble_eq_true rfl, Nat.le_of_ble_eq_true rfl⟩ dX4_askAnew_58 (fun H locs hP hD hS => ?_)
    refine W.widen (k := 0) (n := 0) (Nat.le_refl _) (Nat.le_refl _) ?_
    obtain ⟨e1, e2⟩ := ob_pp hd
    subst e1
    subst e2
    exact ob_iret hx hb hr hlocks hP hD hS dX4_askAnew_61
  have L14 : ∀  (fu : Nat), ∀ (H : Heap) (locs : List Loc) (b : ob_B) (z4 : Int32) (z5 : Int32) (ls : Array Slot), va_P (dC, dI) vwCl (ob_w4 o_b a_b cI b ++ ob_w1 (a_b 2) a_y cI y) H → va_D A (ob_w4 o_b a_b cI b ++ ob_w1 (a_b 2) a_y cI y) → va_S A s.heap H locs → lv_has ls 6 [(0, .ref o_b), (1, .int x1), (2, .int x2), (3, .int x3), (4, .int z4), (5, .int z5)] → fd_X4_askAnew6_L14 fu b y x1 x2 x3 z4 z5 = some (rr, b') → W p l e ({ frames := 13, cells := 0, slots := 0, locals := 318 } : Room) s m (List.toArray [.ref o_b, .int x1, .int x2, .int x3]) below meth c H locs 0 0 (MQ below ((ob_Qi (dC, dI) rr (ob_w4 o_b a_b cI b' ++ ob_w1 (a_b 2) a_y cI y)) A) (List.toArray [.ref o_b, .int x1, .int x2, .int x3]) s 0 0 A) (F0 m 14 ls []) := by
    intro  fu
    induction fu with
    | zero =>
      intro H locs b z4 z5 ls hP hD hS hl hd
      rw [fd_X4_askAnew6_L14] at hd
      cases hd
    | succ fu ih =>
      intro H locs b z4 z5 ls hP hD hS hl hd
      rw [fd_X4_askAnew6_L14] at hd
      refine lv_iload hx hb dX4_askAnew_14 (lv_at hl 5 rfl) ?_
      refine lv_bipush (v := 6) hx hb dX4_askAnew_16 (by decide) ?_
      refine lv_icmp_ge (tgt := 49) hx hb dX4_askAnew_18 (by decide) (fun c_18 => ?_) (fun c_18 => ?_)
      · replace hd := ob_t c_18 hd
        exact L49   _ _ b z4 _ hP hD hS (lv_sub hl [0, 1, 2, 3, 4] rfl) hd
      · replace hd := ob_f c_18 hd
        refine lv_iload hx hb dX4_askAnew_21 (lv_at hl 4 rfl) ?_
        refine lv_if_le (tgt := 49) hx hb dX4_askAnew_23 (by decide) (fun c_23 => ?_) (fun c_23 => ?_)
        · replace hd := ob_t c_23 hd
          exact L49   _ _ b z4 _ hP hD hS (lv_sub hl [0, 1, 2, 3, 4] rfl) hd
        · replace hd := ob_f c_23 hd
          refine lv_iload hx hb dX4_askAnew_26 (lv_at hl 4 rfl) ?_
          refine lv_iload_n hx hb dX4_askAnew_28 rfl (lv_at hl 2 rfl) ?_
          obtain ⟨r_2, hc_29, hd⟩ := ob_s1 hd
          refine ob_Si (isC := []) (isR := [0, 1, 2, 3, 4, 5, 6, 7]) (is2 := [0, 1, 2, 3, 4, 5, 6, 7]) (wc := ([] : va_W)) (wr := (List.filterMap (fun i => (ob_w4 o_b a_b cI b ++ ob_w1 (a_b 2) a_y cI y)[i]?) [0, 1, 2, 3, 4, 5, 6, 7])) (w1 := ([] : va_W)) (w2 := (ob_w4 o_b a_b cI b ++ ob_w1 (a_b 2) a_y cI y)) (As := [.int z4, .int x2]) (rest := []) ⟨hx, hb, hml, hown, hts⟩ (mt_X4_toldBody l dC dI cI cZ cR cW xs _ z4 x2 r_2 hc_29) (va_cwS 2 hts gX4_askAnew_X4_toldBody rfl rfl rfl (by decide +kernel) ⟨Nat.le_of_ble_eq_true rfl, Nat.le_of_ble_eq_true rfl⟩) hK hE hP hD hS hA ⟨rfl, rfl, rfl, rfl, rfl, rfl, rfl⟩ hl rfl rfl (Nat.le_of_ble_eq_true rfl) ⟨Nat.le_of_ble_eq_true rfl, Nat.le_of_ble_eq_true rfl⟩ dX4_askAnew_29 (fun H locs hP hD hS => ?_)
          refine W.widen (k := 0) (n := 0) (Nat.le_refl _) (Nat.le_refl _) ?_
          refine lv_if_ne (tgt := 49) hx hb dX4_askAnew_32 (by decide) (fun c_32 => ?_) (fun c_32 => ?_)
          · replace hd := ob_f c_32 hd
            exact L49   _ _ b z4 _ hP hD hS (lv_sub hl [0, 1, 2, 3, 4] rfl) hd
          · replace hd := ob_t c_32 hd
            refine va_gets hx hb hE1 hS hown kw2 (fun _ h9 => h9) dX4_askAnew_35 ?_
            refine lv_iload hx hb dX4_askAnew_38 (lv_at hl 4 rfl) ?_
            obtain ⟨h1_40, hd⟩ := ob_nn hd
            refine va_ti hx hb hE2 hS h1_40 rfl dX4_askAnew_40 ?_
            refine lv_topi (fun x_3 ex_3 => ?_)
            replace hd := ob_lx ex_3 hd
            clear ex_3
            refine lv_istore (lv' := [(4, .int x_3), (0, .ref o_b), (1, .int x1), (2, .int x2), (3, .int x3), (5, .int z5)]) hx hb dX4_askAnew_41 hl (by decide) rfl (fun ls hl => ?_)
            obtain ⟨x_4, ex_4⟩ : ∃ z : Int32, z = z5 + 1 := ⟨_, rfl⟩
            replace hd := ob_lx ex_4 hd
            refine lv_iinc (v := x_4) (lv' := [(5, .int x_4), (4, .int x_3), (0, .ref o_b), (1, .int x1), (2, .int x2), (3, .int x3)]) hx hb dX4_askAnew_43 hl (k := 5) rfl (by rw [ex_4]; rfl) (by decide) rfl (fun ls hl => ?_)
            clear ex_4
            refine lv_goto (tgt := 14) hx hb dX4_askAnew_46 (by decide) ?_
            exact ih _ _ b x_3 x_4 _ hP hD hS (lv_sub hl [2, 3, 4, 5, 1, 0] rfl) hd
  refine lv_aload_n hx hb dX4_askAnew_0 rfl (lv_at hl 0 rfl) ?_
  refine va_get (D := (dC, dI)) (ci := 4) (v := .ref (a_b 2)) (C := RX4) (T := TX4) (N := 10) hx hb hts hi_X4 hown hK hP 0 rfl rfl 2 (by decide) kw0 (fun _ h9 => h9) rfl dX4_askAnew_1 ?_
  refine va_get (D := (dC, dI)) (ci := 1) (v := .ref (a_y 7)) (C := RX1) (T := TX1) (N := 12) hx hb hts hi_X1 hown hK hP 2 rfl rfl 7 (by decide) kw1 (fun _ h9 => h9) rfl dX4_askAnew_4 ?_
  refine lv_iload_n hx hb dX4_askAnew_7 rfl (lv_at hl 1 rfl) ?_
  obtain ⟨h1_8, hd⟩ := ob_nn hd
  refine va_iald hx hb hK hP 3 0 rfl rfl h1_8 dX4_askAnew_8 ?_
  refine lv_topi (fun x_1 ex_1 => ?_)
  replace hd := ob_lx ex_1 hd
  clear ex_1
  refine lv_istore (lv' := [(4, .int x_1), (0, .ref o_b), (1, .int x1), (2, .int x2), (3, .int x3)]) hx hb dX4_askAnew_9 hl (by decide) rfl (fun ls hl => ?_)
  refine lv_iconst (v := 0) hx hb dX4_askAnew_11 (by decide) ?_
  refine lv_istore (lv' := [(5, .int 0), (4, .int x_1), (0, .ref o_b), (1, .int x1), (2, .int x2), (3, .int x3)]) hx hb dX4_askAnew_12 hl (by decide) rfl (fun ls hl => ?_)
  exact L14  2000 _ _ b x_1 0 _ hP hD hS (lv_sub hl [2, 3, 4, 5, 1, 0] rfl) hd

def fd_X4_runBody7_L35  (b : ob_B) (y : ob_B) (x1 : Int32) (x2 : Int32) (x3 : Int32) : Option (Int32 × ob_B) := ob_lt (x3 + 1 : Int32) (fun x_4 => if x1 = 10 then (if x2 < 0 ∨ 7 ≤ Int32.toNatClampNeg x2 then none else (some ((y.2 9) (Int32.toNatClampNeg x2), b))) else (if x1 = 11 then (ob_b2 (fd_X4_runBody6 b y 10 x2 x_4) (fun r_5 b_6 => ob_b2 (fd_X4_askAnew6 b_6 y x2 1 x_4) (fun r_7 b_8 => some (r_5 + r_7, b_8)))) else (if x1 = 12 then (ob_b2 (fd_X4_runBody6 b y 11 x2 x_4) (fun r_9 b_10 => some (-r_9, b_10))) else (if x1 = 13 then (ob_b2 (fd_X4_runBody6 b y 10 x2 x_4) (fun r_11 b_12 => some (r_11 - 100, b_12))) else (if x1 = 14 then (ob_b2 (fd_X4_runBody6 b y 13 x2 x_4) (fun r_13 b_14 => some (2 * r_13, b_14))) else (if x1 = 15 then (some ((-1000001), b)) else (if x1 = 16 then (some ((-1000001), b)) else (if x1 = 17 then (some ((-1000001), b)) else (if x1 = 18 then (some ((-1000001), b)) else (if x1 = 19 then (some ((-1000001), b)) else (if x1 = 20 then (some (x2, b)) else (if x1 = 21 then (ob_b2 (fd_X4_runBody6 b y 20 x2 x_4) (fun r_15 b_16 => if x2 < 0 ∨ 7 ≤ Int32.toNatClampNeg x2 then none else (some (r_15 + ((y.2 8) (Int32.toNatClampNeg x2)), b_16)))) else (if x1 = 22 then (ob_b2 (fd_X4_runBody6 b y 21 x2 x_4) (fun r_17 b_18 => some (r_17 - 1000, b_18))) else (if x1 = 23 then (ob_b2 (fd_X4_runBody6 b y 20 x2 x_4) (fun r_19 b_20 => ob_b2 (fd_X4_askAnew6 b_20 y x2 0 x_4) (fun r_21 b_22 => some (r_19 - r_21, b_22)))) else (if x1 = 24 then (ob_b2 (fd_X4_runBody6 b y 21 x2 x_4) (fun r_23 b_24 => some (2 * r_23, b_24))) else (some ((-1000001), b)))))))))))))))))
def fd_X4_runBody7  (b : ob_B) (y : ob_B) (x1 : Int32) (x2 : Int32) (x3 : Int32) : Option (Int32 × ob_B) := if x3 ≤ 12 then (if 16 ≤ (b.1 7) then (fd_X4_runBody7_L35 b y x1 x2 x3) else (ob_lt ((b.1 7) + 1 : Int32) (fun x_1 => ob_lt (ob_I b 7 x_1 : ob_B) (fun b_2 => if (b.1 7) < 0 ∨ 16 ≤ Int32.toNatClampNeg (b.1 7) then none else (ob_lt (ob_A b_2 6 (upd (b_2.2 6) (Int32.toNatClampNeg (b.1 7)) x1) : ob_B) (fun b_3 => fd_X4_runBody7_L35 b_3 y x1 x2 x3)))))) else (some ((-1000001), b))
set_option maxHeartbeats 4000000 in
set_option maxRecDepth 100000 in
theorem mt_X4_runBody7 (l : Launch) (dC : Nat → ClassId) (dI : Nat → Nat → Nat) (cI cZ cR cW : ClassId) (xs : Nat → Nat) (sz : Nat) (o_b : Nat) (a_b : Nat → Nat) (a_y : Nat → Nat) (b : ob_B) (y : ob_B) (x1 : Int32) (x2 : Int32) (x3 : Int32)  (rr : Int32) (b' : ob_B) (hd : fd_X4_runBody7 b y x1 x2 x3 = some (rr, b')) : ob_M l yX4_runBody wsX4_runBody ({ frames := 14, cells := 0, slots := 0, locals := 343 } : Room) (dC, dI) (ob_ty cI cZ cR cW) xs [.ref o_b, .int x1, .int x2, .int x3] (ob_w4 o_b a_b cI b ++ ob_w1 (a_b 2) a_y cI y) sz (ob_Qi (dC, dI) rr (ob_w4 o_b a_b cI b' ++ ob_w1 (a_b 2) a_y cI y)) := by
  rw [fd_X4_runBody7] at hd
  refine ob_in (cc := cX4_runBody) (maxL := 5) (ret := (some .int)) (own := RX4) (by decide) rfl rfl [(0, .ref o_b), (1, .int x1), (2, .int x2), (3, .int x3)] rfl (Nat.le_of_ble_eq_true rfl) ?_
  intro p e s m below meth c hx hb hr hml hown hts hlocks hnm hK A hA hE hP hD hS ls hl
  have kw0 := hts (.fieldLink RX4 47 "OathCoach" "tracedCount" "I") (by decide +kernel)
  have kw1 := hts (.fieldLink RX4 43 "OathCoach" "traced" "[I") (by decide +kernel)
  have kw2 := hts (.constant RX4 62 (-1000001)) (by decide +kernel)
  have kw3 := hts (.fieldLink RX4 25 "OathCoach" "route" "LOathCoach$Route;") (by decide +kernel)
  have kw4 := hts (.fieldLink RX4 186 "OathCoach$Route" "weight" "[I") (by decide +kernel)
  have kw5 := hts (.fieldLink RX4 183 "OathCoach$Route" "place" "[I") (by decide +kernel)
  have hi_X1 : ∀ w ∈ u_ws RX1 TX1 12, w ∈ wsX4_runBody := by decide +kernel
  have hi_X4 : ∀ w ∈ u_ws RX4 TX4 10, w ∈ wsX4_runBody := by decide +kernel
  have L35 : ∀ (H : Heap) (locs : List Loc) (b : ob_B)  (ls : Array Slot), va_P (dC, dI) vwCl (ob_w4 o_b a_b cI b ++ ob_w1 (a_b 2) a_y cI y) H → va_D A (ob_w4 o_b a_b cI b ++ ob_w1 (a_b 2) a_y cI y) → va_S A s.heap H locs → lv_has ls 5 [(0, .ref o_b), (1, .int x1), (2, .int x2), (3, .int x3)] → fd_X4_runBody7_L35 b y x1 x2 x3 = some (rr, b') → W p l e ({ frames := 14, cells := 0, slots := 0, locals := 343 } : Room) s m (List.toArray [.ref o_b, .int x1, .int x2, .int x3]) below meth c H locs 0 0 (MQ below ((ob_Qi (dC, dI) rr (ob_w4 o_b a_b cI b' ++ ob_w1 (a_b 2) a_y cI y)) A) (List.toArray [.ref o_b, .int x1, .int x2, .int x3]) s 0 0 A) (F0 m 35 ls []) := by
    intro  H locs b ls hP hD hS hl hd
    rw [fd_X4_runBody7_L35] at hd
    refine lv_iload_n hx hb dX4_runBody_35 rfl (lv_at hl 3 rfl) ?_
    refine lv_iconst (v := 1) hx hb dX4_runBody_36 (by decide) ?_
    refine lv_iadd hx hb dX4_runBody_37 ?_
    refine lv_topi (fun x_4 ex_4 => ?_)
    replace hd := ob_lx ex_4 hd
    clear ex_4
    refine lv_istore (lv' := [(4, .int x_4), (0, .ref o_b), (1, .int x1), (2, .int x2), (3, .int x3)]) hx hb dX4_runBody_38 hl (by decide) rfl (fun ls hl => ?_)
    refine lv_iload_n hx hb dX4_runBody_40 rfl (lv_at hl 2 rfl) ?_
    by_cases c10_41 : x1 = 10
    · replace hd := ob_t c10_41 hd
      refine lv_tableIn (off := 75) (tgt := 116) hx hb dX4_runBody_41 (by rw [c10_41]; decide) (by rw [c10_41]; decide) (by rw [c10_41]; decide) (by decide) ?_
      refine lv_aload_n hx hb dX4_runBody_116 rfl (lv_at hl 1 rfl) ?_
      refine va_get (D := (dC, dI)) (ci := 4) (v := .ref (a_b 2)) (C := RX4) (T := TX4) (N := 10) hx hb hts hi_X4 hown hK hP 0 rfl rfl 2 (by decide) kw3 (fun _ h9 => h9) rfl dX4_runBody_117 ?_
      refine va_get (D := (dC, dI)) (ci := 1) (v := .ref (a_y 9)) (C := RX1) (T := TX1) (N := 12) hx hb hts hi_X1 hown hK hP 2 rfl rfl 9 (by decide) kw4 (fun _ h9 => h9) rfl dX4_runBody_120 ?_
      refine lv_iload_n hx hb dX4_runBody_123 rfl (lv_at hl 3 rfl) ?_
      obtain ⟨h1_124, hd⟩ := ob_nn hd
      refine va_iald hx hb hK hP 5 0 rfl rfl h1_124 dX4_runBody_124 ?_
      obtain ⟨e1, e2⟩ := ob_pp hd
      subst e1
      subst e2
      exact ob_iret hx hb hr hlocks hP hD hS dX4_runBody_125
    replace hd := ob_f c10_41 hd
    by_cases c11_41 : x1 = 11
    · replace hd := ob_t c11_41 hd
      refine lv_tableIn (off := 85) (tgt := 126) hx hb dX4_runBody_41 (by rw [c11_41]; decide) (by rw [c11_41]; decide) (by rw [c11_41]; decide) (by decide) ?_
      refine lv_aload_n hx hb dX4_runBody_126 rfl (lv_at hl 1 rfl) ?_
      refine lv_bipush (v := 10) hx hb dX4_runBody_127 (by decide) ?_
      refine lv_iload_n hx hb dX4_runBody_129 rfl (lv_at hl 3 rfl) ?_
      refine lv_iload hx hb dX4_runBody_130 (lv_at hl 0 rfl) ?_
      obtain ⟨r_5, b_6, hc_132, hd⟩ := ob_s2 hd
      refine ob_Vi (isC := [0, 1, 2, 3, 4, 5, 6, 7]) (isR := []) (is2 := [0, 1, 2, 3, 4, 5, 6, 7]) (wc := (ob_w4 o_b a_b cI b ++ ob_w1 (a_b 2) a_y cI y)) (wr := ([] : va_W)) (w1 := (ob_w4 o_b a_b cI b_6 ++ ob_w1 (a_b 2) a_y cI y)) (w2 := (ob_w4 o_b a_b cI b_6 ++ ob_w1 (a_b 2) a_y cI y)) (b := o_b) (As := [.int 10, .int x2, .int x_4]) (rest := []) ⟨hx, hb, hml, hown, hts⟩ (mt_X4_runBody6 l dC dI cI cZ cR cW xs _ o_b a_b a_y b y 10 x2 x_4 r_5 b_6 hc_132) (cwV 3 hts gX4_runBody_X4_runBody rfl rfl rfl (by decide +kernel) ⟨Nat.le_of_ble_eq_true rfl, Nat.le_of_ble_eq_true rfl⟩) hK hE hP hD hS hA ⟨rfl, rfl, rfl, rfl, rfl, rfl, rfl⟩ 4 0 rfl rfl rfl hl rfl rfl (Nat.le_of_ble_eq_true rfl) ⟨Nat.le_of_ble_eq_true rfl, Nat.le_of_ble_eq_true rfl⟩ dX4_runBody_132 (fun H locs hP hD hS => ?_)
      refine W.widen (k := 0) (n := 0) (Nat.le_refl _) (Nat.le_refl _) ?_
      refine lv_aload_n hx hb dX4_runBody_135 rfl (lv_at hl 1 rfl) ?_
      refine lv_iload_n hx hb dX4_runBody_136 rfl (lv_at hl 3 rfl) ?_
      refine lv_iconst (v := 1) hx hb dX4_runBody_137 (by decide) ?_
      refine lv_iload hx hb dX4_runBody_138 (lv_at hl 0 rfl) ?_
      obtain ⟨r_7, b_8, hc_140, hd⟩ := ob_s2 hd
      refine ob_Vi (isC := [0, 1, 2, 3, 4, 5, 6, 7]) (isR := []) (is2 := [0, 1, 2, 3, 4, 5, 6, 7]) (wc := (ob_w4 o_b a_b cI b_6 ++ ob_w1 (a_b 2) a_y cI y)) (wr := ([] : va_W)) (w1 := (ob_w4 o_b a_b cI b_8 ++ ob_w1 (a_b 2) a_y cI y)) (w2 := (ob_w4 o_b a_b cI b_8 ++ ob_w1 (a_b 2) a_y cI y)) (b := o_b) (As := [.int x2, .int 1, .int x_4]) (rest := [.int r_5]) ⟨hx, hb, hml, hown, hts⟩ (mt_X4_askAnew6 l dC dI cI cZ cR cW xs _ o_b a_b a_y b_6 y x2 1 x_4 r_7 b_8 hc_140) (cwV 3 hts gX4_runBody_X4_askAnew rfl rfl rfl (by decide +kernel) ⟨Nat.le_of_ble_eq_true rfl, Nat.le_of_ble_eq_true rfl⟩) hK hE hP hD hS hA ⟨rfl, rfl, rfl, rfl, rfl, rfl, rfl⟩ 4 0 rfl rfl rfl hl rfl rfl (Nat.le_of_ble_eq_true rfl) ⟨Nat.le_of_ble_eq_true rfl, Nat.le_of_ble_eq_true rfl⟩ dX4_runBody_140 (fun H locs hP hD hS => ?_)
      refine W.widen (k := 0) (n := 0) (Nat.le_refl _) (Nat.le_refl _) ?_
      refine lv_iadd hx hb dX4_runBody_143 ?_
      obtain ⟨e1, e2⟩ := ob_pp hd
      subst e1
      subst e2
      exact ob_iret hx hb hr hlocks hP hD hS dX4_runBody_144
    replace hd := ob_f c11_41 hd
    by_cases c12_41 : x1 = 12
    · replace hd := ob_t c12_41 hd
      refine lv_tableIn (off := 104) (tgt := 145) hx hb dX4_runBody_41 (by rw [c12_41]; decide) (by rw [c12_41]; decide) (by rw [c12_41]; decide) (by decide) ?_
      refine lv_aload_n hx hb dX4_runBody_145 rfl (lv_at hl 1 rfl) ?_
      refine lv_bipush (v := 11) hx hb dX4_runBody_146 (by decide) ?_
      refine lv_iload_n hx hb dX4_runBody_148 rfl (lv_at hl 3 rfl) ?_
      refine lv_iload hx hb dX4_runBody_149 (lv_at hl 0 rfl) ?_
      obtain ⟨r_9, b_10, hc_151, hd⟩ := ob_s2 hd
      refine ob_Vi (isC := [0, 1, 2, 3, 4, 5, 6, 7]) (isR := []) (is2 := [0, 1, 2, 3, 4, 5, 6, 7]) (wc := (ob_w4 o_b a_b cI b ++ ob_w1 (a_b 2) a_y cI y)) (wr := ([] : va_W)) (w1 := (ob_w4 o_b a_b cI b_10 ++ ob_w1 (a_b 2) a_y cI y)) (w2 := (ob_w4 o_b a_b cI b_10 ++ ob_w1 (a_b 2) a_y cI y)) (b := o_b) (As := [.int 11, .int x2, .int x_4]) (rest := []) ⟨hx, hb, hml, hown, hts⟩ (mt_X4_runBody6 l dC dI cI cZ cR cW xs _ o_b a_b a_y b y 11 x2 x_4 r_9 b_10 hc_151) (cwV 3 hts gX4_runBody_X4_runBody rfl rfl rfl (by decide +kernel) ⟨Nat.le_of_ble_eq_true rfl, Nat.le_of_ble_eq_true rfl⟩) hK hE hP hD hS hA ⟨rfl, rfl, rfl, rfl, rfl, rfl, rfl⟩ 4 0 rfl rfl rfl hl rfl rfl (Nat.le_of_ble_eq_true rfl) ⟨Nat.le_of_ble_eq_true rfl, Nat.le_of_ble_eq_true rfl⟩ dX4_runBody_151 (fun H locs hP hD hS => ?_)
      refine W.widen (k := 0) (n := 0) (Nat.le_refl _) (Nat.le_refl _) ?_
      refine lv_ineg hx hb dX4_runBody_154 ?_
      obtain ⟨e1, e2⟩ := ob_pp hd
      subst e1
      subst e2
      exact ob_iret hx hb hr hlocks hP hD hS dX4_runBody_155
    replace hd := ob_f c12_41 hd
    by_cases c13_41 : x1 = 13
    · replace hd := ob_t c13_41 hd
      refine lv_tableIn (off := 115) (tgt := 156) hx hb dX4_runBody_41 (by rw [c13_41]; decide) (by rw [c13_41]; decide) (by rw [c13_41]; decide) (by decide) ?_
      refine lv_aload_n hx hb dX4_runBody_156 rfl (lv_at hl 1 rfl) ?_
      refine lv_bipush (v := 10) hx hb dX4_runBody_157 (by decide) ?_
      refine lv_iload_n hx hb dX4_runBody_159 rfl (lv_at hl 3 rfl) ?_
      refine lv_iload hx hb dX4_runBody_160 (lv_at hl 0 rfl) ?_
      obtain ⟨r_11, b_12, hc_162, hd⟩ := ob_s2 hd
      refine ob_Vi (isC := [0, 1, 2, 3, 4, 5, 6, 7]) (isR := []) (is2 := [0, 1, 2, 3, 4, 5, 6, 7]) (wc := (ob_w4 o_b a_b cI b ++ ob_w1 (a_b 2) a_y cI y)) (wr := ([] : va_W)) (w1 := (ob_w4 o_b a_b cI b_12 ++ ob_w1 (a_b 2) a_y cI y)) (w2 := (ob_w4 o_b a_b cI b_12 ++ ob_w1 (a_b 2) a_y cI y)) (b := o_b) (As := [.int 10, .int x2, .int x_4]) (rest := []) ⟨hx, hb, hml, hown, hts⟩ (mt_X4_runBody6 l dC dI cI cZ cR cW xs _ o_b a_b a_y b y 10 x2 x_4 r_11 b_12 hc_162) (cwV 3 hts gX4_runBody_X4_runBody rfl rfl rfl (by decide +kernel) ⟨Nat.le_of_ble_eq_true rfl, Nat.le_of_ble_eq_true rfl⟩) hK hE hP hD hS hA ⟨rfl, rfl, rfl, rfl, rfl, rfl, rfl⟩ 4 0 rfl rfl rfl hl rfl rfl (Nat.le_of_ble_eq_true rfl) ⟨Nat.le_of_ble_eq_true rfl, Nat.le_of_ble_eq_true rfl⟩ dX4_runBody_162 (fun H locs hP hD hS => ?_)
      refine W.widen (k := 0) (n := 0) (Nat.le_refl _) (Nat.le_refl _) ?_
      refine lv_bipush (v := 100) hx hb dX4_runBody_165 (by decide) ?_
      refine lv_isub hx hb dX4_runBody_167 ?_
      obtain ⟨e1, e2⟩ := ob_pp hd
      subst e1
      subst e2
      exact ob_iret hx hb hr hlocks hP hD hS dX4_runBody_168
    replace hd := ob_f c13_41 hd
    by_cases c14_41 : x1 = 14
    · replace hd := ob_t c14_41 hd
      refine lv_tableIn (off := 128) (tgt := 169) hx hb dX4_runBody_41 (by rw [c14_41]; decide) (by rw [c14_41]; decide) (by rw [c14_41]; decide) (by decide) ?_
      refine lv_iconst (v := 2) hx hb dX4_runBody_169 (by decide) ?_
      refine lv_aload_n hx hb dX4_runBody_170 rfl (lv_at hl 1 rfl) ?_
      refine lv_bipush (v := 13) hx hb dX4_runBody_171 (by decide) ?_
      refine lv_iload_n hx hb dX4_runBody_173 rfl (lv_at hl 3 rfl) ?_
      refine lv_iload hx hb dX4_runBody_174 (lv_at hl 0 rfl) ?_
      obtain ⟨r_13, b_14, hc_176, hd⟩ := ob_s2 hd
      refine ob_Vi (isC := [0, 1, 2, 3, 4, 5, 6, 7]) (isR := []) (is2 := [0, 1, 2, 3, 4, 5, 6, 7]) (wc := (ob_w4 o_b a_b cI b ++ ob_w1 (a_b 2) a_y cI y)) (wr := ([] : va_W)) (w1 := (ob_w4 o_b a_b cI b_14 ++ ob_w1 (a_b 2) a_y cI y)) (w2 := (ob_w4 o_b a_b cI b_14 ++ ob_w1 (a_b 2) a_y cI y)) (b := o_b) (As := [.int 13, .int x2, .int x_4]) (rest := [.int 2]) ⟨hx, hb, hml, hown, hts⟩ (mt_X4_runBody6 l dC dI cI cZ cR cW xs _ o_b a_b a_y b y 13 x2 x_4 r_13 b_14 hc_176) (cwV 3 hts gX4_runBody_X4_runBody rfl rfl rfl (by decide +kernel) ⟨Nat.le_of_ble_eq_true rfl, Nat.le_of_ble_eq_true rfl⟩) hK hE hP hD hS hA ⟨rfl, rfl, rfl, rfl, rfl, rfl, rfl⟩ 4 0 rfl rfl rfl hl rfl rfl (Nat.le_of_ble_eq_true rfl) ⟨Nat.le_of_ble_eq_true rfl, Nat.le_of_ble_eq_true rfl⟩ dX4_runBody_176 (fun H locs hP hD hS => ?_)
      refine W.widen (k := 0) (n := 0) (Nat.le_refl _) (Nat.le_refl _) ?_
      refine lv_imul hx hb dX4_runBody_179 ?_
      obtain ⟨e1, e2⟩ := ob_pp hd
      subst e1
      subst e2
      exact ob_iret hx hb hr hlocks hP hD hS dX4_runBody_180
    replace hd := ob_f c14_41 hd
    by_cases c15_41 : x1 = 15
    · replace hd := ob_t c15_41 hd
      refine lv_tableIn (off := 207) (tgt := 248) hx hb dX4_runBody_41 (by rw [c15_41]; decide) (by rw [c15_41]; decide) (by rw [c15_41]; decide) (by decide) ?_
      refine lv_ldc hx hb hown kw2 dX4_runBody_248 ?_
      obtain ⟨e1, e2⟩ := ob_pp hd
      subst e1
      subst e2
      exact ob_iret hx hb hr hlocks hP hD hS dX4_runBody_250
    replace hd := ob_f c15_41 hd
    by_cases c16_41 : x1 = 16
    · replace hd := ob_t c16_41 hd
      refine lv_tableIn (off := 207) (tgt := 248) hx hb dX4_runBody_41 (by rw [c16_41]; decide) (by rw [c16_41]; decide) (by rw [c16_41]; decide) (by decide) ?_
      refine lv_ldc hx hb hown kw2 dX4_runBody_248 ?_
      obtain ⟨e1, e2⟩ := ob_pp hd
      subst e1
      subst e2
      exact ob_iret hx hb hr hlocks hP hD hS dX4_runBody_250
    replace hd := ob_f c16_41 hd
    by_cases c17_41 : x1 = 17
    · replace hd := ob_t c17_41 hd
      refine lv_tableIn (off := 207) (tgt := 248) hx hb dX4_runBody_41 (by rw [c17_41]; decide) (by rw [c17_41]; decide) (by rw [c17_41]; decide) (by decide) ?_
      refine lv_ldc hx hb hown kw2 dX4_runBody_248 ?_
      obtain ⟨e1, e2⟩ := ob_pp hd
      subst e1
      subst e2
      exact ob_iret hx hb hr hlocks hP hD hS dX4_runBody_250
    replace hd := ob_f c17_41 hd
    by_cases c18_41 : x1 = 18
    · replace hd := ob_t c18_41 hd
      refine lv_tableIn (off := 207) (tgt := 248) hx hb dX4_runBody_41 (by rw [c18_41]; decide) (by rw [c18_41]; decide) (by rw [c18_41]; decide) (by decide) ?_
      refine lv_ldc hx hb hown kw2 dX4_runBody_248 ?_
      obtain ⟨e1, e2⟩ := ob_pp hd
      subst e1
      subst e2
      exact ob_iret hx hb hr hlocks hP hD hS dX4_runBody_250
    replace hd := ob_f c18_41 hd
    by_cases c19_41 : x1 = 19
    · replace hd := ob_t c19_41 hd
      refine lv_tableIn (off := 207) (tgt := 248) hx hb dX4_runBody_41 (by rw [c19_41]; decide) (by rw [c19_41]; decide) (by rw [c19_41]; decide) (by decide) ?_
      refine lv_ldc hx hb hown kw2 dX4_runBody_248 ?_
      obtain ⟨e1, e2⟩ := ob_pp hd
      subst e1
      subst e2
      exact ob_iret hx hb hr hlocks hP hD hS dX4_runBody_250
    replace hd := ob_f c19_41 hd
    by_cases c20_41 : x1 = 20
    · replace hd := ob_t c20_41 hd
      refine lv_tableIn (off := 140) (tgt := 181) hx hb dX4_runBody_41 (by rw [c20_41]; decide) (by rw [c20_41]; decide) (by rw [c20_41]; decide) (by decide) ?_
      refine lv_iload_n hx hb dX4_runBody_181 rfl (lv_at hl 3 rfl) ?_
      obtain ⟨e1, e2⟩ := ob_pp hd
      subst e1
      subst e2
      exact ob_iret hx hb hr hlocks hP hD hS dX4_runBody_182
    replace hd := ob_f c20_41 hd
    by_cases c21_41 : x1 = 21
    · replace hd := ob_t c21_41 hd
      refine lv_tableIn (off := 142) (tgt := 183) hx hb dX4_runBody_41 (by rw [c21_41]; decide) (by rw [c21_41]; decide) (by rw [c21_41]; decide) (by decide) ?_
      refine lv_aload_n hx hb dX4_runBody_183 rfl (lv_at hl 1 rfl) ?_
      refine lv_bipush (v := 20) hx hb dX4_runBody_184 (by decide) ?_
      refine lv_iload_n hx hb dX4_runBody_186 rfl (lv_at hl 3 rfl) ?_
      refine lv_iload hx hb dX4_runBody_187 (lv_at hl 0 rfl) ?_
      obtain ⟨r_15, b_16, hc_189, hd⟩ := ob_s2 hd
      refine ob_Vi (isC := [0, 1, 2, 3, 4, 5, 6, 7]) (isR := []) (is2 := [0, 1, 2, 3, 4, 5, 6, 7]) (wc := (ob_w4 o_b a_b cI b ++ ob_w1 (a_b 2) a_y cI y)) (wr := ([] : va_W)) (w1 := (ob_w4 o_b a_b cI b_16 ++ ob_w1 (a_b 2) a_y cI y)) (w2 := (ob_w4 o_b a_b cI b_16 ++ ob_w1 (a_b 2) a_y cI y)) (b := o_b) (As := [.int 20, .int x2, .int x_4]) (rest := []) ⟨hx, hb, hml, hown, hts⟩ (mt_X4_runBody6 l dC dI cI cZ cR cW xs _ o_b a_b a_y b y 20 x2 x_4 r_15 b_16 hc_189) (cwV 3 hts gX4_runBody_X4_runBody rfl rfl rfl (by decide +kernel) ⟨Nat.le_of_ble_eq_true rfl, Nat.le_of_ble_eq_true rfl⟩) hK hE hP hD hS hA ⟨rfl, rfl, rfl, rfl, rfl, rfl, rfl⟩ 4 0 rfl rfl rfl hl rfl rfl (Nat.le_of_ble_eq_true rfl) ⟨Nat.le_of_ble_eq_true rfl, Nat.le_of_ble_eq_true rfl⟩ dX4_runBody_189 (fun H locs hP hD hS => ?_)
      refine W.widen (k := 0) (n := 0) (Nat.le_refl _) (Nat.le_refl _) ?_
      refine lv_aload_n hx hb dX4_runBody_192 rfl (lv_at hl 1 rfl) ?_
      refine va_get (D := (dC, dI)) (ci := 4) (v := .ref (a_b 2)) (C := RX4) (T := TX4) (N := 10) hx hb hts hi_X4 hown hK hP 0 rfl rfl 2 (by decide) kw3 (fun _ h9 => h9) rfl dX4_runBody_193 ?_
      refine va_get (D := (dC, dI)) (ci := 1) (v := .ref (a_y 8)) (C := RX1) (T := TX1) (N := 12) hx hb hts hi_X1 hown hK hP 2 rfl rfl 8 (by decide) kw5 (fun _ h9 => h9) rfl dX4_runBody_196 ?_
      refine lv_iload_n hx hb dX4_runBody_199 rfl (lv_at hl 3 rfl) ?_
      obtain ⟨h1_200, hd⟩ := ob_nn hd
      refine va_iald hx hb hK hP 4 0 rfl rfl h1_200 dX4_runBody_200 ?_
      refine lv_iadd hx hb dX4_runBody_201 ?_
      obtain ⟨e1, e2⟩ := ob_pp hd
      subst e1
      subst e2
      exact ob_iret hx hb hr hlocks hP hD hS dX4_runBody_202
    replace hd := ob_f c21_41 hd
    by_cases c22_41 : x1 = 22
    · replace hd := ob_t c22_41 hd
      refine lv_tableIn (off := 162) (tgt := 203) hx hb dX4_runBody_41 (by rw [c22_41]; decide) (by rw [c22_41]; decide) (by rw [c22_41]; decide) (by decide) ?_
      refine lv_aload_n hx hb dX4_runBody_203 rfl (lv_at hl 1 rfl) ?_
      refine lv_bipush (v := 21) hx hb dX4_runBody_204 (by decide) ?_
      refine lv_iload_n hx hb dX4_runBody_206 rfl (lv_at hl 3 rfl) ?_
      refine lv_iload hx hb dX4_runBody_207 (lv_at hl 0 rfl) ?_
      obtain ⟨r_17, b_18, hc_209, hd⟩ := ob_s2 hd
      refine ob_Vi (isC := [0, 1, 2, 3, 4, 5, 6, 7]) (isR := []) (is2 := [0, 1, 2, 3, 4, 5, 6, 7]) (wc := (ob_w4 o_b a_b cI b ++ ob_w1 (a_b 2) a_y cI y)) (wr := ([] : va_W)) (w1 := (ob_w4 o_b a_b cI b_18 ++ ob_w1 (a_b 2) a_y cI y)) (w2 := (ob_w4 o_b a_b cI b_18 ++ ob_w1 (a_b 2) a_y cI y)) (b := o_b) (As := [.int 21, .int x2, .int x_4]) (rest := []) ⟨hx, hb, hml, hown, hts⟩ (mt_X4_runBody6 l dC dI cI cZ cR cW xs _ o_b a_b a_y b y 21 x2 x_4 r_17 b_18 hc_209) (cwV 3 hts gX4_runBody_X4_runBody rfl rfl rfl (by decide +kernel) ⟨Nat.le_of_ble_eq_true rfl, Nat.le_of_ble_eq_true rfl⟩) hK hE hP hD hS hA ⟨rfl, rfl, rfl, rfl, rfl, rfl, rfl⟩ 4 0 rfl rfl rfl hl rfl rfl (Nat.le_of_ble_eq_true rfl) ⟨Nat.le_of_ble_eq_true rfl, Nat.le_of_ble_eq_true rfl⟩ dX4_runBody_209 (fun H locs hP hD hS => ?_)
      refine W.widen (k := 0) (n := 0) (Nat.le_refl _) (Nat.le_refl _) ?_
      refine lv_sipush (v := 1000) hx hb dX4_runBody_212 (by decide) ?_
      refine lv_isub hx hb dX4_runBody_215 ?_
      obtain ⟨e1, e2⟩ := ob_pp hd
      subst e1
      subst e2
      exact ob_iret hx hb hr hlocks hP hD hS dX4_runBody_216
    replace hd := ob_f c22_41 hd
    by_cases c23_41 : x1 = 23
    · replace hd := ob_t c23_41 hd
      refine lv_tableIn (off := 176) (tgt := 217) hx hb dX4_runBody_41 (by rw [c23_41]; decide) (by rw [c23_41]; decide) (by rw [c23_41]; decide) (by decide) ?_
      refine lv_aload_n hx hb dX4_runBody_217 rfl (lv_at hl 1 rfl) ?_
      refine lv_bipush (v := 20) hx hb dX4_runBody_218 (by decide) ?_
      refine lv_iload_n hx hb dX4_runBody_220 rfl (lv_at hl 3 rfl) ?_
      refine lv_iload hx hb dX4_runBody_221 (lv_at hl 0 rfl) ?_
      obtain ⟨r_19, b_20, hc_223, hd⟩ := ob_s2 hd
      refine ob_Vi (isC := [0, 1, 2, 3, 4, 5, 6, 7]) (isR := []) (is2 := [0, 1, 2, 3, 4, 5, 6, 7]) (wc := (ob_w4 o_b a_b cI b ++ ob_w1 (a_b 2) a_y cI y)) (wr := ([] : va_W)) (w1 := (ob_w4 o_b a_b cI b_20 ++ ob_w1 (a_b 2) a_y cI y)) (w2 := (ob_w4 o_b a_b cI b_20 ++ ob_w1 (a_b 2) a_y cI y)) (b := o_b) (As := [.int 20, .int x2, .int x_4]) (rest := []) ⟨hx, hb, hml, hown, hts⟩ (mt_X4_runBody6 l dC dI cI cZ cR cW xs _ o_b a_b a_y b y 20 x2 x_4 r_19 b_20 hc_223) (cwV 3 hts gX4_runBody_X4_runBody rfl rfl rfl (by decide +kernel) ⟨Nat.le_of_ble_eq_true rfl, Nat.le_of_ble_eq_true rfl⟩) hK hE hP hD hS hA ⟨rfl, rfl, rfl, rfl, rfl, rfl, rfl⟩ 4 0 rfl rfl rfl hl rfl rfl (Nat.le_of_ble_eq_true rfl) ⟨Nat.le_of_ble_eq_true rfl, Nat.le_of_ble_eq_true rfl⟩ dX4_runBody_223 (fun H locs hP hD hS => ?_)
      refine W.widen (k := 0) (n := 0) (Nat.le_refl _) (Nat.le_refl _) ?_
      refine lv_aload_n hx hb dX4_runBody_226 rfl (lv_at hl 1 rfl) ?_
      refine lv_iload_n hx hb dX4_runBody_227 rfl (lv_at hl 3 rfl) ?_
      refine lv_iconst (v := 0) hx hb dX4_runBody_228 (by decide) ?_
      refine lv_iload hx hb dX4_runBody_229 (lv_at hl 0 rfl) ?_
      obtain ⟨r_21, b_22, hc_231, hd⟩ := ob_s2 hd
      refine ob_Vi (isC := [0, 1, 2, 3, 4, 5, 6, 7]) (isR := []) (is2 := [0, 1, 2, 3, 4, 5, 6, 7]) (wc := (ob_w4 o_b a_b cI b_20 ++ ob_w1 (a_b 2) a_y cI y)) (wr := ([] : va_W)) (w1 := (ob_w4 o_b a_b cI b_22 ++ ob_w1 (a_b 2) a_y cI y)) (w2 := (ob_w4 o_b a_b cI b_22 ++ ob_w1 (a_b 2) a_y cI y)) (b := o_b) (As := [.int x2, .int 0, .int x_4]) (rest := [.int r_19]) ⟨hx, hb, hml, hown, hts⟩ (mt_X4_askAnew6 l dC dI cI cZ cR cW xs _ o_b a_b a_y b_20 y x2 0 x_4 r_21 b_22 hc_231) (cwV 3 hts gX4_runBody_X4_askAnew rfl rfl rfl (by decide +kernel) ⟨Nat.le_of_ble_eq_true rfl, Nat.le_of_ble_eq_true rfl⟩) hK hE hP hD hS hA ⟨rfl, rfl, rfl, rfl, rfl, rfl, rfl⟩ 4 0 rfl rfl rfl hl rfl rfl (Nat.le_of_ble_eq_true rfl) ⟨Nat.le_of_ble_eq_true rfl, Nat.le_of_ble_eq_true rfl⟩ dX4_runBody_231 (fun H locs hP hD hS => ?_)
      refine W.widen (k := 0) (n := 0) (Nat.le_refl _) (Nat.le_refl _) ?_
      refine lv_isub hx hb dX4_runBody_234 ?_
      obtain ⟨e1, e2⟩ := ob_pp hd
      subst e1
      subst e2
      exact ob_iret hx hb hr hlocks hP hD hS dX4_runBody_235
    replace hd := ob_f c23_41 hd
    by_cases c24_41 : x1 = 24
    · replace hd := ob_t c24_41 hd
      refine lv_tableIn (off := 195) (tgt := 236) hx hb dX4_runBody_41 (by rw [c24_41]; decide) (by rw [c24_41]; decide) (by rw [c24_41]; decide) (by decide) ?_
      refine lv_iconst (v := 2) hx hb dX4_runBody_236 (by decide) ?_
      refine lv_aload_n hx hb dX4_runBody_237 rfl (lv_at hl 1 rfl) ?_
      refine lv_bipush (v := 21) hx hb dX4_runBody_238 (by decide) ?_
      refine lv_iload_n hx hb dX4_runBody_240 rfl (lv_at hl 3 rfl) ?_
      refine lv_iload hx hb dX4_runBody_241 (lv_at hl 0 rfl) ?_
      obtain ⟨r_23, b_24, hc_243, hd⟩ := ob_s2 hd
      refine ob_Vi (isC := [0, 1, 2, 3, 4, 5, 6, 7]) (isR := []) (is2 := [0, 1, 2, 3, 4, 5, 6, 7]) (wc := (ob_w4 o_b a_b cI b ++ ob_w1 (a_b 2) a_y cI y)) (wr := ([] : va_W)) (w1 := (ob_w4 o_b a_b cI b_24 ++ ob_w1 (a_b 2) a_y cI y)) (w2 := (ob_w4 o_b a_b cI b_24 ++ ob_w1 (a_b 2) a_y cI y)) (b := o_b) (As := [.int 21, .int x2, .int x_4]) (rest := [.int 2]) ⟨hx, hb, hml, hown, hts⟩ (mt_X4_runBody6 l dC dI cI cZ cR cW xs _ o_b a_b a_y b y 21 x2 x_4 r_23 b_24 hc_243) (cwV 3 hts gX4_runBody_X4_runBody rfl rfl rfl (by decide +kernel) ⟨Nat.le_of_ble_eq_true rfl, Nat.le_of_ble_eq_true rfl⟩) hK hE hP hD hS hA ⟨rfl, rfl, rfl, rfl, rfl, rfl, rfl⟩ 4 0 rfl rfl rfl hl rfl rfl (Nat.le_of_ble_eq_true rfl) ⟨Nat.le_of_ble_eq_true rfl, Nat.le_of_ble_eq_true rfl⟩ dX4_runBody_243 (fun H locs hP hD hS => ?_)
      refine W.widen (k := 0) (n := 0) (Nat.le_refl _) (Nat.le_refl _) ?_
      refine lv_imul hx hb dX4_runBody_246 ?_
      obtain ⟨e1, e2⟩ := ob_pp hd
      subst e1
      subst e2
      exact ob_iret hx hb hr hlocks hP hD hS dX4_runBody_247
    replace hd := ob_f c24_41 hd
    refine lv_tableOut (tgt := 248) hx hb dX4_runBody_41 (by have n10 := lv_neT c10_41 (show (10 : Int32).toInt = 10 from rfl); have n11 := lv_neT c11_41 (show (11 : Int32).toInt = 11 from rfl); have n12 := lv_neT c12_41 (show (12 : Int32).toInt = 12 from rfl); have n13 := lv_neT c13_41 (show (13 : Int32).toInt = 13 from rfl); have n14 := lv_neT c14_41 (show (14 : Int32).toInt = 14 from rfl); have n15 := lv_neT c15_41 (show (15 : Int32).toInt = 15 from rfl); have n16 := lv_neT c16_41 (show (16 : Int32).toInt = 16 from rfl); have n17 := lv_neT c17_41 (show (17 : Int32).toInt = 17 from rfl); have n18 := lv_neT c18_41 (show (18 : Int32).toInt = 18 from rfl); have n19 := lv_neT c19_41 (show (19 : Int32).toInt = 19 from rfl); have n20 := lv_neT c20_41 (show (20 : Int32).toInt = 20 from rfl); have n21 := lv_neT c21_41 (show (21 : Int32).toInt = 21 from rfl); have n22 := lv_neT c22_41 (show (22 : Int32).toInt = 22 from rfl); have n23 := lv_neT c23_41 (show (23 : Int32).toInt = 23 from rfl); have n24 := lv_neT c24_41 (show (24 : Int32).toInt = 24 from rfl); omega) (by decide) ?_
    refine lv_ldc hx hb hown kw2 dX4_runBody_248 ?_
    obtain ⟨e1, e2⟩ := ob_pp hd
    subst e1
    subst e2
    exact ob_iret hx hb hr hlocks hP hD hS dX4_runBody_250
  refine lv_iload_n hx hb dX4_runBody_0 rfl (lv_at hl 3 rfl) ?_
  refine lv_bipush (v := 12) hx hb dX4_runBody_1 (by decide) ?_
  refine lv_icmp_le (tgt := 9) hx hb dX4_runBody_3 (by decide) (fun c_3 => ?_) (fun c_3 => ?_)
  · replace hd := ob_t c_3 hd
    refine lv_aload_n hx hb dX4_runBody_9 rfl (lv_at hl 0 rfl) ?_
    refine va_get (D := (dC, dI)) (ci := 4) (v := .int (b.1 7)) (C := RX4) (T := TX4) (N := 10) hx hb hts hi_X4 hown hK hP 0 rfl rfl 7 (by decide) kw0 (fun _ h9 => h9) rfl dX4_runBody_10 ?_
    refine lv_bipush (v := 16) hx hb dX4_runBody_13 (by decide) ?_
    refine lv_icmp_ge (tgt := 35) hx hb dX4_runBody_15 (by decide) (fun c_15 => ?_) (fun c_15 => ?_)
    · replace hd := ob_t c_15 hd
      exact L35   _ _ b _ hP hD hS (lv_sub hl [0, 1, 2, 3] rfl) hd
    · replace hd := ob_f c_15 hd
      refine lv_aload_n hx hb dX4_runBody_18 rfl (lv_at hl 0 rfl) ?_
      refine va_get (D := (dC, dI)) (ci := 4) (v := .ref (a_b 6)) (C := RX4) (T := TX4) (N := 10) hx hb hts hi_X4 hown hK hP 0 rfl rfl 6 (by decide) kw1 (fun _ h9 => h9) rfl dX4_runBody_19 ?_
      refine lv_aload_n hx hb dX4_runBody_22 rfl (lv_at hl 0 rfl) ?_
      refine lv_dup hx hb dX4_runBody_23 rfl ?_
      refine va_get (D := (dC, dI)) (ci := 4) (v := .int (b.1 7)) (C := RX4) (T := TX4) (N := 10) hx hb hts hi_X4 hown hK hP 0 rfl rfl 7 (by decide) kw0 (fun _ h9 => h9) rfl dX4_runBody_24 ?_
      refine lv_dup_x1 hx hb dX4_runBody_27 rfl rfl ?_
      refine lv_iconst (v := 1) hx hb dX4_runBody_28 (by decide) ?_
      refine lv_iadd hx hb dX4_runBody_29 ?_
      refine lv_topi (fun x_1 ex_1 => ?_)
      replace hd := ob_lx ex_1 hd
      clear ex_1
      refine va_put (D := (dC, dI)) (ci := 4) (v := .int x_1) (ty := .int) (C := RX4) (T := TX4) (N := 10) hx hb hts hi_X4 tyX4 tyX4_ok nmX4 hown hK hP hD hS 0 rfl rfl 7 (by decide) kw0 (fun _ h9 => h9) rfl (by decide +kernel) rfl rfl (Nat.le_of_ble_eq_true rfl) dX4_runBody_30 (fun H locs hP hD hS => ?_)
      obtain ⟨b_2, eb_2⟩ : ∃ z : ob_B, z = ob_I b 7 x_1 := ⟨_, rfl⟩
      replace hd := ob_lx eb_2 hd
      replace hP : va_P (dC, dI) vwCl (ob_w4 o_b a_b cI b_2 ++ ob_w1 (a_b 2) a_y cI y) H := by rw [eb_2]; exact hP
      replace hD : va_D A (ob_w4 o_b a_b cI b_2 ++ ob_w1 (a_b 2) a_y cI y) := by rw [eb_2]; exact hD
      clear eb_2
      refine lv_iload_n hx hb dX4_runBody_33 rfl (lv_at hl 1 rfl) ?_
      obtain ⟨h1_34, hd⟩ := ob_nn hd
      refine va_iast hx hb hK hP hD hS 1 0 rfl rfl h1_34 dX4_runBody_34 (fun H locs hP hD hS => ?_)
      obtain ⟨b_3, eb_3⟩ : ∃ z : ob_B, z = ob_A b_2 6 (upd (b_2.2 6) (Int32.toNatClampNeg (b.1 7)) x1) := ⟨_, rfl⟩
      replace hd := ob_lx eb_3 hd
      replace hP : va_P (dC, dI) vwCl (ob_w4 o_b a_b cI b_3 ++ ob_w1 (a_b 2) a_y cI y) H := by rw [eb_3]; exact hP
      replace hD : va_D A (ob_w4 o_b a_b cI b_3 ++ ob_w1 (a_b 2) a_y cI y) := by rw [eb_3]; exact hD
      clear eb_3
      exact L35   _ _ b_3 _ hP hD hS (lv_sub hl [0, 1, 2, 3] rfl) hd
  · replace hd := ob_f c_3 hd
    refine lv_ldc hx hb hown kw2 dX4_runBody_6 ?_
    obtain ⟨e1, e2⟩ := ob_pp hd
    subst e1
    subst e2
    exact ob_iret hx hb hr hlocks hP hD hS dX4_runBody_8

def fd_X4_askAnew7_L49  (b : ob_B) (y : ob_B) (x1 : Int32) (x2 : Int32) (x3 : Int32) (z4 : Int32) : Option (Int32 × ob_B) := ob_b1 (fd_X4_toldBody z4 x2) (fun r_5 => ob_b2 (fd_X4_runBody7 b y r_5 x1 x3) (fun r_6 b_7 => some (r_6, b_7)))
def fd_X4_askAnew7_L14  : Nat → ob_B → ob_B → Int32 → Int32 → Int32 → Int32 → Int32 → Option (Int32 × ob_B)
  | 0, _, _, _, _, _, _, _ => none
  | fu + 1, b, y, x1, x2, x3, z4, z5 => if 6 ≤ z5 then (fd_X4_askAnew7_L49 b y x1 x2 x3 z4) else (if z4 ≤ 0 then (fd_X4_askAnew7_L49 b y x1 x2 x3 z4) else (ob_b1 (fd_X4_toldBody z4 x2) (fun r_2 => if r_2 = 0 then (if z4 < 0 ∨ 6 ≤ Int32.toNatClampNeg z4 then none else (ob_lt (([0, 0, 1, 1, 0, 4] : List Int32).getD (Int32.toNatClampNeg z4) 0 : Int32) (fun x_3 => ob_lt (z5 + 1 : Int32) (fun x_4 => fd_X4_askAnew7_L14 fu b y x1 x2 x3 x_3 x_4)))) else (fd_X4_askAnew7_L49 b y x1 x2 x3 z4))))
def fd_X4_askAnew7  (b : ob_B) (y : ob_B) (x1 : Int32) (x2 : Int32) (x3 : Int32) : Option (Int32 × ob_B) := if x1 < 0 ∨ 7 ≤ Int32.toNatClampNeg x1 then none else (ob_lt ((y.2 7) (Int32.toNatClampNeg x1) : Int32) (fun x_1 => fd_X4_askAnew7_L14 2000 b y x1 x2 x3 x_1 0))
set_option maxHeartbeats 4000000 in
set_option maxRecDepth 100000 in
theorem mt_X4_askAnew7 (l : Launch) (dC : Nat → ClassId) (dI : Nat → Nat → Nat) (cI cZ cR cW : ClassId) (xs : Nat → Nat) (sz : Nat) (o_b : Nat) (a_b : Nat → Nat) (a_y : Nat → Nat) (b : ob_B) (y : ob_B) (x1 : Int32) (x2 : Int32) (x3 : Int32)  (rr : Int32) (b' : ob_B) (hd : fd_X4_askAnew7 b y x1 x2 x3 = some (rr, b')) : ob_M l yX4_askAnew wsX4_askAnew ({ frames := 15, cells := 0, slots := 0, locals := 367 } : Room) (dC, dI) (ob_ty cI cZ cR cW) xs [.ref o_b, .int x1, .int x2, .int x3] (ob_w4 o_b a_b cI b ++ ob_w1 (a_b 2) a_y cI y) sz (ob_Qi (dC, dI) rr (ob_w4 o_b a_b cI b' ++ ob_w1 (a_b 2) a_y cI y)) := by
  rw [fd_X4_askAnew7] at hd
  refine ob_in (cc := cX4_askAnew) (maxL := 6) (ret := (some .int)) (own := RX4) (by decide) rfl rfl [(0, .ref o_b), (1, .int x1), (2, .int x2), (3, .int x3)] rfl (Nat.le_of_ble_eq_true rfl) ?_
  intro p e s m below meth c hx hb hr hml hown hts hlocks hnm hK A hA hE hP hD hS ls hl
  have kw0 := hts (.fieldLink RX4 25 "OathCoach" "route" "LOathCoach$Route;") (by decide +kernel)
  have kw1 := hts (.fieldLink RX4 213 "OathCoach$Route" "kind" "[I") (by decide +kernel)
  have kw2 := hts (.fieldLink RX4 245 "OathCoach" "KIND_ABOVE" "[I") (by decide +kernel)
  have hi_X1 : ∀ w ∈ u_ws RX1 TX1 12, w ∈ wsX4_askAnew := by decide +kernel
  have hi_X4 : ∀ w ∈ u_ws RX4 TX4 10, w ∈ wsX4_askAnew := by decide +kernel
  obtain ⟨hE1, hE2, hE3, hE4, hE5, hE6, hE7, hE8, hE9, -⟩ := id hE
  have hET : va_T .byte (xs 4) 5 (fun j => .int (([111, 109, 108, 102, 118] : List Int32).getD j 0)) A s s.heap := (hE8.1 0 (by decide)).2.2.2
  have L49 : ∀ (H : Heap) (locs : List Loc) (b : ob_B) (z4 : Int32) (ls : Array Slot), va_P (dC, dI) vwCl (ob_w4 o_b a_b cI b ++ ob_w1 (a_b 2) a_y cI y) H → va_D A (ob_w4 o_b a_b cI b ++ ob_w1 (a_b 2) a_y cI y) → va_S A s.heap H locs → lv_has ls 6 [(0, .ref o_b), (1, .int x1), (2, .int x2), (3, .int x3), (4, .int z4)] → fd_X4_askAnew7_L49 b y x1 x2 x3 z4 = some (rr, b') → W p l e ({ frames := 15, cells := 0, slots := 0, locals := 367 } : Room) s m (List.toArray [.ref o_b, .int x1, .int x2, .int x3]) below meth c H locs 0 0 (MQ below ((ob_Qi (dC, dI) rr (ob_w4 o_b a_b cI b' ++ ob_w1 (a_b 2) a_y cI y)) A) (List.toArray [.ref o_b, .int x1, .int x2, .int x3]) s 0 0 A) (F0 m 49 ls []) := by
    intro  H locs b z4 ls hP hD hS hl hd
    rw [fd_X4_askAnew7_L49] at hd
    refine lv_aload_n hx hb dX4_askAnew_49 rfl (lv_at hl 0 rfl) ?_
    refine lv_iload hx hb dX4_askAnew_50 (lv_at hl 4 rfl) ?_
    refine lv_iload_n hx hb dX4_askAnew_52 rfl (lv_at hl 2 rfl) ?_
    obtain ⟨r_5, hc_53, hd⟩ := ob_s1 hd
    refine ob_Si (isC := []) (isR := [0, 1, 2, 3, 4, 5, 6, 7]) (is2 := [0, 1, 2, 3, 4, 5, 6, 7]) (wc := ([] : va_W)) (wr := (List.filterMap (fun i => (ob_w4 o_b a_b cI b ++ ob_w1 (a_b 2) a_y cI y)[i]?) [0, 1, 2, 3, 4, 5, 6, 7])) (w1 := ([] : va_W)) (w2 := (ob_w4 o_b a_b cI b ++ ob_w1 (a_b 2) a_y cI y)) (As := [.int z4, .int x2]) (rest := [.ref o_b]) ⟨hx, hb, hml, hown, hts⟩ (mt_X4_toldBody l dC dI cI cZ cR cW xs _ z4 x2 r_5 hc_53) (va_cwS 2 hts gX4_askAnew_X4_toldBody rfl rfl rfl (by decide +kernel) ⟨Nat.le_of_ble_eq_true rfl, Nat.le_of_ble_eq_true rfl⟩) hK hE hP hD hS hA ⟨rfl, rfl, rfl, rfl, rfl, rfl, rfl⟩ hl rfl rfl (Nat.le_of_ble_eq_true rfl) ⟨Nat.le_of_ble_eq_true rfl, Nat.le_of_ble_eq_true rfl⟩ dX4_askAnew_53 (fun H locs hP hD hS => ?_)
    refine W.widen (k := 0) (n := 0) (Nat.le_refl _) (Nat.le_refl _) ?_
    refine lv_iload_n hx hb dX4_askAnew_56 rfl (lv_at hl 1 rfl) ?_
    refine lv_iload_n hx hb dX4_askAnew_57 rfl (lv_at hl 3 rfl) ?_
    obtain ⟨r_6, b_7, hc_58, hd⟩ := ob_s2 hd
    refine ob_Vi (isC := [0, 1, 2, 3, 4, 5, 6, 7]) (isR := []) (is2 := [0, 1, 2, 3, 4, 5, 6, 7]) (wc := (ob_w4 o_b a_b cI b ++ ob_w1 (a_b 2) a_y cI y)) (wr := ([] : va_W)) (w1 := (ob_w4 o_b a_b cI b_7 ++ ob_w1 (a_b 2) a_y cI y)) (w2 := (ob_w4 o_b a_b cI b_7 ++ ob_w1 (a_b 2) a_y cI y)) (b := o_b) (As := [.int r_5, .int x1, .int x3]) (rest := []) ⟨hx, hb, hml, hown, hts⟩ (mt_X4_runBody7 l dC dI cI cZ cR cW xs _ o_b a_b a_y b y r_5 x1 x3 r_6 b_7 hc_58) (cwV 3 hts gX4_askAnew_X4_runBody rfl rfl rfl (by decide +kernel) ⟨Nat.le_of_ble_eq_true rfl, Nat.le_of_ble_eq_true rfl⟩) hK hE hP hD hS hA ⟨rfl, rfl, rfl, rfl, rfl, rfl, rfl⟩ 4 0 rfl rfl rfl hl rfl rfl (Nat.le_of_ble_eq_true rfl) ⟨Nat.le_of_ble_eq_true rfl, Nat.le_of_ble_eq_true rfl⟩ dX4_askAnew_58 (fun H locs hP hD hS => ?_)
    refine W.widen (k := 0) (n := 0) (Nat.le_refl _) (Nat.le_refl _) ?_
    obtain ⟨e1, e2⟩ := ob_pp hd
    subst e1
    subst e2
    exact ob_iret hx hb hr hlocks hP hD hS dX4_askAnew_61
  have L14 : ∀  (fu : Nat), ∀ (H : Heap) (locs : List Loc) (b : ob_B) (z4 : Int32) (z5 : Int32) (ls : Array Slot), va_P (dC, dI) vwCl (ob_w4 o_b a_b cI b ++ ob_w1 (a_b 2) a_y cI y) H → va_D A (ob_w4 o_b a_b cI b ++ ob_w1 (a_b 2) a_y cI y) → va_S A s.heap H locs → lv_has ls 6 [(0, .ref o_b), (1, .int x1), (2, .int x2), (3, .int x3), (4, .int z4), (5, .int z5)] → fd_X4_askAnew7_L14 fu b y x1 x2 x3 z4 z5 = some (rr, b') → W p l e ({ frames := 15, cells := 0, slots := 0, locals := 367 } : Room) s m (List.toArray [.ref o_b, .int x1, .int x2, .int x3]) below meth c H locs 0 0 (MQ below ((ob_Qi (dC, dI) rr (ob_w4 o_b a_b cI b' ++ ob_w1 (a_b 2) a_y cI y)) A) (List.toArray [.ref o_b, .int x1, .int x2, .int x3]) s 0 0 A) (F0 m 14 ls []) := by
    intro  fu
    induction fu with
    | zero =>
      intro H locs b z4 z5 ls hP hD hS hl hd
      rw [fd_X4_askAnew7_L14] at hd
      cases hd
    | succ fu ih =>
      intro H locs b z4 z5 ls hP hD hS hl hd
      rw [fd_X4_askAnew7_L14] at hd
      refine lv_iload hx hb dX4_askAnew_14 (lv_at hl 5 rfl) ?_
      refine lv_bipush (v := 6) hx hb dX4_askAnew_16 (by decide) ?_
      refine lv_icmp_ge (tgt := 49) hx hb dX4_askAnew_18 (by decide) (fun c_18 => ?_) (fun c_18 => ?_)
      · replace hd := ob_t c_18 hd
        exact L49   _ _ b z4 _ hP hD hS (lv_sub hl [0, 1, 2, 3, 4] rfl) hd
      · replace hd := ob_f c_18 hd
        refine lv_iload hx hb dX4_askAnew_21 (lv_at hl 4 rfl) ?_
        refine lv_if_le (tgt := 49) hx hb dX4_askAnew_23 (by decide) (fun c_23 => ?_) (fun c_23 => ?_)
        · replace hd := ob_t c_23 hd
          exact L49   _ _ b z4 _ hP hD hS (lv_sub hl [0, 1, 2, 3, 4] rfl) hd
        · replace hd := ob_f c_23 hd
          refine lv_iload hx hb dX4_askAnew_26 (lv_at hl 4 rfl) ?_
          refine lv_iload_n hx hb dX4_askAnew_28 rfl (lv_at hl 2 rfl) ?_
          obtain ⟨r_2, hc_29, hd⟩ := ob_s1 hd
          refine ob_Si (isC := []) (isR := [0, 1, 2, 3, 4, 5, 6, 7]) (is2 := [0, 1, 2, 3, 4, 5, 6, 7]) (wc := ([] : va_W)) (wr := (List.filterMap (fun i => (ob_w4 o_b a_b cI b ++ ob_w1 (a_b 2) a_y cI y)[i]?) [0, 1, 2, 3, 4, 5, 6, 7])) (w1 := ([] : va_W)) (w2 := (ob_w4 o_b a_b cI b ++ ob_w1 (a_b 2) a_y cI y)) (As := [.int z4, .int x2]) (rest := []) ⟨hx, hb, hml, hown, hts⟩ (mt_X4_toldBody l dC dI cI cZ cR cW xs _ z4 x2 r_2 hc_29) (va_cwS 2 hts gX4_askAnew_X4_toldBody rfl rfl rfl (by decide +kernel) ⟨Nat.le_of_ble_eq_true rfl, Nat.le_of_ble_eq_true rfl⟩) hK hE hP hD hS hA ⟨rfl, rfl, rfl, rfl, rfl, rfl, rfl⟩ hl rfl rfl (Nat.le_of_ble_eq_true rfl) ⟨Nat.le_of_ble_eq_true rfl, Nat.le_of_ble_eq_true rfl⟩ dX4_askAnew_29 (fun H locs hP hD hS => ?_)
          refine W.widen (k := 0) (n := 0) (Nat.le_refl _) (Nat.le_refl _) ?_
          refine lv_if_ne (tgt := 49) hx hb dX4_askAnew_32 (by decide) (fun c_32 => ?_) (fun c_32 => ?_)
          · replace hd := ob_f c_32 hd
            exact L49   _ _ b z4 _ hP hD hS (lv_sub hl [0, 1, 2, 3, 4] rfl) hd
          · replace hd := ob_t c_32 hd
            refine va_gets hx hb hE1 hS hown kw2 (fun _ h9 => h9) dX4_askAnew_35 ?_
            refine lv_iload hx hb dX4_askAnew_38 (lv_at hl 4 rfl) ?_
            obtain ⟨h1_40, hd⟩ := ob_nn hd
            refine va_ti hx hb hE2 hS h1_40 rfl dX4_askAnew_40 ?_
            refine lv_topi (fun x_3 ex_3 => ?_)
            replace hd := ob_lx ex_3 hd
            clear ex_3
            refine lv_istore (lv' := [(4, .int x_3), (0, .ref o_b), (1, .int x1), (2, .int x2), (3, .int x3), (5, .int z5)]) hx hb dX4_askAnew_41 hl (by decide) rfl (fun ls hl => ?_)
            obtain ⟨x_4, ex_4⟩ : ∃ z : Int32, z = z5 + 1 := ⟨_, rfl⟩
            replace hd := ob_lx ex_4 hd
            refine lv_iinc (v := x_4) (lv' := [(5, .int x_4), (4, .int x_3), (0, .ref o_b), (1, .int x1), (2, .int x2), (3, .int x3)]) hx hb dX4_askAnew_43 hl (k := 5) rfl (by rw [ex_4]; rfl) (by decide) rfl (fun ls hl => ?_)
            clear ex_4
            refine lv_goto (tgt := 14) hx hb dX4_askAnew_46 (by decide) ?_
            exact ih _ _ b x_3 x_4 _ hP hD hS (lv_sub hl [2, 3, 4, 5, 1, 0] rfl) hd
  refine lv_aload_n hx hb dX4_askAnew_0 rfl (lv_at hl 0 rfl) ?_
  refine va_get (D := (dC, dI)) (ci := 4) (v := .ref (a_b 2)) (C := RX4) (T := TX4) (N := 10) hx hb hts hi_X4 hown hK hP 0 rfl rfl 2 (by decide) kw0 (fun _ h9 => h9) rfl dX4_askAnew_1 ?_
  refine va_get (D := (dC, dI)) (ci := 1) (v := .ref (a_y 7)) (C := RX1) (T := TX1) (N := 12) hx hb hts hi_X1 hown hK hP 2 rfl rfl 7 (by decide) kw1 (fun _ h9 => h9) rfl dX4_askAnew_4 ?_
  refine lv_iload_n hx hb dX4_askAnew_7 rfl (lv_at hl 1 rfl) ?_
  obtain ⟨h1_8, hd⟩ := ob_nn hd
  refine va_iald hx hb hK hP 3 0 rfl rfl h1_8 dX4_askAnew_8 ?_
  refine lv_topi (fun x_1 ex_1 => ?_)
  replace hd := ob_lx ex_1 hd
  clear ex_1
  refine lv_istore (lv' := [(4, .int x_1), (0, .ref o_b), (1, .int x1), (2, .int x2), (3, .int x3)]) hx hb dX4_askAnew_9 hl (by decide) rfl (fun ls hl => ?_)
  refine lv_iconst (v := 0) hx hb dX4_askAnew_11 (by decide) ?_
  refine lv_istore (lv' := [(5, .int 0), (4, .int x_1), (0, .ref o_b), (1, .int x1), (2, .int x2), (3, .int x3)]) hx hb dX4_askAnew_12 hl (by decide) rfl (fun ls hl => ?_)
  exact L14  2000 _ _ b x_1 0 _ hP hD hS (lv_sub hl [2, 3, 4, 5, 1, 0] rfl) hd

def fd_X4_ask  (b : ob_B) (y : ob_B) (x1 : Int32) (x2 : Int32) : Option (Int32 × ob_B) := ob_b1 (fd_X4_isOath b y x1) (fun r_1 => if r_1 = 0 then (some ((-1000001), b)) else (ob_b1 (fd_X4_isEither x2) (fun r_2 => if r_2 = 0 then (some ((-1000001), b)) else (ob_lt (ob_I b 7 0 : ob_B) (fun b_3 => ob_b2 (fd_X4_askAnew7 b_3 y x1 x2 0) (fun r_4 b_5 => some (r_4, b_5)))))))
set_option maxHeartbeats 4000000 in
set_option maxRecDepth 100000 in
theorem mt_X4_ask (l : Launch) (dC : Nat → ClassId) (dI : Nat → Nat → Nat) (cI cZ cR cW : ClassId) (xs : Nat → Nat) (sz : Nat) (o_b : Nat) (a_b : Nat → Nat) (a_y : Nat → Nat) (b : ob_B) (y : ob_B) (x1 : Int32) (x2 : Int32)  (rr : Int32) (b' : ob_B) (hd : fd_X4_ask b y x1 x2 = some (rr, b')) : ob_M l yX4_ask wsX4_ask ({ frames := 16, cells := 0, slots := 0, locals := 392 } : Room) (dC, dI) (ob_ty cI cZ cR cW) xs [.ref o_b, .int x1, .int x2] (ob_w4 o_b a_b cI b ++ ob_w1 (a_b 2) a_y cI y) sz (ob_Qi (dC, dI) rr (ob_w4 o_b a_b cI b' ++ ob_w1 (a_b 2) a_y cI y)) := by
  rw [fd_X4_ask] at hd
  refine ob_in (cc := cX4_ask) (maxL := 3) (ret := (some .int)) (own := RX4) (by decide) rfl rfl [(0, .ref o_b), (1, .int x1), (2, .int x2)] rfl (Nat.le_of_ble_eq_true rfl) ?_
  intro p e s m below meth c hx hb hr hml hown hts hlocks hnm hK A hA hE hP hD hS ls hl
  have kw0 := hts (.constant RX4 62 (-1000001)) (by decide +kernel)
  have kw1 := hts (.fieldLink RX4 47 "OathCoach" "tracedCount" "I") (by decide +kernel)
  have hi_X4 : ∀ w ∈ u_ws RX4 TX4 10, w ∈ wsX4_ask := by decide +kernel
  refine lv_aload_n hx hb dX4_ask_0 rfl (lv_at hl 0 rfl) ?_
  refine lv_iload_n hx hb dX4_ask_1 rfl (lv_at hl 1 rfl) ?_
  obtain ⟨r_1, hc_2, hd⟩ := ob_s1 hd
  refine ob_Vi (isC := [0, 1, 2, 3, 4, 5, 6, 7]) (isR := []) (is2 := [0, 1, 2, 3, 4, 5, 6, 7]) (wc := (ob_w4 o_b a_b cI b ++ ob_w1 (a_b 2) a_y cI y)) (wr := ([] : va_W)) (w1 := (ob_w4 o_b a_b cI b ++ ob_w1 (a_b 2) a_y cI y)) (w2 := (ob_w4 o_b a_b cI b ++ ob_w1 (a_b 2) a_y cI y)) (b := o_b) (As := [.int x1]) (rest := []) ⟨hx, hb, hml, hown, hts⟩ (mt_X4_isOath l dC dI cI cZ cR cW xs _ o_b a_b a_y b y x1 r_1 hc_2) (cwV 1 hts gX4_ask_X4_isOath rfl rfl rfl (by decide +kernel) ⟨Nat.le_of_ble_eq_true rfl, Nat.le_of_ble_eq_true rfl⟩) hK hE hP hD hS hA ⟨rfl, rfl, rfl, rfl, rfl, rfl, rfl⟩ 4 0 rfl rfl rfl hl rfl rfl (Nat.le_of_ble_eq_true rfl) ⟨Nat.le_of_ble_eq_true rfl, Nat.le_of_ble_eq_true rfl⟩ dX4_ask_2 (fun H locs hP hD hS => ?_)
  refine W.widen (k := 0) (n := 0) (Nat.le_refl _) (Nat.le_refl _) ?_
  refine lv_if_eq (tgt := 15) hx hb dX4_ask_5 (by decide) (fun c_5 => ?_) (fun c_5 => ?_)
  · replace hd := ob_t c_5 hd
    refine lv_ldc hx hb hown kw0 dX4_ask_15 ?_
    obtain ⟨e1, e2⟩ := ob_pp hd
    subst e1
    subst e2
    exact ob_iret hx hb hr hlocks hP hD hS dX4_ask_17
  · replace hd := ob_f c_5 hd
    refine lv_iload_n hx hb dX4_ask_8 rfl (lv_at hl 2 rfl) ?_
    obtain ⟨r_2, hc_9, hd⟩ := ob_s1 hd
    refine ob_Si (isC := []) (isR := [0, 1, 2, 3, 4, 5, 6, 7]) (is2 := [0, 1, 2, 3, 4, 5, 6, 7]) (wc := ([] : va_W)) (wr := (List.filterMap (fun i => (ob_w4 o_b a_b cI b ++ ob_w1 (a_b 2) a_y cI y)[i]?) [0, 1, 2, 3, 4, 5, 6, 7])) (w1 := ([] : va_W)) (w2 := (ob_w4 o_b a_b cI b ++ ob_w1 (a_b 2) a_y cI y)) (As := [.int x2]) (rest := []) ⟨hx, hb, hml, hown, hts⟩ (mt_X4_isEither l dC dI cI cZ cR cW xs _ x2 r_2 hc_9) (va_cwS 1 hts gX4_ask_X4_isEither rfl rfl rfl (by decide +kernel) ⟨Nat.le_of_ble_eq_true rfl, Nat.le_of_ble_eq_true rfl⟩) hK hE hP hD hS hA ⟨rfl, rfl, rfl, rfl, rfl, rfl, rfl⟩ hl rfl rfl (Nat.le_of_ble_eq_true rfl) ⟨Nat.le_of_ble_eq_true rfl, Nat.le_of_ble_eq_true rfl⟩ dX4_ask_9 (fun H locs hP hD hS => ?_)
    refine W.widen (k := 0) (n := 0) (Nat.le_refl _) (Nat.le_refl _) ?_
    refine lv_if_ne (tgt := 18) hx hb dX4_ask_12 (by decide) (fun c_12 => ?_) (fun c_12 => ?_)
    · replace hd := ob_f c_12 hd
      refine lv_aload_n hx hb dX4_ask_18 rfl (lv_at hl 0 rfl) ?_
      refine lv_iconst (v := 0) hx hb dX4_ask_19 (by decide) ?_
      refine va_put (D := (dC, dI)) (ci := 4) (v := .int 0) (ty := .int) (C := RX4) (T := TX4) (N := 10) hx hb hts hi_X4 tyX4 tyX4_ok nmX4 hown hK hP hD hS 0 rfl rfl 7 (by decide) kw1 (fun _ h9 => h9) rfl (by decide +kernel) rfl rfl (Nat.le_of_ble_eq_true rfl) dX4_ask_20 (fun H locs hP hD hS => ?_)
      obtain ⟨b_3, eb_3⟩ : ∃ z : ob_B, z = ob_I b 7 0 := ⟨_, rfl⟩
      replace hd := ob_lx eb_3 hd
      replace hP : va_P (dC, dI) vwCl (ob_w4 o_b a_b cI b_3 ++ ob_w1 (a_b 2) a_y cI y) H := by rw [eb_3]; exact hP
      replace hD : va_D A (ob_w4 o_b a_b cI b_3 ++ ob_w1 (a_b 2) a_y cI y) := by rw [eb_3]; exact hD
      clear eb_3
      refine lv_aload_n hx hb dX4_ask_23 rfl (lv_at hl 0 rfl) ?_
      refine lv_iload_n hx hb dX4_ask_24 rfl (lv_at hl 1 rfl) ?_
      refine lv_iload_n hx hb dX4_ask_25 rfl (lv_at hl 2 rfl) ?_
      refine lv_iconst (v := 0) hx hb dX4_ask_26 (by decide) ?_
      obtain ⟨r_4, b_5, hc_27, hd⟩ := ob_s2 hd
      refine ob_Vi (isC := [0, 1, 2, 3, 4, 5, 6, 7]) (isR := []) (is2 := [0, 1, 2, 3, 4, 5, 6, 7]) (wc := (ob_w4 o_b a_b cI b_3 ++ ob_w1 (a_b 2) a_y cI y)) (wr := ([] : va_W)) (w1 := (ob_w4 o_b a_b cI b_5 ++ ob_w1 (a_b 2) a_y cI y)) (w2 := (ob_w4 o_b a_b cI b_5 ++ ob_w1 (a_b 2) a_y cI y)) (b := o_b) (As := [.int x1, .int x2, .int 0]) (rest := []) ⟨hx, hb, hml, hown, hts⟩ (mt_X4_askAnew7 l dC dI cI cZ cR cW xs _ o_b a_b a_y b_3 y x1 x2 0 r_4 b_5 hc_27) (cwV 3 hts gX4_ask_X4_askAnew rfl rfl rfl (by decide +kernel) ⟨Nat.le_of_ble_eq_true rfl, Nat.le_of_ble_eq_true rfl⟩) hK hE hP hD hS hA ⟨rfl, rfl, rfl, rfl, rfl, rfl, rfl⟩ 4 0 rfl rfl rfl hl rfl rfl (Nat.le_of_ble_eq_true rfl) ⟨Nat.le_of_ble_eq_true rfl, Nat.le_of_ble_eq_true rfl⟩ dX4_ask_27 (fun H locs hP hD hS => ?_)
      refine W.widen (k := 0) (n := 0) (Nat.le_refl _) (Nat.le_refl _) ?_
      obtain ⟨e1, e2⟩ := ob_pp hd
      subst e1
      subst e2
      exact ob_iret hx hb hr hlocks hP hD hS dX4_ask_30
    · replace hd := ob_t c_12 hd
      refine lv_ldc hx hb hown kw0 dX4_ask_15 ?_
      obtain ⟨e1, e2⟩ := ob_pp hd
      subst e1
      subst e2
      exact ob_iret hx hb hr hlocks hP hD hS dX4_ask_17
