def fd_X4_isWithin   (x0 : Int32) (x1 : Int32) (x2 : Int32) : Option (Int32) := if x0 < x1 then (some (0)) else (if x2 < x0 then (some (0)) else (some (1)))
set_option maxHeartbeats 4000000 in
set_option maxRecDepth 100000 in
theorem mt_X4_isWithin (l : Launch) (dC : Nat → ClassId) (dI : Nat → Nat → Nat) (cI cZ cR cW : ClassId) (xs : Nat → Nat) (sz : Nat)   (x0 : Int32) (x1 : Int32) (x2 : Int32)  (rr : Int32) (hd : fd_X4_isWithin x0 x1 x2 = some (rr)) : ob_M l yX4_isWithin wsX4_isWithin ({ frames := 0, cells := 0, slots := 0, locals := 0 } : Room) (dC, dI) (ob_ty cI cZ cR cW) xs [.int x0, .int x1, .int x2] ([] : va_W) sz (ob_Qi (dC, dI) rr ([] : va_W)) := by
  rw [fd_X4_isWithin] at hd
  refine ob_in (cc := cX4_isWithin) (maxL := 3) (ret := (some .boolean)) (own := RX4) (by decide) rfl rfl [(0, .int x0), (1, .int x1), (2, .int x2)] rfl (Nat.le_of_ble_eq_true rfl) ?_
  intro p e s m below meth c hx hb hr hml hown hts hlocks hnm hK A hA hE hP hD hS ls hl
  refine lv_iload_n hx hb dX4_isWithin_0 rfl (lv_at hl 0 rfl) ?_
  refine lv_iload_n hx hb dX4_isWithin_1 rfl (lv_at hl 1 rfl) ?_
  refine lv_icmp_lt (tgt := 14) hx hb dX4_isWithin_2 (by decide) (fun c_2 => ?_) (fun c_2 => ?_)
  · replace hd := ob_t c_2 hd
    refine lv_iconst (v := 0) hx hb dX4_isWithin_14 (by decide) ?_
    have e1 := Option.some.inj hd
    subst e1
    exact ob_zret hx hb hr hlocks (by decide) hP hD hS dX4_isWithin_15
  · replace hd := ob_f c_2 hd
    refine lv_iload_n hx hb dX4_isWithin_5 rfl (lv_at hl 0 rfl) ?_
    refine lv_iload_n hx hb dX4_isWithin_6 rfl (lv_at hl 2 rfl) ?_
    refine lv_icmp_gt (tgt := 14) hx hb dX4_isWithin_7 (by decide) (fun c_7 => ?_) (fun c_7 => ?_)
    · replace hd := ob_t c_7 hd
      refine lv_iconst (v := 0) hx hb dX4_isWithin_14 (by decide) ?_
      have e1 := Option.some.inj hd
      subst e1
      exact ob_zret hx hb hr hlocks (by decide) hP hD hS dX4_isWithin_15
    · replace hd := ob_f c_7 hd
      refine lv_iconst (v := 1) hx hb dX4_isWithin_10 (by decide) ?_
      refine lv_goto (tgt := 15) hx hb dX4_isWithin_11 (by decide) ?_
      have e1 := Option.some.inj hd
      subst e1
      exact ob_zret hx hb hr hlocks (by decide) hP hD hS dX4_isWithin_15

def fd_X4_isEither   (x0 : Int32) : Option (Int32) := if x0 = 0 then (some (1)) else (if x0 = 1 then (some (1)) else (some (0)))
set_option maxHeartbeats 4000000 in
set_option maxRecDepth 100000 in
theorem mt_X4_isEither (l : Launch) (dC : Nat → ClassId) (dI : Nat → Nat → Nat) (cI cZ cR cW : ClassId) (xs : Nat → Nat) (sz : Nat)   (x0 : Int32)  (rr : Int32) (hd : fd_X4_isEither x0 = some (rr)) : ob_M l yX4_isEither wsX4_isEither ({ frames := 0, cells := 0, slots := 0, locals := 0 } : Room) (dC, dI) (ob_ty cI cZ cR cW) xs [.int x0] ([] : va_W) sz (ob_Qi (dC, dI) rr ([] : va_W)) := by
  rw [fd_X4_isEither] at hd
  refine ob_in (cc := cX4_isEither) (maxL := 1) (ret := (some .boolean)) (own := RX4) (by decide) rfl rfl [(0, .int x0)] rfl (Nat.le_of_ble_eq_true rfl) ?_
  intro p e s m below meth c hx hb hr hml hown hts hlocks hnm hK A hA hE hP hD hS ls hl
  refine lv_iload_n hx hb dX4_isEither_0 rfl (lv_at hl 0 rfl) ?_
  refine lv_if_eq (tgt := 9) hx hb dX4_isEither_1 (by decide) (fun c_1 => ?_) (fun c_1 => ?_)
  · replace hd := ob_t c_1 hd
    refine lv_iconst (v := 1) hx hb dX4_isEither_9 (by decide) ?_
    refine lv_goto (tgt := 14) hx hb dX4_isEither_10 (by decide) ?_
    have e1 := Option.some.inj hd
    subst e1
    exact ob_zret hx hb hr hlocks (by decide) hP hD hS dX4_isEither_14
  · replace hd := ob_f c_1 hd
    refine lv_iload_n hx hb dX4_isEither_4 rfl (lv_at hl 0 rfl) ?_
    refine lv_iconst (v := 1) hx hb dX4_isEither_5 (by decide) ?_
    refine lv_icmp_ne (tgt := 13) hx hb dX4_isEither_6 (by decide) (fun c_6 => ?_) (fun c_6 => ?_)
    · replace hd := ob_f c_6 hd
      refine lv_iconst (v := 0) hx hb dX4_isEither_13 (by decide) ?_
      have e1 := Option.some.inj hd
      subst e1
      exact ob_zret hx hb hr hlocks (by decide) hP hD hS dX4_isEither_14
    · replace hd := ob_t c_6 hd
      refine lv_iconst (v := 1) hx hb dX4_isEither_9 (by decide) ?_
      refine lv_goto (tgt := 14) hx hb dX4_isEither_10 (by decide) ?_
      have e1 := Option.some.inj hd
      subst e1
      exact ob_zret hx hb hr hlocks (by decide) hP hD hS dX4_isEither_14

def fd_X4_isRow   (x0 : Int32) : Option (Int32) := ob_b1 (fd_X4_isWithin x0 0 7) (fun r_1 => if ¬ (r_1 &&& 1 = r_1) then none else (some (r_1)))
set_option maxHeartbeats 4000000 in
set_option maxRecDepth 100000 in
theorem mt_X4_isRow (l : Launch) (dC : Nat → ClassId) (dI : Nat → Nat → Nat) (cI cZ cR cW : ClassId) (xs : Nat → Nat) (sz : Nat)   (x0 : Int32)  (rr : Int32) (hd : fd_X4_isRow x0 = some (rr)) : ob_M l yX4_isRow wsX4_isRow ({ frames := 1, cells := 0, slots := 0, locals := 22 } : Room) (dC, dI) (ob_ty cI cZ cR cW) xs [.int x0] ([] : va_W) sz (ob_Qi (dC, dI) rr ([] : va_W)) := by
  rw [fd_X4_isRow] at hd
  refine ob_in (cc := cX4_isRow) (maxL := 1) (ret := (some .boolean)) (own := RX4) (by decide) rfl rfl [(0, .int x0)] rfl (Nat.le_of_ble_eq_true rfl) ?_
  intro p e s m below meth c hx hb hr hml hown hts hlocks hnm hK A hA hE hP hD hS ls hl
  refine lv_iload_n hx hb dX4_isRow_0 rfl (lv_at hl 0 rfl) ?_
  refine lv_iconst (v := 0) hx hb dX4_isRow_1 (by decide) ?_
  refine lv_bipush (v := 7) hx hb dX4_isRow_2 (by decide) ?_
  obtain ⟨r_1, hc_4, hd⟩ := ob_s1 hd
  refine ob_Si (isC := []) (isR := []) (is2 := []) (wc := ([] : va_W)) (wr := ([] : va_W)) (w1 := ([] : va_W)) (w2 := ([] : va_W)) (As := [.int x0, .int 0, .int 7]) (rest := []) ⟨hx, hb, hml, hown, hts⟩ (mt_X4_isWithin l dC dI cI cZ cR cW xs _ x0 0 7 r_1 hc_4) (va_cwS 3 hts gX4_isRow_X4_isWithin rfl rfl rfl (by decide +kernel) ⟨Nat.le_of_ble_eq_true rfl, Nat.le_of_ble_eq_true rfl⟩) hK hE hP hD hS hA ⟨rfl, rfl, rfl, rfl, rfl, rfl, rfl⟩ hl rfl rfl (Nat.le_of_ble_eq_true rfl) ⟨Nat.le_of_ble_eq_true rfl, Nat.le_of_ble_eq_true rfl⟩ dX4_isRow_4 (fun H locs hP hD hS => ?_)
  refine W.widen (k := 0) (n := 0) (Nat.le_refl _) (Nat.le_refl _) ?_
  obtain ⟨hn, hd⟩ := ob_nn hd
  have e1 := Option.some.inj hd
  subst e1
  exact ob_zret hx hb hr hlocks (ob_nb hn) hP hD hS dX4_isRow_7

def fd_X4_isPlace   (x0 : Int32) : Option (Int32) := ob_b1 (fd_X4_isWithin x0 0 9) (fun r_1 => if ¬ (r_1 &&& 1 = r_1) then none else (some (r_1)))
set_option maxHeartbeats 4000000 in
set_option maxRecDepth 100000 in
theorem mt_X4_isPlace (l : Launch) (dC : Nat → ClassId) (dI : Nat → Nat → Nat) (cI cZ cR cW : ClassId) (xs : Nat → Nat) (sz : Nat)   (x0 : Int32)  (rr : Int32) (hd : fd_X4_isPlace x0 = some (rr)) : ob_M l yX4_isPlace wsX4_isPlace ({ frames := 1, cells := 0, slots := 0, locals := 22 } : Room) (dC, dI) (ob_ty cI cZ cR cW) xs [.int x0] ([] : va_W) sz (ob_Qi (dC, dI) rr ([] : va_W)) := by
  rw [fd_X4_isPlace] at hd
  refine ob_in (cc := cX4_isPlace) (maxL := 1) (ret := (some .boolean)) (own := RX4) (by decide) rfl rfl [(0, .int x0)] rfl (Nat.le_of_ble_eq_true rfl) ?_
  intro p e s m below meth c hx hb hr hml hown hts hlocks hnm hK A hA hE hP hD hS ls hl
  refine lv_iload_n hx hb dX4_isPlace_0 rfl (lv_at hl 0 rfl) ?_
  refine lv_iconst (v := 0) hx hb dX4_isPlace_1 (by decide) ?_
  refine lv_bipush (v := 9) hx hb dX4_isPlace_2 (by decide) ?_
  obtain ⟨r_1, hc_4, hd⟩ := ob_s1 hd
  refine ob_Si (isC := []) (isR := []) (is2 := []) (wc := ([] : va_W)) (wr := ([] : va_W)) (w1 := ([] : va_W)) (w2 := ([] : va_W)) (As := [.int x0, .int 0, .int 9]) (rest := []) ⟨hx, hb, hml, hown, hts⟩ (mt_X4_isWithin l dC dI cI cZ cR cW xs _ x0 0 9 r_1 hc_4) (va_cwS 3 hts gX4_isPlace_X4_isWithin rfl rfl rfl (by decide +kernel) ⟨Nat.le_of_ble_eq_true rfl, Nat.le_of_ble_eq_true rfl⟩) hK hE hP hD hS hA ⟨rfl, rfl, rfl, rfl, rfl, rfl, rfl⟩ hl rfl rfl (Nat.le_of_ble_eq_true rfl) ⟨Nat.le_of_ble_eq_true rfl, Nat.le_of_ble_eq_true rfl⟩ dX4_isPlace_4 (fun H locs hP hD hS => ?_)
  refine W.widen (k := 0) (n := 0) (Nat.le_refl _) (Nat.le_refl _) ?_
  obtain ⟨hn, hd⟩ := ob_nn hd
  have e1 := Option.some.inj hd
  subst e1
  exact ob_zret hx hb hr hlocks (ob_nb hn) hP hD hS dX4_isPlace_7

def fd_X4_bitAt_L4  : Nat → Int32 → Int32 → Int32 → Option (Int32)
  | 0, _, _, _ => none
  | fu + 1, x0, z2, z3 => if 7 ≤ z3 then (some ((-1000000))) else (if ((x0 >>> (z3 &&& 31)) &&& 1) = 0 then (ob_lt (z3 + 1 : Int32) (fun x_1 => fd_X4_bitAt_L4 fu x0 z2 x_1)) else (if z2 = 0 then (some (z3)) else (ob_lt (z2 + (-1) : Int32) (fun x_2 => ob_lt (z3 + 1 : Int32) (fun x_3 => fd_X4_bitAt_L4 fu x0 x_2 x_3)))))
def fd_X4_bitAt   (x0 : Int32) (x1 : Int32) : Option (Int32) := fd_X4_bitAt_L4 2000 x0 x1 0
set_option maxHeartbeats 4000000 in
set_option maxRecDepth 100000 in
theorem mt_X4_bitAt (l : Launch) (dC : Nat → ClassId) (dI : Nat → Nat → Nat) (cI cZ cR cW : ClassId) (xs : Nat → Nat) (sz : Nat)   (x0 : Int32) (x1 : Int32)  (rr : Int32) (hd : fd_X4_bitAt x0 x1 = some (rr)) : ob_M l yX4_bitAt wsX4_bitAt ({ frames := 0, cells := 0, slots := 0, locals := 0 } : Room) (dC, dI) (ob_ty cI cZ cR cW) xs [.int x0, .int x1] ([] : va_W) sz (ob_Qi (dC, dI) rr ([] : va_W)) := by
  rw [fd_X4_bitAt] at hd
  refine ob_in (cc := cX4_bitAt) (maxL := 4) (ret := (some .int)) (own := RX4) (by decide) rfl rfl [(0, .int x0), (1, .int x1)] rfl (Nat.le_of_ble_eq_true rfl) ?_
  intro p e s m below meth c hx hb hr hml hown hts hlocks hnm hK A hA hE hP hD hS ls hl
  have kw0 := hts (.constant RX4 205 (-1000000)) (by decide +kernel)
  have L4 : ∀  (fu : Nat), ∀ (H : Heap) (locs : List Loc)  (z2 : Int32) (z3 : Int32) (ls : Array Slot), va_P (dC, dI) vwCl ([] : va_W) H → va_D A ([] : va_W) → va_S A s.heap H locs → lv_has ls 4 [(0, .int x0), (2, .int z2), (3, .int z3)] → fd_X4_bitAt_L4 fu x0 z2 z3 = some (rr) → W p l e ({ frames := 0, cells := 0, slots := 0, locals := 0 } : Room) s m (List.toArray [.int x0, .int x1]) below meth c H locs 0 0 (MQ below ((ob_Qi (dC, dI) rr ([] : va_W)) A) (List.toArray [.int x0, .int x1]) s 0 0 A) (F0 m 4 ls []) := by
    intro  fu
    induction fu with
    | zero =>
      intro H locs z2 z3 ls hP hD hS hl hd
      rw [fd_X4_bitAt_L4] at hd
      cases hd
    | succ fu ih =>
      intro H locs z2 z3 ls hP hD hS hl hd
      rw [fd_X4_bitAt_L4] at hd
      refine lv_iload_n hx hb dX4_bitAt_4 rfl (lv_at hl 2 rfl) ?_
      refine lv_bipush (v := 7) hx hb dX4_bitAt_5 (by decide) ?_
      refine lv_icmp_ge (tgt := 33) hx hb dX4_bitAt_7 (by decide) (fun c_7 => ?_) (fun c_7 => ?_)
      · replace hd := ob_t c_7 hd
        refine lv_ldc hx hb hown kw0 dX4_bitAt_33 ?_
        have e1 := Option.some.inj hd
        subst e1
        exact ob_iret hx hb hr hlocks hP hD hS dX4_bitAt_35
      · replace hd := ob_f c_7 hd
        refine lv_iload_n hx hb dX4_bitAt_10 rfl (lv_at hl 0 rfl) ?_
        refine lv_iload_n hx hb dX4_bitAt_11 rfl (lv_at hl 2 rfl) ?_
        refine lv_ishr hx hb dX4_bitAt_12 ?_
        refine lv_iconst (v := 1) hx hb dX4_bitAt_13 (by decide) ?_
        refine lv_iand hx hb dX4_bitAt_14 ?_
        refine lv_if_eq (tgt := 27) hx hb dX4_bitAt_15 (by decide) (fun c_15 => ?_) (fun c_15 => ?_)
        · replace hd := ob_t c_15 hd
          obtain ⟨x_1, ex_1⟩ : ∃ z : Int32, z = z3 + 1 := ⟨_, rfl⟩
          replace hd := ob_lx ex_1 hd
          refine lv_iinc (v := x_1) (lv' := [(3, .int x_1), (0, .int x0), (2, .int z2)]) hx hb dX4_bitAt_27 hl (k := 2) rfl (by rw [ex_1]; rfl) (by decide) rfl (fun ls hl => ?_)
          clear ex_1
          refine lv_goto (tgt := 4) hx hb dX4_bitAt_30 (by decide) ?_
          exact ih _ _ z2 x_1 _ hP hD hS (lv_sub hl [1, 2, 0] rfl) hd
        · replace hd := ob_f c_15 hd
          refine lv_iload_n hx hb dX4_bitAt_18 rfl (lv_at hl 1 rfl) ?_
          refine lv_if_ne (tgt := 24) hx hb dX4_bitAt_19 (by decide) (fun c_19 => ?_) (fun c_19 => ?_)
          · replace hd := ob_f c_19 hd
            obtain ⟨x_2, ex_2⟩ : ∃ z : Int32, z = z2 + (-1) := ⟨_, rfl⟩
            replace hd := ob_lx ex_2 hd
            refine lv_iinc (v := x_2) (lv' := [(2, .int x_2), (0, .int x0), (3, .int z3)]) hx hb dX4_bitAt_24 hl (k := 1) rfl (by rw [ex_2]; rfl) (by decide) rfl (fun ls hl => ?_)
            clear ex_2
            obtain ⟨x_3, ex_3⟩ : ∃ z : Int32, z = z3 + 1 := ⟨_, rfl⟩
            replace hd := ob_lx ex_3 hd
            refine lv_iinc (v := x_3) (lv' := [(3, .int x_3), (2, .int x_2), (0, .int x0)]) hx hb dX4_bitAt_27 hl (k := 2) rfl (by rw [ex_3]; rfl) (by decide) rfl (fun ls hl => ?_)
            clear ex_3
            refine lv_goto (tgt := 4) hx hb dX4_bitAt_30 (by decide) ?_
            exact ih _ _ x_2 x_3 _ hP hD hS (lv_sub hl [2, 1, 0] rfl) hd
          · replace hd := ob_t c_19 hd
            refine lv_iload_n hx hb dX4_bitAt_22 rfl (lv_at hl 2 rfl) ?_
            have e1 := Option.some.inj hd
            subst e1
            exact ob_iret hx hb hr hlocks hP hD hS dX4_bitAt_23
  refine lv_iload_n hx hb dX4_bitAt_0 rfl (lv_at hl 1 rfl) ?_
  refine lv_istore_n (lv' := [(2, .int x1), (0, .int x0), (1, .int x1)]) hx hb dX4_bitAt_1 rfl hl (by decide) rfl (fun ls hl => ?_)
  refine lv_iconst (v := 0) hx hb dX4_bitAt_2 (by decide) ?_
  refine lv_istore_n (lv' := [(3, .int 0), (2, .int x1), (0, .int x0), (1, .int x1)]) hx hb dX4_bitAt_3 rfl hl (by decide) rfl (fun ls hl => ?_)
  exact L4  2000 _ _ x1 0 _ hP hD hS (lv_sub hl [2, 1, 0] rfl) hd

def fd_X4_power_L5  : Nat → Int32 → Int32 → Int64 → Int32 → Option (Int64)
  | 0, _, _, _, _ => none
  | fu + 1, x0, x1, z2, z4 => if x1 ≤ z4 then (some (z2)) else (ob_lt (z2 * (Int32.toInt64 x0) : Int64) (fun x_1 => ob_lt (z4 + 1 : Int32) (fun x_2 => fd_X4_power_L5 fu x0 x1 x_1 x_2)))
def fd_X4_power   (x0 : Int32) (x1 : Int32) : Option (Int64) := fd_X4_power_L5 2000 x0 x1 1 0
set_option maxHeartbeats 4000000 in
set_option maxRecDepth 100000 in
theorem mt_X4_power (l : Launch) (dC : Nat → ClassId) (dI : Nat → Nat → Nat) (cI cZ cR cW : ClassId) (xs : Nat → Nat) (sz : Nat)   (x0 : Int32) (x1 : Int32)  (rr : Int64) (hd : fd_X4_power x0 x1 = some (rr)) : ob_M l yX4_power wsX4_power ({ frames := 0, cells := 0, slots := 0, locals := 0 } : Room) (dC, dI) (ob_ty cI cZ cR cW) xs [.int x0, .int x1] ([] : va_W) sz (ob_Ql (dC, dI) rr ([] : va_W)) := by
  rw [fd_X4_power] at hd
  refine ob_in (cc := cX4_power) (maxL := 5) (ret := (some .long)) (own := RX4) (by decide) rfl rfl [(0, .int x0), (1, .int x1)] rfl (Nat.le_of_ble_eq_true rfl) ?_
  intro p e s m below meth c hx hb hr hml hown hts hlocks hnm hK A hA hE hP hD hS ls hl
  have L5 : ∀  (fu : Nat), ∀ (H : Heap) (locs : List Loc)  (z2 : Int64) (z4 : Int32) (ls : Array Slot), va_P (dC, dI) vwCl ([] : va_W) H → va_D A ([] : va_W) → va_S A s.heap H locs → lv_has ls 5 [(0, .int x0), (1, .int x1), (2, .long z2), (4, .int z4)] → fd_X4_power_L5 fu x0 x1 z2 z4 = some (rr) → W p l e ({ frames := 0, cells := 0, slots := 0, locals := 0 } : Room) s m (List.toArray [.int x0, .int x1]) below meth c H locs 0 0 (MQ below ((ob_Ql (dC, dI) rr ([] : va_W)) A) (List.toArray [.int x0, .int x1]) s 0 0 A) (F0 m 5 ls []) := by
    intro  fu
    induction fu with
    | zero =>
      intro H locs z2 z4 ls hP hD hS hl hd
      rw [fd_X4_power_L5] at hd
      cases hd
    | succ fu ih =>
      intro H locs z2 z4 ls hP hD hS hl hd
      rw [fd_X4_power_L5] at hd
      refine lv_iload hx hb dX4_power_5 (lv_at hl 3 rfl) ?_
      refine lv_iload_n hx hb dX4_power_7 rfl (lv_at hl 1 rfl) ?_
      refine lv_icmp_ge (tgt := 22) hx hb dX4_power_8 (by decide) (fun c_8 => ?_) (fun c_8 => ?_)
      · replace hd := ob_t c_8 hd
        refine lv_lload_n hx hb dX4_power_22 rfl (lv_at hl 2 rfl) ?_
        have e1 := Option.some.inj hd
        subst e1
        exact ob_lret hx hb hr hlocks hP hD hS dX4_power_23
      · replace hd := ob_f c_8 hd
        refine lv_lload_n hx hb dX4_power_11 rfl (lv_at hl 2 rfl) ?_
        refine lv_iload_n hx hb dX4_power_12 rfl (lv_at hl 0 rfl) ?_
        refine lv_i2l hx hb dX4_power_13 rfl ?_
        refine lv_lmul hx hb dX4_power_14 ?_
        refine lv_topl (fun x_1 ex_1 => ?_)
        replace hd := ob_lx ex_1 hd
        clear ex_1
        refine lv_lstore_n (lv' := [(2, .long x_1), (0, .int x0), (1, .int x1), (4, .int z4)]) hx hb dX4_power_15 rfl hl (by decide) rfl (fun ls hl => ?_)
        obtain ⟨x_2, ex_2⟩ : ∃ z : Int32, z = z4 + 1 := ⟨_, rfl⟩
        replace hd := ob_lx ex_2 hd
        refine lv_iinc (v := x_2) (lv' := [(4, .int x_2), (2, .long x_1), (0, .int x0), (1, .int x1)]) hx hb dX4_power_16 hl (k := 3) rfl (by rw [ex_2]; rfl) (by decide) rfl (fun ls hl => ?_)
        clear ex_2
        refine lv_goto (tgt := 5) hx hb dX4_power_19 (by decide) ?_
        exact ih _ _ x_1 x_2 _ hP hD hS (lv_sub hl [2, 3, 1, 0] rfl) hd
  refine lv_lconst (v := 1) hx hb dX4_power_0 (by decide) ?_
  refine lv_lstore_n (lv' := [(2, .long 1), (0, .int x0), (1, .int x1)]) hx hb dX4_power_1 rfl hl (by decide) rfl (fun ls hl => ?_)
  refine lv_iconst (v := 0) hx hb dX4_power_2 (by decide) ?_
  refine lv_istore (lv' := [(4, .int 0), (2, .long 1), (0, .int x0), (1, .int x1)]) hx hb dX4_power_3 hl (by decide) rfl (fun ls hl => ?_)
  exact L5  2000 _ _ 1 0 _ hP hD hS (lv_sub hl [2, 3, 1, 0] rfl) hd

def fd_X4_commonDivisor_L9  : Nat → Int64 → Int64 → Int32 → Option (Int64)
  | 0, _, _, _ => none
  | fu + 1, z4, z6, z8 => if 100 ≤ z8 then (some (z4)) else (if (lg_cmp z6 0) = 0 then (some (z4)) else (if z6 = 0 then none else (ob_lt (z4 - z4 / z6 * z6 : Int64) (fun x_1 => ob_lt (z8 + 1 : Int32) (fun x_2 => fd_X4_commonDivisor_L9 fu z6 x_1 x_2)))))
def fd_X4_commonDivisor   (x0 : Int64) (x2 : Int64) : Option (Int64) := fd_X4_commonDivisor_L9 2000 x0 x2 0
set_option maxHeartbeats 4000000 in
set_option maxRecDepth 100000 in
theorem mt_X4_commonDivisor (l : Launch) (dC : Nat → ClassId) (dI : Nat → Nat → Nat) (cI cZ cR cW : ClassId) (xs : Nat → Nat) (sz : Nat)   (x0 : Int64) (x2 : Int64)  (rr : Int64) (hd : fd_X4_commonDivisor x0 x2 = some (rr)) : ob_M l yX4_commonDivisor wsX4_commonDivisor ({ frames := 0, cells := 0, slots := 0, locals := 0 } : Room) (dC, dI) (ob_ty cI cZ cR cW) xs [.long x0, .long x2] ([] : va_W) sz (ob_Ql (dC, dI) rr ([] : va_W)) := by
  rw [fd_X4_commonDivisor] at hd
  refine ob_in (cc := cX4_commonDivisor) (maxL := 11) (ret := (some .long)) (own := RX4) (by decide) rfl rfl [(0, .long x0), (2, .long x2)] rfl (Nat.le_of_ble_eq_true rfl) ?_
  intro p e s m below meth c hx hb hr hml hown hts hlocks hnm hK A hA hE hP hD hS ls hl
  have L9 : ∀  (fu : Nat), ∀ (H : Heap) (locs : List Loc)  (z4 : Int64) (z6 : Int64) (z8 : Int32) (ls : Array Slot), va_P (dC, dI) vwCl ([] : va_W) H → va_D A ([] : va_W) → va_S A s.heap H locs → lv_has ls 11 [(4, .long z4), (6, .long z6), (8, .int z8)] → fd_X4_commonDivisor_L9 fu z4 z6 z8 = some (rr) → W p l e ({ frames := 0, cells := 0, slots := 0, locals := 0 } : Room) s m (List.toArray [.long x0, .long x2]) below meth c H locs 0 0 (MQ below ((ob_Ql (dC, dI) rr ([] : va_W)) A) (List.toArray [.long x0, .long x2]) s 0 0 A) (F0 m 9 ls []) := by
    intro  fu
    induction fu with
    | zero =>
      intro H locs z4 z6 z8 ls hP hD hS hl hd
      rw [fd_X4_commonDivisor_L9] at hd
      cases hd
    | succ fu ih =>
      intro H locs z4 z6 z8 ls hP hD hS hl hd
      rw [fd_X4_commonDivisor_L9] at hd
      refine lv_iload hx hb dX4_commonDivisor_9 (lv_at hl 2 rfl) ?_
      refine lv_bipush (v := 100) hx hb dX4_commonDivisor_11 (by decide) ?_
      refine lv_icmp_ge (tgt := 44) hx hb dX4_commonDivisor_13 (by decide) (fun c_13 => ?_) (fun c_13 => ?_)
      · replace hd := ob_t c_13 hd
        refine lv_lload hx hb dX4_commonDivisor_44 (lv_at hl 0 rfl) ?_
        have e1 := Option.some.inj hd
        subst e1
        exact ob_lret hx hb hr hlocks hP hD hS dX4_commonDivisor_46
      · replace hd := ob_f c_13 hd
        refine lv_lload hx hb dX4_commonDivisor_16 (lv_at hl 1 rfl) ?_
        refine lv_lconst (v := 0) hx hb dX4_commonDivisor_18 (by decide) ?_
        refine W.lcmp hx hb dX4_commonDivisor_19 ?_
        refine lv_if_eq (tgt := 44) hx hb dX4_commonDivisor_20 (by decide) (fun c_20 => ?_) (fun c_20 => ?_)
        · replace hd := ob_t c_20 hd
          refine lv_lload hx hb dX4_commonDivisor_44 (lv_at hl 0 rfl) ?_
          have e1 := Option.some.inj hd
          subst e1
          exact ob_lret hx hb hr hlocks hP hD hS dX4_commonDivisor_46
        · replace hd := ob_f c_20 hd
          refine lv_lload hx hb dX4_commonDivisor_23 (lv_at hl 0 rfl) ?_
          refine lv_lload hx hb dX4_commonDivisor_25 (lv_at hl 1 rfl) ?_
          obtain ⟨h0_27, hd⟩ := ob_nn hd
          refine lv_lrem hx hb dX4_commonDivisor_27 h0_27 ?_
          refine lv_topl (fun x_1 ex_1 => ?_)
          replace hd := ob_lx ex_1 hd
          clear ex_1
          refine lv_lstore (lv' := [(9, .long x_1), (4, .long z4), (6, .long z6), (8, .int z8)]) hx hb dX4_commonDivisor_28 hl (by decide) rfl (fun ls hl => ?_)
          refine lv_lload hx hb dX4_commonDivisor_30 (lv_at hl 2 rfl) ?_
          refine lv_lstore (lv' := [(4, .long z6), (9, .long x_1), (6, .long z6), (8, .int z8)]) hx hb dX4_commonDivisor_32 hl (by decide) rfl (fun ls hl => ?_)
          refine lv_lload hx hb dX4_commonDivisor_34 (lv_at hl 1 rfl) ?_
          refine lv_lstore (lv' := [(6, .long x_1), (4, .long z6), (9, .long x_1), (8, .int z8)]) hx hb dX4_commonDivisor_36 hl (by decide) rfl (fun ls hl => ?_)
          obtain ⟨x_2, ex_2⟩ : ∃ z : Int32, z = z8 + 1 := ⟨_, rfl⟩
          replace hd := ob_lx ex_2 hd
          refine lv_iinc (v := x_2) (lv' := [(8, .int x_2), (6, .long x_1), (4, .long z6), (9, .long x_1)]) hx hb dX4_commonDivisor_38 hl (k := 3) rfl (by rw [ex_2]; rfl) (by decide) rfl (fun ls hl => ?_)
          clear ex_2
          refine lv_goto (tgt := 9) hx hb dX4_commonDivisor_41 (by decide) ?_
          exact ih _ _ z6 x_1 x_2 _ hP hD hS (lv_sub hl [2, 1, 0] rfl) hd
  refine lv_lload_n hx hb dX4_commonDivisor_0 rfl (lv_at hl 0 rfl) ?_
  refine lv_lstore (lv' := [(4, .long x0), (0, .long x0), (2, .long x2)]) hx hb dX4_commonDivisor_1 hl (by decide) rfl (fun ls hl => ?_)
  refine lv_lload_n hx hb dX4_commonDivisor_3 rfl (lv_at hl 2 rfl) ?_
  refine lv_lstore (lv' := [(6, .long x2), (4, .long x0), (0, .long x0), (2, .long x2)]) hx hb dX4_commonDivisor_4 hl (by decide) rfl (fun ls hl => ?_)
  refine lv_iconst (v := 0) hx hb dX4_commonDivisor_6 (by decide) ?_
  refine lv_istore (lv' := [(8, .int 0), (6, .long x2), (4, .long x0), (0, .long x0), (2, .long x2)]) hx hb dX4_commonDivisor_7 hl (by decide) rfl (fun ls hl => ?_)
  exact L9  2000 _ _ x0 x2 0 _ hP hD hS (lv_sub hl [2, 1, 0] rfl) hd

def fd_X4_found  (b : ob_B) (x1 : Int32) : Option (Int32 × ob_B) := ob_lt (ob_I b 9 x1 : ob_B) (fun b_1 => some ((-1000010) - x1, b_1))
set_option maxHeartbeats 4000000 in
set_option maxRecDepth 100000 in
theorem mt_X4_found (l : Launch) (dC : Nat → ClassId) (dI : Nat → Nat → Nat) (cI cZ cR cW : ClassId) (xs : Nat → Nat) (sz : Nat) (o_b : Nat) (a_b : Nat → Nat) (b : ob_B) (x1 : Int32)  (rr : Int32) (b' : ob_B) (hd : fd_X4_found b x1 = some (rr, b')) : ob_M l yX4_found wsX4_found ({ frames := 0, cells := 0, slots := 0, locals := 0 } : Room) (dC, dI) (ob_ty cI cZ cR cW) xs [.ref o_b, .int x1] (ob_w4 o_b a_b cI b) sz (ob_Qi (dC, dI) rr (ob_w4 o_b a_b cI b')) := by
  rw [fd_X4_found] at hd
  refine ob_in (cc := cX4_found) (maxL := 2) (ret := (some .int)) (own := RX4) (by decide) rfl rfl [(0, .ref o_b), (1, .int x1)] rfl (Nat.le_of_ble_eq_true rfl) ?_
  intro p e s m below meth c hx hb hr hml hown hts hlocks hnm hK A hA hE hP hD hS ls hl
  have kw0 := hts (.fieldLink RX4 54 "OathCoach" "latestFinding" "I") (by decide +kernel)
  have kw1 := hts (.constant RX4 260 (-1000010)) (by decide +kernel)
  have hi_X4 : ∀ w ∈ u_ws RX4 TX4 10, w ∈ wsX4_found := by decide +kernel
  refine lv_aload_n hx hb dX4_found_0 rfl (lv_at hl 0 rfl) ?_
  refine lv_iload_n hx hb dX4_found_1 rfl (lv_at hl 1 rfl) ?_
  refine va_put (D := (dC, dI)) (ci := 4) (v := .int x1) (ty := .int) (C := RX4) (T := TX4) (N := 10) hx hb hts hi_X4 tyX4 tyX4_ok nmX4 hown hK hP hD hS 0 rfl rfl 9 (by decide) kw0 (fun _ h9 => h9) rfl (by decide +kernel) rfl rfl (Nat.le_of_ble_eq_true rfl) dX4_found_2 (fun H locs hP hD hS => ?_)
  obtain ⟨b_1, eb_1⟩ : ∃ z : ob_B, z = ob_I b 9 x1 := ⟨_, rfl⟩
  replace hd := ob_lx eb_1 hd
  replace hP : va_P (dC, dI) vwCl (ob_w4 o_b a_b cI b_1) H := by rw [eb_1]; exact hP
  replace hD : va_D A (ob_w4 o_b a_b cI b_1) := by rw [eb_1]; exact hD
  clear eb_1
  refine lv_ldcw hx hb hown kw1 dX4_found_5 ?_
  refine lv_iload_n hx hb dX4_found_8 rfl (lv_at hl 1 rfl) ?_
  refine lv_isub hx hb dX4_found_9 ?_
  obtain ⟨e1, e2⟩ := ob_pp hd
  subst e1
  subst e2
  exact ob_iret hx hb hr hlocks hP hD hS dX4_found_10

def fd_X4_unfound  (b : ob_B) (x1 : Int32) : Option (Int32 × ob_B) := ob_lt (ob_I b 9 0 : ob_B) (fun b_1 => some (x1, b_1))
set_option maxHeartbeats 4000000 in
set_option maxRecDepth 100000 in
theorem mt_X4_unfound (l : Launch) (dC : Nat → ClassId) (dI : Nat → Nat → Nat) (cI cZ cR cW : ClassId) (xs : Nat → Nat) (sz : Nat) (o_b : Nat) (a_b : Nat → Nat) (b : ob_B) (x1 : Int32)  (rr : Int32) (b' : ob_B) (hd : fd_X4_unfound b x1 = some (rr, b')) : ob_M l yX4_unfound wsX4_unfound ({ frames := 0, cells := 0, slots := 0, locals := 0 } : Room) (dC, dI) (ob_ty cI cZ cR cW) xs [.ref o_b, .int x1] (ob_w4 o_b a_b cI b) sz (ob_Qi (dC, dI) rr (ob_w4 o_b a_b cI b')) := by
  rw [fd_X4_unfound] at hd
  refine ob_in (cc := cX4_unfound) (maxL := 2) (ret := (some .int)) (own := RX4) (by decide) rfl rfl [(0, .ref o_b), (1, .int x1)] rfl (Nat.le_of_ble_eq_true rfl) ?_
  intro p e s m below meth c hx hb hr hml hown hts hlocks hnm hK A hA hE hP hD hS ls hl
  have kw0 := hts (.fieldLink RX4 54 "OathCoach" "latestFinding" "I") (by decide +kernel)
  have hi_X4 : ∀ w ∈ u_ws RX4 TX4 10, w ∈ wsX4_unfound := by decide +kernel
  refine lv_aload_n hx hb dX4_unfound_0 rfl (lv_at hl 0 rfl) ?_
  refine lv_iconst (v := 0) hx hb dX4_unfound_1 (by decide) ?_
  refine va_put (D := (dC, dI)) (ci := 4) (v := .int 0) (ty := .int) (C := RX4) (T := TX4) (N := 10) hx hb hts hi_X4 tyX4 tyX4_ok nmX4 hown hK hP hD hS 0 rfl rfl 9 (by decide) kw0 (fun _ h9 => h9) rfl (by decide +kernel) rfl rfl (Nat.le_of_ble_eq_true rfl) dX4_unfound_2 (fun H locs hP hD hS => ?_)
  obtain ⟨b_1, eb_1⟩ : ∃ z : ob_B, z = ob_I b 9 0 := ⟨_, rfl⟩
  replace hd := ob_lx eb_1 hd
  replace hP : va_P (dC, dI) vwCl (ob_w4 o_b a_b cI b_1) H := by rw [eb_1]; exact hP
  replace hD : va_D A (ob_w4 o_b a_b cI b_1) := by rw [eb_1]; exact hD
  clear eb_1
  refine lv_iload_n hx hb dX4_unfound_5 rfl (lv_at hl 1 rfl) ?_
  obtain ⟨e1, e2⟩ := ob_pp hd
  subst e1
  subst e2
  exact ob_iret hx hb hr hlocks hP hD hS dX4_unfound_6

def fd_X4_fault  (b : ob_B)  : Option (Int32) := some (b.1 8)
set_option maxHeartbeats 4000000 in
set_option maxRecDepth 100000 in
theorem mt_X4_fault (l : Launch) (dC : Nat → ClassId) (dI : Nat → Nat → Nat) (cI cZ cR cW : ClassId) (xs : Nat → Nat) (sz : Nat) (o_b : Nat) (a_b : Nat → Nat) (b : ob_B)   (rr : Int32) (hd : fd_X4_fault b = some (rr)) : ob_M l yX4_fault wsX4_fault ({ frames := 0, cells := 0, slots := 0, locals := 0 } : Room) (dC, dI) (ob_ty cI cZ cR cW) xs [.ref o_b] (ob_w4 o_b a_b cI b) sz (ob_Qi (dC, dI) rr (ob_w4 o_b a_b cI b)) := by
  rw [fd_X4_fault] at hd
  refine ob_in (cc := cX4_fault) (maxL := 1) (ret := (some .int)) (own := RX4) (by decide) rfl rfl [(0, .ref o_b)] rfl (Nat.le_of_ble_eq_true rfl) ?_
  intro p e s m below meth c hx hb hr hml hown hts hlocks hnm hK A hA hE hP hD hS ls hl
  have kw0 := hts (.fieldLink RX4 51 "OathCoach" "latestFault" "I") (by decide +kernel)
  have hi_X4 : ∀ w ∈ u_ws RX4 TX4 10, w ∈ wsX4_fault := by decide +kernel
  refine lv_aload_n hx hb dX4_fault_0 rfl (lv_at hl 0 rfl) ?_
  refine va_get (D := (dC, dI)) (ci := 4) (v := .int (b.1 8)) (C := RX4) (T := TX4) (N := 10) hx hb hts hi_X4 hown hK hP 0 rfl rfl 8 (by decide) kw0 (fun _ h9 => h9) rfl dX4_fault_1 ?_
  have e1 := Option.some.inj hd
  subst e1
  exact ob_iret hx hb hr hlocks hP hD hS dX4_fault_4

def fd_X4_status  (b : ob_B)  : Option (Int32) := some (b.1 9)
set_option maxHeartbeats 4000000 in
set_option maxRecDepth 100000 in
theorem mt_X4_status (l : Launch) (dC : Nat → ClassId) (dI : Nat → Nat → Nat) (cI cZ cR cW : ClassId) (xs : Nat → Nat) (sz : Nat) (o_b : Nat) (a_b : Nat → Nat) (b : ob_B)   (rr : Int32) (hd : fd_X4_status b = some (rr)) : ob_M l yX4_status wsX4_status ({ frames := 0, cells := 0, slots := 0, locals := 0 } : Room) (dC, dI) (ob_ty cI cZ cR cW) xs [.ref o_b] (ob_w4 o_b a_b cI b) sz (ob_Qi (dC, dI) rr (ob_w4 o_b a_b cI b)) := by
  rw [fd_X4_status] at hd
  refine ob_in (cc := cX4_status) (maxL := 1) (ret := (some .int)) (own := RX4) (by decide) rfl rfl [(0, .ref o_b)] rfl (Nat.le_of_ble_eq_true rfl) ?_
  intro p e s m below meth c hx hb hr hml hown hts hlocks hnm hK A hA hE hP hD hS ls hl
  have kw0 := hts (.fieldLink RX4 54 "OathCoach" "latestFinding" "I") (by decide +kernel)
  have hi_X4 : ∀ w ∈ u_ws RX4 TX4 10, w ∈ wsX4_status := by decide +kernel
  refine lv_aload_n hx hb dX4_status_0 rfl (lv_at hl 0 rfl) ?_
  refine va_get (D := (dC, dI)) (ci := 4) (v := .int (b.1 9)) (C := RX4) (T := TX4) (N := 10) hx hb hts hi_X4 hown hK hP 0 rfl rfl 9 (by decide) kw0 (fun _ h9 => h9) rfl dX4_status_1 ?_
  have e1 := Option.some.inj hd
  subst e1
  exact ob_iret hx hb hr hlocks hP hD hS dX4_status_4

def fd_X4_trace  (b : ob_B) (x1 : Int32) : Option (Int32) := if x1 < 0 then (some ((-1000000))) else (if (b.1 7) ≤ x1 then (some ((-1000000))) else (if 16 ≤ x1 then (some ((-1000000))) else (if x1 < 0 ∨ 16 ≤ Int32.toNatClampNeg x1 then none else (some ((b.2 6) (Int32.toNatClampNeg x1))))))
set_option maxHeartbeats 4000000 in
set_option maxRecDepth 100000 in
theorem mt_X4_trace (l : Launch) (dC : Nat → ClassId) (dI : Nat → Nat → Nat) (cI cZ cR cW : ClassId) (xs : Nat → Nat) (sz : Nat) (o_b : Nat) (a_b : Nat → Nat) (b : ob_B) (x1 : Int32)  (rr : Int32) (hd : fd_X4_trace b x1 = some (rr)) : ob_M l yX4_trace wsX4_trace ({ frames := 0, cells := 0, slots := 0, locals := 0 } : Room) (dC, dI) (ob_ty cI cZ cR cW) xs [.ref o_b, .int x1] (ob_w4 o_b a_b cI b) sz (ob_Qi (dC, dI) rr (ob_w4 o_b a_b cI b)) := by
  rw [fd_X4_trace] at hd
  refine ob_in (cc := cX4_trace) (maxL := 2) (ret := (some .int)) (own := RX4) (by decide) rfl rfl [(0, .ref o_b), (1, .int x1)] rfl (Nat.le_of_ble_eq_true rfl) ?_
  intro p e s m below meth c hx hb hr hml hown hts hlocks hnm hK A hA hE hP hD hS ls hl
  have kw0 := hts (.constant RX4 205 (-1000000)) (by decide +kernel)
  have kw1 := hts (.fieldLink RX4 47 "OathCoach" "tracedCount" "I") (by decide +kernel)
  have kw2 := hts (.fieldLink RX4 43 "OathCoach" "traced" "[I") (by decide +kernel)
  have hi_X4 : ∀ w ∈ u_ws RX4 TX4 10, w ∈ wsX4_trace := by decide +kernel
  refine lv_iload_n hx hb dX4_trace_0 rfl (lv_at hl 1 rfl) ?_
  refine lv_if_lt (tgt := 27) hx hb dX4_trace_1 (by decide) (fun c_1 => ?_) (fun c_1 => ?_)
  · replace hd := ob_t c_1 hd
    refine lv_ldc hx hb hown kw0 dX4_trace_27 ?_
    have e1 := Option.some.inj hd
    subst e1
    exact ob_iret hx hb hr hlocks hP hD hS dX4_trace_29
  · replace hd := ob_f c_1 hd
    refine lv_iload_n hx hb dX4_trace_4 rfl (lv_at hl 1 rfl) ?_
    refine lv_aload_n hx hb dX4_trace_5 rfl (lv_at hl 0 rfl) ?_
    refine va_get (D := (dC, dI)) (ci := 4) (v := .int (b.1 7)) (C := RX4) (T := TX4) (N := 10) hx hb hts hi_X4 hown hK hP 0 rfl rfl 7 (by decide) kw1 (fun _ h9 => h9) rfl dX4_trace_6 ?_
    refine lv_icmp_ge (tgt := 27) hx hb dX4_trace_9 (by decide) (fun c_9 => ?_) (fun c_9 => ?_)
    · replace hd := ob_t c_9 hd
      refine lv_ldc hx hb hown kw0 dX4_trace_27 ?_
      have e1 := Option.some.inj hd
      subst e1
      exact ob_iret hx hb hr hlocks hP hD hS dX4_trace_29
    · replace hd := ob_f c_9 hd
      refine lv_iload_n hx hb dX4_trace_12 rfl (lv_at hl 1 rfl) ?_
      refine lv_bipush (v := 16) hx hb dX4_trace_13 (by decide) ?_
      refine lv_icmp_ge (tgt := 27) hx hb dX4_trace_15 (by decide) (fun c_15 => ?_) (fun c_15 => ?_)
      · replace hd := ob_t c_15 hd
        refine lv_ldc hx hb hown kw0 dX4_trace_27 ?_
        have e1 := Option.some.inj hd
        subst e1
        exact ob_iret hx hb hr hlocks hP hD hS dX4_trace_29
      · replace hd := ob_f c_15 hd
        refine lv_aload_n hx hb dX4_trace_18 rfl (lv_at hl 0 rfl) ?_
        refine va_get (D := (dC, dI)) (ci := 4) (v := .ref (a_b 6)) (C := RX4) (T := TX4) (N := 10) hx hb hts hi_X4 hown hK hP 0 rfl rfl 6 (by decide) kw2 (fun _ h9 => h9) rfl dX4_trace_19 ?_
        refine lv_iload_n hx hb dX4_trace_22 rfl (lv_at hl 1 rfl) ?_
        obtain ⟨h1_23, hd⟩ := ob_nn hd
        refine va_iald hx hb hK hP 1 0 rfl rfl h1_23 dX4_trace_23 ?_
        refine lv_goto (tgt := 29) hx hb dX4_trace_24 (by decide) ?_
        have e1 := Option.some.inj hd
        subst e1
        exact ob_iret hx hb hr hlocks hP hD hS dX4_trace_29

def fd_X4_noRoute  (b : ob_B) (y : ob_B)  : Option (Int32) := if (y.1 4) = 0 then (some (1)) else (some (0))
set_option maxHeartbeats 4000000 in
set_option maxRecDepth 100000 in
theorem mt_X4_noRoute (l : Launch) (dC : Nat → ClassId) (dI : Nat → Nat → Nat) (cI cZ cR cW : ClassId) (xs : Nat → Nat) (sz : Nat) (o_b : Nat) (a_b : Nat → Nat) (a_y : Nat → Nat) (b : ob_B) (y : ob_B)   (rr : Int32) (hd : fd_X4_noRoute b y = some (rr)) : ob_M l yX4_noRoute wsX4_noRoute ({ frames := 0, cells := 0, slots := 0, locals := 0 } : Room) (dC, dI) (ob_ty cI cZ cR cW) xs [.ref o_b] (ob_w4 o_b a_b cI b ++ ob_w1 (a_b 2) a_y cI y) sz (ob_Qi (dC, dI) rr (ob_w4 o_b a_b cI b ++ ob_w1 (a_b 2) a_y cI y)) := by
  rw [fd_X4_noRoute] at hd
  refine ob_in (cc := cX4_noRoute) (maxL := 1) (ret := (some .boolean)) (own := RX4) (by decide) rfl rfl [(0, .ref o_b)] rfl (Nat.le_of_ble_eq_true rfl) ?_
  intro p e s m below meth c hx hb hr hml hown hts hlocks hnm hK A hA hE hP hD hS ls hl
  have kw0 := hts (.fieldLink RX4 25 "OathCoach" "route" "LOathCoach$Route;") (by decide +kernel)
  have kw1 := hts (.fieldLink RX4 130 "OathCoach$Route" "oaths" "I") (by decide +kernel)
  have hi_X1 : ∀ w ∈ u_ws RX1 TX1 12, w ∈ wsX4_noRoute := by decide +kernel
  have hi_X4 : ∀ w ∈ u_ws RX4 TX4 10, w ∈ wsX4_noRoute := by decide +kernel
  refine lv_aload_n hx hb dX4_noRoute_0 rfl (lv_at hl 0 rfl) ?_
  refine va_get (D := (dC, dI)) (ci := 4) (v := .ref (a_b 2)) (C := RX4) (T := TX4) (N := 10) hx hb hts hi_X4 hown hK hP 0 rfl rfl 2 (by decide) kw0 (fun _ h9 => h9) rfl dX4_noRoute_1 ?_
  refine va_get (D := (dC, dI)) (ci := 1) (v := .int (y.1 4)) (C := RX1) (T := TX1) (N := 12) hx hb hts hi_X1 hown hK hP 2 rfl rfl 4 (by decide) kw1 (fun _ h9 => h9) rfl dX4_noRoute_4 ?_
  refine lv_if_ne (tgt := 14) hx hb dX4_noRoute_7 (by decide) (fun c_7 => ?_) (fun c_7 => ?_)
  · replace hd := ob_f c_7 hd
    refine lv_iconst (v := 0) hx hb dX4_noRoute_14 (by decide) ?_
    have e1 := Option.some.inj hd
    subst e1
    exact ob_zret hx hb hr hlocks (by decide) hP hD hS dX4_noRoute_15
  · replace hd := ob_t c_7 hd
    refine lv_iconst (v := 1) hx hb dX4_noRoute_10 (by decide) ?_
    refine lv_goto (tgt := 15) hx hb dX4_noRoute_11 (by decide) ?_
    have e1 := Option.some.inj hd
    subst e1
    exact ob_zret hx hb hr hlocks (by decide) hP hD hS dX4_noRoute_15

def fd_X4_isOath  (b : ob_B) (y : ob_B) (x1 : Int32) : Option (Int32) := if x1 < 0 then (some (0)) else (if (y.1 4) ≤ x1 then (some (0)) else (some (1)))
set_option maxHeartbeats 4000000 in
set_option maxRecDepth 100000 in
theorem mt_X4_isOath (l : Launch) (dC : Nat → ClassId) (dI : Nat → Nat → Nat) (cI cZ cR cW : ClassId) (xs : Nat → Nat) (sz : Nat) (o_b : Nat) (a_b : Nat → Nat) (a_y : Nat → Nat) (b : ob_B) (y : ob_B) (x1 : Int32)  (rr : Int32) (hd : fd_X4_isOath b y x1 = some (rr)) : ob_M l yX4_isOath wsX4_isOath ({ frames := 0, cells := 0, slots := 0, locals := 0 } : Room) (dC, dI) (ob_ty cI cZ cR cW) xs [.ref o_b, .int x1] (ob_w4 o_b a_b cI b ++ ob_w1 (a_b 2) a_y cI y) sz (ob_Qi (dC, dI) rr (ob_w4 o_b a_b cI b ++ ob_w1 (a_b 2) a_y cI y)) := by
  rw [fd_X4_isOath] at hd
  refine ob_in (cc := cX4_isOath) (maxL := 2) (ret := (some .boolean)) (own := RX4) (by decide) rfl rfl [(0, .ref o_b), (1, .int x1)] rfl (Nat.le_of_ble_eq_true rfl) ?_
  intro p e s m below meth c hx hb hr hml hown hts hlocks hnm hK A hA hE hP hD hS ls hl
  have kw0 := hts (.fieldLink RX4 25 "OathCoach" "route" "LOathCoach$Route;") (by decide +kernel)
  have kw1 := hts (.fieldLink RX4 130 "OathCoach$Route" "oaths" "I") (by decide +kernel)
  have hi_X1 : ∀ w ∈ u_ws RX1 TX1 12, w ∈ wsX4_isOath := by decide +kernel
  have hi_X4 : ∀ w ∈ u_ws RX4 TX4 10, w ∈ wsX4_isOath := by decide +kernel
  refine lv_iload_n hx hb dX4_isOath_0 rfl (lv_at hl 1 rfl) ?_
  refine lv_if_lt (tgt := 19) hx hb dX4_isOath_1 (by decide) (fun c_1 => ?_) (fun c_1 => ?_)
  · replace hd := ob_t c_1 hd
    refine lv_iconst (v := 0) hx hb dX4_isOath_19 (by decide) ?_
    have e1 := Option.some.inj hd
    subst e1
    exact ob_zret hx hb hr hlocks (by decide) hP hD hS dX4_isOath_20
  · replace hd := ob_f c_1 hd
    refine lv_iload_n hx hb dX4_isOath_4 rfl (lv_at hl 1 rfl) ?_
    refine lv_aload_n hx hb dX4_isOath_5 rfl (lv_at hl 0 rfl) ?_
    refine va_get (D := (dC, dI)) (ci := 4) (v := .ref (a_b 2)) (C := RX4) (T := TX4) (N := 10) hx hb hts hi_X4 hown hK hP 0 rfl rfl 2 (by decide) kw0 (fun _ h9 => h9) rfl dX4_isOath_6 ?_
    refine va_get (D := (dC, dI)) (ci := 1) (v := .int (y.1 4)) (C := RX1) (T := TX1) (N := 12) hx hb hts hi_X1 hown hK hP 2 rfl rfl 4 (by decide) kw1 (fun _ h9 => h9) rfl dX4_isOath_9 ?_
    refine lv_icmp_ge (tgt := 19) hx hb dX4_isOath_12 (by decide) (fun c_12 => ?_) (fun c_12 => ?_)
    · replace hd := ob_t c_12 hd
      refine lv_iconst (v := 0) hx hb dX4_isOath_19 (by decide) ?_
      have e1 := Option.some.inj hd
      subst e1
      exact ob_zret hx hb hr hlocks (by decide) hP hD hS dX4_isOath_20
    · replace hd := ob_f c_12 hd
      refine lv_iconst (v := 1) hx hb dX4_isOath_15 (by decide) ?_
      refine lv_goto (tgt := 20) hx hb dX4_isOath_16 (by decide) ?_
      have e1 := Option.some.inj hd
      subst e1
      exact ob_zret hx hb hr hlocks (by decide) hP hD hS dX4_isOath_20

def fd_X4_feed  (b : ob_B) (q : ob_B) (x1 : Int32) : Option (Int32 × ob_B) := if x1 < 0 then (some ((-1000001), q)) else (if x1 ≤ 255 then (ob_b1 (fd_X3_isFull q) (fun r_1 => if r_1 = 0 then (ob_b1 (fd_X3_add q x1) (fun q_2 => some (q_2.1 1, q_2))) else (some ((-1000003), q)))) else (some ((-1000001), q)))
set_option maxHeartbeats 4000000 in
set_option maxRecDepth 100000 in
theorem mt_X4_feed (l : Launch) (dC : Nat → ClassId) (dI : Nat → Nat → Nat) (cI cZ cR cW : ClassId) (xs : Nat → Nat) (sz : Nat) (o_b : Nat) (a_b : Nat → Nat) (a_q : Nat → Nat) (b : ob_B) (q : ob_B) (x1 : Int32)  (rr : Int32) (q' : ob_B) (hd : fd_X4_feed b q x1 = some (rr, q')) : ob_M l yX4_feed wsX4_feed ({ frames := 1, cells := 0, slots := 0, locals := 21 } : Room) (dC, dI) (ob_ty cI cZ cR cW) xs [.ref o_b, .int x1] (ob_w4 o_b a_b cI b ++ ob_w3 (a_b 1) a_q cI q) sz (ob_Qi (dC, dI) rr (ob_w4 o_b a_b cI b ++ ob_w3 (a_b 1) a_q cI q')) := by
  rw [fd_X4_feed] at hd
  refine ob_in (cc := cX4_feed) (maxL := 2) (ret := (some .int)) (own := RX4) (by decide) rfl rfl [(0, .ref o_b), (1, .int x1)] rfl (Nat.le_of_ble_eq_true rfl) ?_
  intro p e s m below meth c hx hb hr hml hown hts hlocks hnm hK A hA hE hP hD hS ls hl
  have kw0 := hts (.constant RX4 62 (-1000001)) (by decide +kernel)
  have kw1 := hts (.fieldLink RX4 18 "OathCoach" "tape" "LOathCoach$Tape;") (by decide +kernel)
  have kw2 := hts (.fieldLink RX4 114 "OathCoach$Tape" "size" "I") (by decide +kernel)
  have kw3 := hts (.constant RX4 109 (-1000003)) (by decide +kernel)
  have hi_X3 : ∀ w ∈ u_ws RX3 TX3 4, w ∈ wsX4_feed := by decide +kernel
  have hi_X4 : ∀ w ∈ u_ws RX4 TX4 10, w ∈ wsX4_feed := by decide +kernel
  refine lv_iload_n hx hb dX4_feed_0 rfl (lv_at hl 1 rfl) ?_
  refine lv_if_lt (tgt := 11) hx hb dX4_feed_1 (by decide) (fun c_1 => ?_) (fun c_1 => ?_)
  · replace hd := ob_t c_1 hd
    refine lv_ldc hx hb hown kw0 dX4_feed_11 ?_
    obtain ⟨e1, e2⟩ := ob_pp hd
    subst e1
    subst e2
    exact ob_iret hx hb hr hlocks hP hD hS dX4_feed_13
  · replace hd := ob_f c_1 hd
    refine lv_iload_n hx hb dX4_feed_4 rfl (lv_at hl 1 rfl) ?_
    refine lv_sipush (v := 255) hx hb dX4_feed_5 (by decide) ?_
    refine lv_icmp_le (tgt := 14) hx hb dX4_feed_8 (by decide) (fun c_8 => ?_) (fun c_8 => ?_)
    · replace hd := ob_t c_8 hd
      refine lv_aload_n hx hb dX4_feed_14 rfl (lv_at hl 0 rfl) ?_
      refine va_get (D := (dC, dI)) (ci := 4) (v := .ref (a_b 1)) (C := RX4) (T := TX4) (N := 10) hx hb hts hi_X4 hown hK hP 0 rfl rfl 1 (by decide) kw1 (fun _ h9 => h9) rfl dX4_feed_15 ?_
      obtain ⟨r_1, hc_18, hd⟩ := ob_s1 hd
      refine ob_Vi (isC := [2, 3]) (isR := [0, 1]) (is2 := [0, 1, 2, 3]) (wc := (ob_w3 (a_b 1) a_q cI q)) (wr := (List.filterMap (fun i => (ob_w4 o_b a_b cI b ++ ob_w3 (a_b 1) a_q cI q)[i]?) [0, 1])) (w1 := (ob_w3 (a_b 1) a_q cI q)) (w2 := (ob_w4 o_b a_b cI b ++ ob_w3 (a_b 1) a_q cI q)) (b := (a_b 1)) (As := []) (rest := []) ⟨hx, hb, hml, hown, hts⟩ (mt_X3_isFull l dC dI cI cZ cR cW xs _ ((a_b 1)) a_q q r_1 hc_18) (cwV 0 hts gX4_feed_X3_isFull rfl rfl rfl (by decide +kernel) ⟨Nat.le_of_ble_eq_true rfl, Nat.le_of_ble_eq_true rfl⟩) hK hE hP hD hS hA ⟨rfl, rfl, rfl, rfl, rfl, rfl, rfl⟩ 3 0 rfl rfl rfl hl rfl rfl (Nat.le_of_ble_eq_true rfl) ⟨Nat.le_of_ble_eq_true rfl, Nat.le_of_ble_eq_true rfl⟩ dX4_feed_18 (fun H locs hP hD hS => ?_)
      refine W.widen (k := 0) (n := 0) (Nat.le_refl _) (Nat.le_refl _) ?_
      refine lv_if_eq (tgt := 27) hx hb dX4_feed_21 (by decide) (fun c_21 => ?_) (fun c_21 => ?_)
      · replace hd := ob_t c_21 hd
        refine lv_aload_n hx hb dX4_feed_27 rfl (lv_at hl 0 rfl) ?_
        refine va_get (D := (dC, dI)) (ci := 4) (v := .ref (a_b 1)) (C := RX4) (T := TX4) (N := 10) hx hb hts hi_X4 hown hK hP 0 rfl rfl 1 (by decide) kw1 (fun _ h9 => h9) rfl dX4_feed_28 ?_
        refine lv_iload_n hx hb dX4_feed_31 rfl (lv_at hl 1 rfl) ?_
        obtain ⟨q_2, hc_32, hd⟩ := ob_s1 hd
        refine ob_Vv (isC := [2, 3]) (isR := [0, 1]) (is2 := [0, 1, 2, 3]) (wc := (ob_w3 (a_b 1) a_q cI q)) (wr := (List.filterMap (fun i => (ob_w4 o_b a_b cI b ++ ob_w3 (a_b 1) a_q cI q)[i]?) [0, 1])) (w1 := (ob_w3 (a_b 1) a_q cI q_2)) (w2 := (ob_w4 o_b a_b cI b ++ ob_w3 (a_b 1) a_q cI q_2)) (b := (a_b 1)) (As := [.int x1]) (rest := []) ⟨hx, hb, hml, hown, hts⟩ (mt_X3_add l dC dI cI cZ cR cW xs _ ((a_b 1)) a_q q x1 q_2 hc_32) (cwV 1 hts gX4_feed_X3_add rfl rfl rfl (by decide +kernel) ⟨Nat.le_of_ble_eq_true rfl, Nat.le_of_ble_eq_true rfl⟩) hK hE hP hD hS hA ⟨rfl, rfl, rfl, rfl, rfl, rfl, rfl⟩ 3 0 rfl rfl rfl hl rfl rfl (Nat.le_of_ble_eq_true rfl) ⟨Nat.le_of_ble_eq_true rfl, Nat.le_of_ble_eq_true rfl⟩ dX4_feed_32 (fun H locs hP hD hS => ?_)
        refine W.widen (k := 0) (n := 0) (Nat.le_refl _) (Nat.le_refl _) ?_
        refine lv_aload_n hx hb dX4_feed_35 rfl (lv_at hl 0 rfl) ?_
        refine va_get (D := (dC, dI)) (ci := 4) (v := .ref (a_b 1)) (C := RX4) (T := TX4) (N := 10) hx hb hts hi_X4 hown hK hP 0 rfl rfl 1 (by decide) kw1 (fun _ h9 => h9) rfl dX4_feed_36 ?_
        refine va_get (D := (dC, dI)) (ci := 3) (v := .int (q_2.1 1)) (C := RX3) (T := TX3) (N := 4) hx hb hts hi_X3 hown hK hP 2 rfl rfl 1 (by decide) kw2 (fun _ h9 => h9) rfl dX4_feed_39 ?_
        obtain ⟨e1, e2⟩ := ob_pp hd
        subst e1
        subst e2
        exact ob_iret hx hb hr hlocks hP hD hS dX4_feed_42
      · replace hd := ob_f c_21 hd
        refine lv_ldc hx hb hown kw3 dX4_feed_24 ?_
        obtain ⟨e1, e2⟩ := ob_pp hd
        subst e1
        subst e2
        exact ob_iret hx hb hr hlocks hP hD hS dX4_feed_26
    · replace hd := ob_f c_8 hd
      refine lv_ldc hx hb hown kw0 dX4_feed_11 ?_
      obtain ⟨e1, e2⟩ := ob_pp hd
      subst e1
      subst e2
      exact ob_iret hx hb hr hlocks hP hD hS dX4_feed_13
