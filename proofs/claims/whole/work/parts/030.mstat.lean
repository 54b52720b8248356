def fd_X5_in   (x0 : Int32) (x1 : Int32) (x2 : Int32) : Option (Int32) := if x0 < x1 then (some (0)) else (if x2 < x0 then (some (0)) else (some (1)))
set_option maxHeartbeats 4000000 in
set_option maxRecDepth 100000 in
theorem mt_X5_in (l : Launch) (dC : Nat → ClassId) (dI : Nat → Nat → Nat) (cI cZ cR cW : ClassId) (xs : Nat → Nat) (sz : Nat)   (x0 : Int32) (x1 : Int32) (x2 : Int32)  (rr : Int32) (hd : fd_X5_in x0 x1 x2 = some (rr)) : ob_M l yX5_in wsX5_in ({ frames := 0, cells := 0, slots := 0, locals := 0 } : Room) (dC, dI) (ob_ty cI cZ cR cW) xs [.int x0, .int x1, .int x2] ([] : va_W) sz (ob_Qi (dC, dI) rr ([] : va_W)) := by
  rw [fd_X5_in] at hd
  refine ob_in (cc := cX5_in) (maxL := 3) (ret := (some .boolean)) (own := RX5) (by decide) rfl rfl [(0, .int x0), (1, .int x1), (2, .int x2)] rfl (Nat.le_of_ble_eq_true rfl) ?_
  intro p e s m below meth c hx hb hr hml hown hts hlocks hnm hK A hA hE hP hD hS ls hl
  refine lv_iload_n hx hb dX5_in_0 rfl (lv_at hl 0 rfl) ?_
  refine lv_iload_n hx hb dX5_in_1 rfl (lv_at hl 1 rfl) ?_
  refine lv_icmp_lt (tgt := 14) hx hb dX5_in_2 (by decide) (fun c_2 => ?_) (fun c_2 => ?_)
  · replace hd := ob_t c_2 hd
    refine lv_iconst (v := 0) hx hb dX5_in_14 (by decide) ?_
    have e1 := Option.some.inj hd
    subst e1
    exact ob_zret hx hb hr hlocks (by decide) hP hD hS dX5_in_15
  · replace hd := ob_f c_2 hd
    refine lv_iload_n hx hb dX5_in_5 rfl (lv_at hl 0 rfl) ?_
    refine lv_iload_n hx hb dX5_in_6 rfl (lv_at hl 2 rfl) ?_
    refine lv_icmp_gt (tgt := 14) hx hb dX5_in_7 (by decide) (fun c_7 => ?_) (fun c_7 => ?_)
    · replace hd := ob_t c_7 hd
      refine lv_iconst (v := 0) hx hb dX5_in_14 (by decide) ?_
      have e1 := Option.some.inj hd
      subst e1
      exact ob_zret hx hb hr hlocks (by decide) hP hD hS dX5_in_15
    · replace hd := ob_f c_7 hd
      refine lv_iconst (v := 1) hx hb dX5_in_10 (by decide) ?_
      refine lv_goto (tgt := 15) hx hb dX5_in_11 (by decide) ?_
      have e1 := Option.some.inj hd
      subst e1
      exact ob_zret hx hb hr hlocks (by decide) hP hD hS dX5_in_15

def fd_X5_has   (x0 : Int32) (x1 : Int32) : Option (Int32) := if ((x0 >>> (x1 &&& 31)) &&& 1) = 1 then (some (1)) else (some (0))
set_option maxHeartbeats 4000000 in
set_option maxRecDepth 100000 in
theorem mt_X5_has (l : Launch) (dC : Nat → ClassId) (dI : Nat → Nat → Nat) (cI cZ cR cW : ClassId) (xs : Nat → Nat) (sz : Nat)   (x0 : Int32) (x1 : Int32)  (rr : Int32) (hd : fd_X5_has x0 x1 = some (rr)) : ob_M l yX5_has wsX5_has ({ frames := 0, cells := 0, slots := 0, locals := 0 } : Room) (dC, dI) (ob_ty cI cZ cR cW) xs [.int x0, .int x1] ([] : va_W) sz (ob_Qi (dC, dI) rr ([] : va_W)) := by
  rw [fd_X5_has] at hd
  refine ob_in (cc := cX5_has) (maxL := 2) (ret := (some .boolean)) (own := RX5) (by decide) rfl rfl [(0, .int x0), (1, .int x1)] rfl (Nat.le_of_ble_eq_true rfl) ?_
  intro p e s m below meth c hx hb hr hml hown hts hlocks hnm hK A hA hE hP hD hS ls hl
  refine lv_iload_n hx hb dX5_has_0 rfl (lv_at hl 0 rfl) ?_
  refine lv_iload_n hx hb dX5_has_1 rfl (lv_at hl 1 rfl) ?_
  refine lv_ishr hx hb dX5_has_2 ?_
  refine lv_iconst (v := 1) hx hb dX5_has_3 (by decide) ?_
  refine lv_iand hx hb dX5_has_4 ?_
  refine lv_iconst (v := 1) hx hb dX5_has_5 (by decide) ?_
  refine lv_icmp_ne (tgt := 13) hx hb dX5_has_6 (by decide) (fun c_6 => ?_) (fun c_6 => ?_)
  · replace hd := ob_f c_6 hd
    refine lv_iconst (v := 0) hx hb dX5_has_13 (by decide) ?_
    have e1 := Option.some.inj hd
    subst e1
    exact ob_zret hx hb hr hlocks (by decide) hP hD hS dX5_has_14
  · replace hd := ob_t c_6 hd
    refine lv_iconst (v := 1) hx hb dX5_has_9 (by decide) ?_
    refine lv_goto (tgt := 14) hx hb dX5_has_10 (by decide) ?_
    have e1 := Option.some.inj hd
    subst e1
    exact ob_zret hx hb hr hlocks (by decide) hP hD hS dX5_has_14

def fd_X5_isRow   (x0 : Int32) : Option (Int32) := ob_b1 (fd_X5_in x0 0 7) (fun r_1 => if ¬ (r_1 &&& 1 = r_1) then none else (some (r_1)))
set_option maxHeartbeats 4000000 in
set_option maxRecDepth 100000 in
theorem mt_X5_isRow (l : Launch) (dC : Nat → ClassId) (dI : Nat → Nat → Nat) (cI cZ cR cW : ClassId) (xs : Nat → Nat) (sz : Nat)   (x0 : Int32)  (rr : Int32) (hd : fd_X5_isRow x0 = some (rr)) : ob_M l yX5_isRow wsX5_isRow ({ frames := 1, cells := 0, slots := 0, locals := 22 } : Room) (dC, dI) (ob_ty cI cZ cR cW) xs [.int x0] ([] : va_W) sz (ob_Qi (dC, dI) rr ([] : va_W)) := by
  rw [fd_X5_isRow] at hd
  refine ob_in (cc := cX5_isRow) (maxL := 1) (ret := (some .boolean)) (own := RX5) (by decide) rfl rfl [(0, .int x0)] rfl (Nat.le_of_ble_eq_true rfl) ?_
  intro p e s m below meth c hx hb hr hml hown hts hlocks hnm hK A hA hE hP hD hS ls hl
  refine lv_iload_n hx hb dX5_isRow_0 rfl (lv_at hl 0 rfl) ?_
  refine lv_iconst (v := 0) hx hb dX5_isRow_1 (by decide) ?_
  refine lv_bipush (v := 7) hx hb dX5_isRow_2 (by decide) ?_
  obtain ⟨r_1, hc_4, hd⟩ := ob_s1 hd
  refine ob_Si (isC := []) (isR := []) (is2 := []) (wc := ([] : va_W)) (wr := ([] : va_W)) (w1 := ([] : va_W)) (w2 := ([] : va_W)) (As := [.int x0, .int 0, .int 7]) (rest := []) ⟨hx, hb, hml, hown, hts⟩ (mt_X5_in l dC dI cI cZ cR cW xs _ x0 0 7 r_1 hc_4) (va_cwS 3 hts gX5_isRow_X5_in rfl rfl rfl (by decide +kernel) ⟨Nat.le_of_ble_eq_true rfl, Nat.le_of_ble_eq_true rfl⟩) hK hE hP hD hS hA ⟨rfl, rfl, rfl, rfl, rfl, rfl, rfl⟩ hl rfl rfl (Nat.le_of_ble_eq_true rfl) ⟨Nat.le_of_ble_eq_true rfl, Nat.le_of_ble_eq_true rfl⟩ dX5_isRow_4 (fun H locs hP hD hS => ?_)
  refine W.widen (k := 0) (n := 0) (Nat.le_refl _) (Nat.le_refl _) ?_
  obtain ⟨hn, hd⟩ := ob_nn hd
  have e1 := Option.some.inj hd
  subst e1
  exact ob_zret hx hb hr hlocks (ob_nb hn) hP hD hS dX5_isRow_7

def fd_X5_isPart   (x0 : Int32) (x1 : Int32) (x2 : Int32) : Option (Int32) := if x0 < 0 then (some (0)) else (if x1 < 0 then (some (0)) else (if x2 < x1 then (some (0)) else (if (x2 - x1) < x0 then (some (0)) else (some (1)))))
set_option maxHeartbeats 4000000 in
set_option maxRecDepth 100000 in
theorem mt_X5_isPart (l : Launch) (dC : Nat → ClassId) (dI : Nat → Nat → Nat) (cI cZ cR cW : ClassId) (xs : Nat → Nat) (sz : Nat)   (x0 : Int32) (x1 : Int32) (x2 : Int32)  (rr : Int32) (hd : fd_X5_isPart x0 x1 x2 = some (rr)) : ob_M l yX5_isPart wsX5_isPart ({ frames := 0, cells := 0, slots := 0, locals := 0 } : Room) (dC, dI) (ob_ty cI cZ cR cW) xs [.int x0, .int x1, .int x2] ([] : va_W) sz (ob_Qi (dC, dI) rr ([] : va_W)) := by
  rw [fd_X5_isPart] at hd
  refine ob_in (cc := cX5_isPart) (maxL := 3) (ret := (some .boolean)) (own := RX5) (by decide) rfl rfl [(0, .int x0), (1, .int x1), (2, .int x2)] rfl (Nat.le_of_ble_eq_true rfl) ?_
  intro p e s m below meth c hx hb hr hml hown hts hlocks hnm hK A hA hE hP hD hS ls hl
  refine lv_iload_n hx hb dX5_isPart_0 rfl (lv_at hl 0 rfl) ?_
  refine lv_if_lt (tgt := 24) hx hb dX5_isPart_1 (by decide) (fun c_1 => ?_) (fun c_1 => ?_)
  · replace hd := ob_t c_1 hd
    refine lv_iconst (v := 0) hx hb dX5_isPart_24 (by decide) ?_
    have e1 := Option.some.inj hd
    subst e1
    exact ob_zret hx hb hr hlocks (by decide) hP hD hS dX5_isPart_25
  · replace hd := ob_f c_1 hd
    refine lv_iload_n hx hb dX5_isPart_4 rfl (lv_at hl 1 rfl) ?_
    refine lv_if_lt (tgt := 24) hx hb dX5_isPart_5 (by decide) (fun c_5 => ?_) (fun c_5 => ?_)
    · replace hd := ob_t c_5 hd
      refine lv_iconst (v := 0) hx hb dX5_isPart_24 (by decide) ?_
      have e1 := Option.some.inj hd
      subst e1
      exact ob_zret hx hb hr hlocks (by decide) hP hD hS dX5_isPart_25
    · replace hd := ob_f c_5 hd
      refine lv_iload_n hx hb dX5_isPart_8 rfl (lv_at hl 1 rfl) ?_
      refine lv_iload_n hx hb dX5_isPart_9 rfl (lv_at hl 2 rfl) ?_
      refine lv_icmp_gt (tgt := 24) hx hb dX5_isPart_10 (by decide) (fun c_10 => ?_) (fun c_10 => ?_)
      · replace hd := ob_t c_10 hd
        refine lv_iconst (v := 0) hx hb dX5_isPart_24 (by decide) ?_
        have e1 := Option.some.inj hd
        subst e1
        exact ob_zret hx hb hr hlocks (by decide) hP hD hS dX5_isPart_25
      · replace hd := ob_f c_10 hd
        refine lv_iload_n hx hb dX5_isPart_13 rfl (lv_at hl 0 rfl) ?_
        refine lv_iload_n hx hb dX5_isPart_14 rfl (lv_at hl 2 rfl) ?_
        refine lv_iload_n hx hb dX5_isPart_15 rfl (lv_at hl 1 rfl) ?_
        refine lv_isub hx hb dX5_isPart_16 ?_
        refine lv_icmp_gt (tgt := 24) hx hb dX5_isPart_17 (by decide) (fun c_17 => ?_) (fun c_17 => ?_)
        · replace hd := ob_t c_17 hd
          refine lv_iconst (v := 0) hx hb dX5_isPart_24 (by decide) ?_
          have e1 := Option.some.inj hd
          subst e1
          exact ob_zret hx hb hr hlocks (by decide) hP hD hS dX5_isPart_25
        · replace hd := ob_f c_17 hd
          refine lv_iconst (v := 1) hx hb dX5_isPart_20 (by decide) ?_
          refine lv_goto (tgt := 25) hx hb dX5_isPart_21 (by decide) ?_
          have e1 := Option.some.inj hd
          subst e1
          exact ob_zret hx hb hr hlocks (by decide) hP hD hS dX5_isPart_25

def fd_X5_sortBy   (x0 : Int32) : Option (Int32) := if x0 = 111 then (some (1)) else (if x0 = 109 then (some (2)) else (if x0 = 108 then (some (3)) else (if x0 = 102 then (some (4)) else (if x0 = 118 then (some (5)) else (some (0))))))
set_option maxHeartbeats 4000000 in
set_option maxRecDepth 100000 in
theorem mt_X5_sortBy (l : Launch) (dC : Nat → ClassId) (dI : Nat → Nat → Nat) (cI cZ cR cW : ClassId) (xs : Nat → Nat) (sz : Nat)   (x0 : Int32)  (rr : Int32) (hd : fd_X5_sortBy x0 = some (rr)) : ob_M l yX5_sortBy wsX5_sortBy ({ frames := 0, cells := 0, slots := 0, locals := 0 } : Room) (dC, dI) (ob_ty cI cZ cR cW) xs [.int x0] ([] : va_W) sz (ob_Qi (dC, dI) rr ([] : va_W)) := by
  rw [fd_X5_sortBy] at hd
  refine ob_in (cc := cX5_sortBy) (maxL := 1) (ret := (some .int)) (own := RX5) (by decide) rfl rfl [(0, .int x0)] rfl (Nat.le_of_ble_eq_true rfl) ?_
  intro p e s m below meth c hx hb hr hml hown hts hlocks hnm hK A hA hE hP hD hS ls hl
  refine lv_iload_n hx hb dX5_sortBy_0 rfl (lv_at hl 0 rfl) ?_
  refine lv_bipush (v := 111) hx hb dX5_sortBy_1 (by decide) ?_
  refine lv_icmp_ne (tgt := 10) hx hb dX5_sortBy_3 (by decide) (fun c_3 => ?_) (fun c_3 => ?_)
  · replace hd := ob_f c_3 hd
    refine lv_iload_n hx hb dX5_sortBy_10 rfl (lv_at hl 0 rfl) ?_
    refine lv_bipush (v := 109) hx hb dX5_sortBy_11 (by decide) ?_
    refine lv_icmp_ne (tgt := 20) hx hb dX5_sortBy_13 (by decide) (fun c_13 => ?_) (fun c_13 => ?_)
    · replace hd := ob_f c_13 hd
      refine lv_iload_n hx hb dX5_sortBy_20 rfl (lv_at hl 0 rfl) ?_
      refine lv_bipush (v := 108) hx hb dX5_sortBy_21 (by decide) ?_
      refine lv_icmp_ne (tgt := 30) hx hb dX5_sortBy_23 (by decide) (fun c_23 => ?_) (fun c_23 => ?_)
      · replace hd := ob_f c_23 hd
        refine lv_iload_n hx hb dX5_sortBy_30 rfl (lv_at hl 0 rfl) ?_
        refine lv_bipush (v := 102) hx hb dX5_sortBy_31 (by decide) ?_
        refine lv_icmp_ne (tgt := 40) hx hb dX5_sortBy_33 (by decide) (fun c_33 => ?_) (fun c_33 => ?_)
        · replace hd := ob_f c_33 hd
          refine lv_iload_n hx hb dX5_sortBy_40 rfl (lv_at hl 0 rfl) ?_
          refine lv_bipush (v := 118) hx hb dX5_sortBy_41 (by decide) ?_
          refine lv_icmp_ne (tgt := 50) hx hb dX5_sortBy_43 (by decide) (fun c_43 => ?_) (fun c_43 => ?_)
          · replace hd := ob_f c_43 hd
            refine lv_iconst (v := 0) hx hb dX5_sortBy_50 (by decide) ?_
            have e1 := Option.some.inj hd
            subst e1
            exact ob_iret hx hb hr hlocks hP hD hS dX5_sortBy_51
          · replace hd := ob_t c_43 hd
            refine lv_iconst (v := 5) hx hb dX5_sortBy_46 (by decide) ?_
            refine lv_goto (tgt := 51) hx hb dX5_sortBy_47 (by decide) ?_
            have e1 := Option.some.inj hd
            subst e1
            exact ob_iret hx hb hr hlocks hP hD hS dX5_sortBy_51
        · replace hd := ob_t c_33 hd
          refine lv_iconst (v := 4) hx hb dX5_sortBy_36 (by decide) ?_
          refine lv_goto (tgt := 51) hx hb dX5_sortBy_37 (by decide) ?_
          have e1 := Option.some.inj hd
          subst e1
          exact ob_iret hx hb hr hlocks hP hD hS dX5_sortBy_51
      · replace hd := ob_t c_23 hd
        refine lv_iconst (v := 3) hx hb dX5_sortBy_26 (by decide) ?_
        refine lv_goto (tgt := 51) hx hb dX5_sortBy_27 (by decide) ?_
        have e1 := Option.some.inj hd
        subst e1
        exact ob_iret hx hb hr hlocks hP hD hS dX5_sortBy_51
    · replace hd := ob_t c_13 hd
      refine lv_iconst (v := 2) hx hb dX5_sortBy_16 (by decide) ?_
      refine lv_goto (tgt := 51) hx hb dX5_sortBy_17 (by decide) ?_
      have e1 := Option.some.inj hd
      subst e1
      exact ob_iret hx hb hr hlocks hP hD hS dX5_sortBy_51
  · replace hd := ob_t c_3 hd
    refine lv_iconst (v := 1) hx hb dX5_sortBy_6 (by decide) ?_
    refine lv_goto (tgt := 51) hx hb dX5_sortBy_7 (by decide) ?_
    have e1 := Option.some.inj hd
    subst e1
    exact ob_iret hx hb hr hlocks hP hD hS dX5_sortBy_51

def fd_X5_bits_L4  : Nat → Int32 → Int32 → Int32 → Option (Int32)
  | 0, _, _, _ => none
  | fu + 1, x0, z1, z2 => if 7 ≤ z2 then (some (z1)) else (ob_lt (z1 + ((x0 >>> (z2 &&& 31)) &&& 1) : Int32) (fun x_1 => ob_lt (z2 + 1 : Int32) (fun x_2 => fd_X5_bits_L4 fu x0 x_1 x_2)))
def fd_X5_bits   (x0 : Int32) : Option (Int32) := fd_X5_bits_L4 2000 x0 0 0
set_option maxHeartbeats 4000000 in
set_option maxRecDepth 100000 in
theorem mt_X5_bits (l : Launch) (dC : Nat → ClassId) (dI : Nat → Nat → Nat) (cI cZ cR cW : ClassId) (xs : Nat → Nat) (sz : Nat)   (x0 : Int32)  (rr : Int32) (hd : fd_X5_bits x0 = some (rr)) : ob_M l yX5_bits wsX5_bits ({ frames := 0, cells := 0, slots := 0, locals := 0 } : Room) (dC, dI) (ob_ty cI cZ cR cW) xs [.int x0] ([] : va_W) sz (ob_Qi (dC, dI) rr ([] : va_W)) := by
  rw [fd_X5_bits] at hd
  refine ob_in (cc := cX5_bits) (maxL := 3) (ret := (some .int)) (own := RX5) (by decide) rfl rfl [(0, .int x0)] rfl (Nat.le_of_ble_eq_true rfl) ?_
  intro p e s m below meth c hx hb hr hml hown hts hlocks hnm hK A hA hE hP hD hS ls hl
  have L4 : ∀  (fu : Nat), ∀ (H : Heap) (locs : List Loc)  (z1 : Int32) (z2 : Int32) (ls : Array Slot), va_P (dC, dI) vwCl ([] : va_W) H → va_D A ([] : va_W) → va_S A s.heap H locs → lv_has ls 3 [(0, .int x0), (1, .int z1), (2, .int z2)] → fd_X5_bits_L4 fu x0 z1 z2 = some (rr) → W p l e ({ frames := 0, cells := 0, slots := 0, locals := 0 } : Room) s m (List.toArray [.int x0]) below meth c H locs 0 0 (MQ below ((ob_Qi (dC, dI) rr ([] : va_W)) A) (List.toArray [.int x0]) s 0 0 A) (F0 m 4 ls []) := by
    intro  fu
    induction fu with
    | zero =>
      intro H locs z1 z2 ls hP hD hS hl hd
      rw [fd_X5_bits_L4] at hd
      cases hd
    | succ fu ih =>
      intro H locs z1 z2 ls hP hD hS hl hd
      rw [fd_X5_bits_L4] at hd
      refine lv_iload_n hx hb dX5_bits_4 rfl (lv_at hl 2 rfl) ?_
      refine lv_bipush (v := 7) hx hb dX5_bits_5 (by decide) ?_
      refine lv_icmp_ge (tgt := 24) hx hb dX5_bits_7 (by decide) (fun c_7 => ?_) (fun c_7 => ?_)
      · replace hd := ob_t c_7 hd
        refine lv_iload_n hx hb dX5_bits_24 rfl (lv_at hl 1 rfl) ?_
        have e1 := Option.some.inj hd
        subst e1
        exact ob_iret hx hb hr hlocks hP hD hS dX5_bits_25
      · replace hd := ob_f c_7 hd
        refine lv_iload_n hx hb dX5_bits_10 rfl (lv_at hl 1 rfl) ?_
        refine lv_iload_n hx hb dX5_bits_11 rfl (lv_at hl 0 rfl) ?_
        refine lv_iload_n hx hb dX5_bits_12 rfl (lv_at hl 2 rfl) ?_
        refine lv_ishr hx hb dX5_bits_13 ?_
        refine lv_iconst (v := 1) hx hb dX5_bits_14 (by decide) ?_
        refine lv_iand hx hb dX5_bits_15 ?_
        refine lv_iadd hx hb dX5_bits_16 ?_
        refine lv_topi (fun x_1 ex_1 => ?_)
        replace hd := ob_lx ex_1 hd
        clear ex_1
        refine lv_istore_n (lv' := [(1, .int x_1), (0, .int x0), (2, .int z2)]) hx hb dX5_bits_17 rfl hl (by decide) rfl (fun ls hl => ?_)
        obtain ⟨x_2, ex_2⟩ : ∃ z : Int32, z = z2 + 1 := ⟨_, rfl⟩
        replace hd := ob_lx ex_2 hd
        refine lv_iinc (v := x_2) (lv' := [(2, .int x_2), (1, .int x_1), (0, .int x0)]) hx hb dX5_bits_18 hl (k := 2) rfl (by rw [ex_2]; rfl) (by decide) rfl (fun ls hl => ?_)
        clear ex_2
        refine lv_goto (tgt := 4) hx hb dX5_bits_21 (by decide) ?_
        exact ih _ _ x_1 x_2 _ hP hD hS (lv_sub hl [2, 1, 0] rfl) hd
  refine lv_iconst (v := 0) hx hb dX5_bits_0 (by decide) ?_
  refine lv_istore_n (lv' := [(1, .int 0), (0, .int x0)]) hx hb dX5_bits_1 rfl hl (by decide) rfl (fun ls hl => ?_)
  refine lv_iconst (v := 0) hx hb dX5_bits_2 (by decide) ?_
  refine lv_istore_n (lv' := [(2, .int 0), (1, .int 0), (0, .int x0)]) hx hb dX5_bits_3 rfl hl (by decide) rfl (fun ls hl => ?_)
  exact L4  2000 _ _ 0 0 _ hP hD hS (lv_sub hl [2, 1, 0] rfl) hd

def fd_X5_parentOf   (x0 : Int32) : Option (Int32) := if x0 = 1 then (some (0)) else (if x0 = 4 then (some (0)) else (if x0 = 5 then (some (4)) else (some (1))))
set_option maxHeartbeats 4000000 in
set_option maxRecDepth 100000 in
theorem mt_X5_parentOf (l : Launch) (dC : Nat → ClassId) (dI : Nat → Nat → Nat) (cI cZ cR cW : ClassId) (xs : Nat → Nat) (sz : Nat)   (x0 : Int32)  (rr : Int32) (hd : fd_X5_parentOf x0 = some (rr)) : ob_M l yX5_parentOf wsX5_parentOf ({ frames := 0, cells := 0, slots := 0, locals := 0 } : Room) (dC, dI) (ob_ty cI cZ cR cW) xs [.int x0] ([] : va_W) sz (ob_Qi (dC, dI) rr ([] : va_W)) := by
  rw [fd_X5_parentOf] at hd
  refine ob_in (cc := cX5_parentOf) (maxL := 1) (ret := (some .int)) (own := RX5) (by decide) rfl rfl [(0, .int x0)] rfl (Nat.le_of_ble_eq_true rfl) ?_
  intro p e s m below meth c hx hb hr hml hown hts hlocks hnm hK A hA hE hP hD hS ls hl
  refine lv_iload_n hx hb dX5_parentOf_0 rfl (lv_at hl 0 rfl) ?_
  refine lv_iconst (v := 1) hx hb dX5_parentOf_1 (by decide) ?_
  refine lv_icmp_eq (tgt := 10) hx hb dX5_parentOf_2 (by decide) (fun c_2 => ?_) (fun c_2 => ?_)
  · replace hd := ob_t c_2 hd
    refine lv_iconst (v := 0) hx hb dX5_parentOf_10 (by decide) ?_
    refine lv_goto (tgt := 24) hx hb dX5_parentOf_11 (by decide) ?_
    have e1 := Option.some.inj hd
    subst e1
    exact ob_iret hx hb hr hlocks hP hD hS dX5_parentOf_24
  · replace hd := ob_f c_2 hd
    refine lv_iload_n hx hb dX5_parentOf_5 rfl (lv_at hl 0 rfl) ?_
    refine lv_iconst (v := 4) hx hb dX5_parentOf_6 (by decide) ?_
    refine lv_icmp_ne (tgt := 14) hx hb dX5_parentOf_7 (by decide) (fun c_7 => ?_) (fun c_7 => ?_)
    · replace hd := ob_f c_7 hd
      refine lv_iload_n hx hb dX5_parentOf_14 rfl (lv_at hl 0 rfl) ?_
      refine lv_iconst (v := 5) hx hb dX5_parentOf_15 (by decide) ?_
      refine lv_icmp_ne (tgt := 23) hx hb dX5_parentOf_16 (by decide) (fun c_16 => ?_) (fun c_16 => ?_)
      · replace hd := ob_f c_16 hd
        refine lv_iconst (v := 1) hx hb dX5_parentOf_23 (by decide) ?_
        have e1 := Option.some.inj hd
        subst e1
        exact ob_iret hx hb hr hlocks hP hD hS dX5_parentOf_24
      · replace hd := ob_t c_16 hd
        refine lv_iconst (v := 4) hx hb dX5_parentOf_19 (by decide) ?_
        refine lv_goto (tgt := 24) hx hb dX5_parentOf_20 (by decide) ?_
        have e1 := Option.some.inj hd
        subst e1
        exact ob_iret hx hb hr hlocks hP hD hS dX5_parentOf_24
    · replace hd := ob_t c_7 hd
      refine lv_iconst (v := 0) hx hb dX5_parentOf_10 (by decide) ?_
      refine lv_goto (tgt := 24) hx hb dX5_parentOf_11 (by decide) ?_
      have e1 := Option.some.inj hd
      subst e1
      exact ob_iret hx hb hr hlocks hP hD hS dX5_parentOf_24

def fd_X5_lay_L3 (n_f : Nat) (n_h : Nat)  : Nat → (Nat → Int32) → (Nat → Int32) → Int32 → Int32 → Int32 → Option ((Nat → Int32))
  | 0, _, _, _, _, _ => none
  | fu + 1, f, h, x1, x3, z4 => if 42 ≤ z4 then (some (h)) else (if (x1 + z4) < 0 ∨ n_f ≤ Int32.toNatClampNeg (x1 + z4) then none else (ob_lt (f (Int32.toNatClampNeg (x1 + z4)) : Int32) (fun x_1 => if (x3 + z4) < 0 ∨ n_h ≤ Int32.toNatClampNeg (x3 + z4) then none else (ob_lt (upd h (Int32.toNatClampNeg (x3 + z4)) x_1 : (Nat → Int32)) (fun h_2 => ob_lt (z4 + 1 : Int32) (fun x_3 => fd_X5_lay_L3 n_f n_h fu f h_2 x1 x3 x_3))))))
def fd_X5_lay (n_f : Nat) (n_h : Nat) (f : (Nat → Int32)) (h : (Nat → Int32)) (x1 : Int32) (x3 : Int32) : Option ((Nat → Int32)) := fd_X5_lay_L3 n_f n_h 2000 f h x1 x3 0
set_option maxHeartbeats 4000000 in
set_option maxRecDepth 100000 in
theorem mt_X5_lay (l : Launch) (dC : Nat → ClassId) (dI : Nat → Nat → Nat) (cI cZ cR cW : ClassId) (xs : Nat → Nat) (sz : Nat) (o_f : Nat) (n_f : Nat) (o_h : Nat) (n_h : Nat) (f : (Nat → Int32)) (h : (Nat → Int32)) (x1 : Int32) (x3 : Int32)  (h' : (Nat → Int32)) (hd : fd_X5_lay n_f n_h f h x1 x3 = some (h')) : ob_M l yX5_lay wsX5_lay ({ frames := 0, cells := 0, slots := 0, locals := 0 } : Room) (dC, dI) (ob_ty cI cZ cR cW) xs [.ref o_f, .int x1, .ref o_h, .int x3] (ob_wa o_f cI n_f f ++ ob_wa o_h cI n_h h) sz (ob_Qv (dC, dI) (ob_wa o_f cI n_f f ++ ob_wa o_h cI n_h h')) := by
  rw [fd_X5_lay] at hd
  refine ob_in (cc := cX5_lay) (maxL := 5) (ret := none) (own := RX5) (by decide) rfl rfl [(0, .ref o_f), (1, .int x1), (2, .ref o_h), (3, .int x3)] rfl (Nat.le_of_ble_eq_true rfl) ?_
  intro p e s m below meth c hx hb hr hml hown hts hlocks hnm hK A hA hE hP hD hS ls hl
  have L3 : ∀  (fu : Nat), ∀ (H : Heap) (locs : List Loc) (h : (Nat → Int32)) (z4 : Int32) (ls : Array Slot), va_P (dC, dI) vwCl (ob_wa o_f cI n_f f ++ ob_wa o_h cI n_h h) H → va_D A (ob_wa o_f cI n_f f ++ ob_wa o_h cI n_h h) → va_S A s.heap H locs → lv_has ls 5 [(0, .ref o_f), (1, .int x1), (2, .ref o_h), (3, .int x3), (4, .int z4)] → fd_X5_lay_L3 n_f n_h fu f h x1 x3 z4 = some (h') → W p l e ({ frames := 0, cells := 0, slots := 0, locals := 0 } : Room) s m (List.toArray [.ref o_f, .int x1, .ref o_h, .int x3]) below meth c H locs 0 0 (MQ below ((ob_Qv (dC, dI) (ob_wa o_f cI n_f f ++ ob_wa o_h cI n_h h')) A) (List.toArray [.ref o_f, .int x1, .ref o_h, .int x3]) s 0 0 A) (F0 m 3 ls []) := by
    intro  fu
    induction fu with
    | zero =>
      intro H locs h z4 ls hP hD hS hl hd
      rw [fd_X5_lay_L3] at hd
      cases hd
    | succ fu ih =>
      intro H locs h z4 ls hP hD hS hl hd
      rw [fd_X5_lay_L3] at hd
      refine lv_iload hx hb dX5_lay_3 (lv_at hl 4 rfl) ?_
      refine lv_bipush (v := 42) hx hb dX5_lay_5 (by decide) ?_
      refine lv_icmp_ge (tgt := 28) hx hb dX5_lay_7 (by decide) (fun c_7 => ?_) (fun c_7 => ?_)
      · replace hd := ob_t c_7 hd
        have e1 := Option.some.inj hd
        subst e1
        exact ob_vret hx hb hr hlocks hP hD hS dX5_lay_28
      · replace hd := ob_f c_7 hd
        refine lv_aload_n hx hb dX5_lay_10 rfl (lv_at hl 2 rfl) ?_
        refine lv_iload_n hx hb dX5_lay_11 rfl (lv_at hl 3 rfl) ?_
        refine lv_iload hx hb dX5_lay_12 (lv_at hl 4 rfl) ?_
        refine lv_iadd hx hb dX5_lay_14 ?_
        refine lv_aload_n hx hb dX5_lay_15 rfl (lv_at hl 0 rfl) ?_
        refine lv_iload_n hx hb dX5_lay_16 rfl (lv_at hl 1 rfl) ?_
        refine lv_iload hx hb dX5_lay_17 (lv_at hl 4 rfl) ?_
        refine lv_iadd hx hb dX5_lay_19 ?_
        obtain ⟨h1_20, hd⟩ := ob_nn hd
        refine va_iald hx hb hK hP 0 0 rfl rfl h1_20 dX5_lay_20 ?_
        refine lv_topi (fun x_1 ex_1 => ?_)
        replace hd := ob_lx ex_1 hd
        clear ex_1
        obtain ⟨h1_21, hd⟩ := ob_nn hd
        refine va_iast hx hb hK hP hD hS 1 0 rfl rfl h1_21 dX5_lay_21 (fun H locs hP hD hS => ?_)
        obtain ⟨h_2, eh_2⟩ : ∃ z : (Nat → Int32), z = upd h (Int32.toNatClampNeg (x3 + z4)) x_1 := ⟨_, rfl⟩
        replace hd := ob_lx eh_2 hd
        replace hP : va_P (dC, dI) vwCl (ob_wa o_f cI n_f f ++ ob_wa o_h cI n_h h_2) H := by rw [eh_2]; exact hP
        replace hD : va_D A (ob_wa o_f cI n_f f ++ ob_wa o_h cI n_h h_2) := by rw [eh_2]; exact hD
        clear eh_2
        obtain ⟨x_3, ex_3⟩ : ∃ z : Int32, z = z4 + 1 := ⟨_, rfl⟩
        replace hd := ob_lx ex_3 hd
        refine lv_iinc (v := x_3) (lv' := [(4, .int x_3), (0, .ref o_f), (1, .int x1), (2, .ref o_h), (3, .int x3)]) hx hb dX5_lay_22 hl (k := 4) rfl (by rw [ex_3]; rfl) (by decide) rfl (fun ls hl => ?_)
        clear ex_3
        refine lv_goto (tgt := 3) hx hb dX5_lay_25 (by decide) ?_
        exact ih _ _ h_2 x_3 _ hP hD hS (lv_sub hl [1, 2, 3, 4, 0] rfl) hd
  refine lv_iconst (v := 0) hx hb dX5_lay_0 (by decide) ?_
  refine lv_istore (lv' := [(4, .int 0), (0, .ref o_f), (1, .int x1), (2, .ref o_h), (3, .int x3)]) hx hb dX5_lay_1 hl (by decide) rfl (fun ls hl => ?_)
  exact L3  2000 _ _ h 0 _ hP hD hS (lv_sub hl [1, 2, 3, 4, 0] rfl) hd

def fd_X5_pullOf_L25  (f : (Nat → Int32)) (x1 : Int32) (z2 : Int32) (v0 : Int32) : Option (Int32) := if (35 + x1) < 0 ∨ 42 ≤ Int32.toNatClampNeg (35 + x1) then none else (if (f (Int32.toNatClampNeg (35 + x1))) = 0 then (if (14 + x1) < 0 ∨ 42 ≤ Int32.toNatClampNeg (14 + x1) then none else (ob_b1 (fd_X5_has (f (Int32.toNatClampNeg 4)) (f (Int32.toNatClampNeg (14 + x1)))) (fun r_2 => if r_2 = 0 then (if (7 + x1) < 0 ∨ 42 ≤ Int32.toNatClampNeg (7 + x1) then none else (ob_lt (f (Int32.toNatClampNeg (7 + x1)) : Int32) (fun x_3 => if x_3 = 1 then (some (z2 + v0)) else (if x_3 = 2 then (some ((3 * z2) + v0)) else (if x_3 = 3 then (some ((z2 / 2) + v0)) else (if x_3 = 4 then (some (z2 + 5)) else (if ((f (Int32.toNatClampNeg 3)) - (f (Int32.toNatClampNeg 3)) / 2 * 2) = 0 then (some (z2 + 5)) else (some (z2))))))))) else (some (0))))) else (some (0)))
def fd_X5_pullOf  (f : (Nat → Int32)) (x1 : Int32) : Option (Int32) := if (21 + x1) < 0 ∨ 42 ≤ Int32.toNatClampNeg (21 + x1) then none else (ob_lt (f (Int32.toNatClampNeg (21 + x1)) : Int32) (fun x_1 => if (28 + x1) < 0 ∨ 42 ≤ Int32.toNatClampNeg (28 + x1) then none else (if (f (Int32.toNatClampNeg 3)) < (f (Int32.toNatClampNeg (28 + x1))) then (fd_X5_pullOf_L25 f x1 x_1 0) else (fd_X5_pullOf_L25 f x1 x_1 10))))
set_option maxHeartbeats 4000000 in
set_option maxRecDepth 100000 in
theorem mt_X5_pullOf (l : Launch) (dC : Nat → ClassId) (dI : Nat → Nat → Nat) (cI cZ cR cW : ClassId) (xs : Nat → Nat) (sz : Nat) (o_f : Nat) (f : (Nat → Int32)) (x1 : Int32)  (rr : Int32) (hd : fd_X5_pullOf f x1 = some (rr)) : ob_M l yX5_pullOf wsX5_pullOf ({ frames := 1, cells := 0, slots := 0, locals := 21 } : Room) (dC, dI) (ob_ty cI cZ cR cW) xs [.ref o_f, .int x1] (ob_wa o_f cI 42 f) sz (ob_Qi (dC, dI) rr (ob_wa o_f cI 42 f)) := by
  rw [fd_X5_pullOf] at hd
  refine ob_in (cc := cX5_pullOf) (maxL := 4) (ret := (some .int)) (own := RX5) (by decide) rfl rfl [(0, .ref o_f), (1, .int x1)] rfl (Nat.le_of_ble_eq_true rfl) ?_
  intro p e s m below meth c hx hb hr hml hown hts hlocks hnm hK A hA hE hP hD hS ls hl
  have L25 : ∀ (H : Heap) (locs : List Loc)  (z2 : Int32) (v0 : Int32) (ls : Array Slot), va_P (dC, dI) vwCl (ob_wa o_f cI 42 f) H → va_D A (ob_wa o_f cI 42 f) → va_S A s.heap H locs → lv_has ls 4 [(0, .ref o_f), (1, .int x1), (2, .int z2)] → fd_X5_pullOf_L25 f x1 z2 v0 = some (rr) → W p l e ({ frames := 1, cells := 0, slots := 0, locals := 21 } : Room) s m (List.toArray [.ref o_f, .int x1]) below meth c H locs 0 0 (MQ below ((ob_Qi (dC, dI) rr (ob_wa o_f cI 42 f)) A) (List.toArray [.ref o_f, .int x1]) s 0 0 A) (F0 m 25 ls [.int v0]) := by
    intro  H locs z2 v0 ls hP hD hS hl hd
    rw [fd_X5_pullOf_L25] at hd
    refine lv_istore_n (lv' := [(3, .int v0), (0, .ref o_f), (1, .int x1), (2, .int z2)]) hx hb dX5_pullOf_25 rfl hl (by decide) rfl (fun ls hl => ?_)
    refine lv_aload_n hx hb dX5_pullOf_26 rfl (lv_at hl 1 rfl) ?_
    refine lv_bipush (v := 35) hx hb dX5_pullOf_27 (by decide) ?_
    refine lv_iload_n hx hb dX5_pullOf_29 rfl (lv_at hl 2 rfl) ?_
    refine lv_iadd hx hb dX5_pullOf_30 ?_
    obtain ⟨h1_31, hd⟩ := ob_nn hd
    refine va_iald hx hb hK hP 0 0 rfl rfl h1_31 dX5_pullOf_31 ?_
    refine lv_if_ne (tgt := 50) hx hb dX5_pullOf_32 (by decide) (fun c_32 => ?_) (fun c_32 => ?_)
    · replace hd := ob_f c_32 hd
      refine lv_iconst (v := 0) hx hb dX5_pullOf_50 (by decide) ?_
      have e1 := Option.some.inj hd
      subst e1
      exact ob_iret hx hb hr hlocks hP hD hS dX5_pullOf_51
    · replace hd := ob_t c_32 hd
      refine lv_aload_n hx hb dX5_pullOf_35 rfl (lv_at hl 1 rfl) ?_
      refine lv_iconst (v := 4) hx hb dX5_pullOf_36 (by decide) ?_
      refine va_iald hx hb hK hP 0 0 rfl rfl (by unfold vp_in; decide) dX5_pullOf_37 ?_
      refine lv_aload_n hx hb dX5_pullOf_38 rfl (lv_at hl 1 rfl) ?_
      refine lv_bipush (v := 14) hx hb dX5_pullOf_39 (by decide) ?_
      refine lv_iload_n hx hb dX5_pullOf_41 rfl (lv_at hl 2 rfl) ?_
      refine lv_iadd hx hb dX5_pullOf_42 ?_
      obtain ⟨h1_43, hd⟩ := ob_nn hd
      refine va_iald hx hb hK hP 0 0 rfl rfl h1_43 dX5_pullOf_43 ?_
      obtain ⟨r_2, hc_44, hd⟩ := ob_s1 hd
      refine ob_Si (isC := []) (isR := [0]) (is2 := [0]) (wc := ([] : va_W)) (wr := (List.filterMap (fun i => (ob_wa o_f cI 42 f)[i]?) [0])) (w1 := ([] : va_W)) (w2 := (ob_wa o_f cI 42 f)) (As := [.int (f (Int32.toNatClampNeg 4)), .int (f (Int32.toNatClampNeg (14 + x1)))]) (rest := []) ⟨hx, hb, hml, hown, hts⟩ (mt_X5_has l dC dI cI cZ cR cW xs _ (f (Int32.toNatClampNeg 4)) (f (Int32.toNatClampNeg (14 + x1))) r_2 hc_44) (va_cwS 2 hts gX5_pullOf_X5_has rfl rfl rfl (by decide +kernel) ⟨Nat.le_of_ble_eq_true rfl, Nat.le_of_ble_eq_true rfl⟩) hK hE hP hD hS hA ⟨rfl, rfl, rfl, rfl, rfl, rfl, rfl⟩ hl rfl rfl (Nat.le_of_ble_eq_true rfl) ⟨Nat.le_of_ble_eq_true rfl, Nat.le_of_ble_eq_true rfl⟩ dX5_pullOf_44 (fun H locs hP hD hS => ?_)
      refine W.widen (k := 0) (n := 0) (Nat.le_refl _) (Nat.le_refl _) ?_
      refine lv_if_eq (tgt := 52) hx hb dX5_pullOf_47 (by decide) (fun c_47 => ?_) (fun c_47 => ?_)
      · replace hd := ob_t c_47 hd
        refine lv_aload_n hx hb dX5_pullOf_52 rfl (lv_at hl 1 rfl) ?_
        refine lv_bipush (v := 7) hx hb dX5_pullOf_53 (by decide) ?_
        refine lv_iload_n hx hb dX5_pullOf_55 rfl (lv_at hl 2 rfl) ?_
        refine lv_iadd hx hb dX5_pullOf_56 ?_
        obtain ⟨h1_57, hd⟩ := ob_nn hd
        refine va_iald hx hb hK hP 0 0 rfl rfl h1_57 dX5_pullOf_57 ?_
        refine lv_topi (fun x_3 ex_3 => ?_)
        replace hd := ob_lx ex_3 hd
        clear ex_3
        by_cases c1_58 : x_3 = 1
        · replace hd := ob_t c1_58 hd
          refine lv_tableIn (off := 30) (tgt := 88) hx hb dX5_pullOf_58 (by rw [c1_58]; decide) (by rw [c1_58]; decide) (by rw [c1_58]; decide) (by decide) ?_
          refine lv_iload_n hx hb dX5_pullOf_88 rfl (lv_at hl 3 rfl) ?_
          refine lv_iload_n hx hb dX5_pullOf_89 rfl (lv_at hl 0 rfl) ?_
          refine lv_iadd hx hb dX5_pullOf_90 ?_
          have e1 := Option.some.inj hd
          subst e1
          exact ob_iret hx hb hr hlocks hP hD hS dX5_pullOf_91
        replace hd := ob_f c1_58 hd
        by_cases c2_58 : x_3 = 2
        · replace hd := ob_t c2_58 hd
          refine lv_tableIn (off := 34) (tgt := 92) hx hb dX5_pullOf_58 (by rw [c2_58]; decide) (by rw [c2_58]; decide) (by rw [c2_58]; decide) (by decide) ?_
          refine lv_iconst (v := 3) hx hb dX5_pullOf_92 (by decide) ?_
          refine lv_iload_n hx hb dX5_pullOf_93 rfl (lv_at hl 3 rfl) ?_
          refine lv_imul hx hb dX5_pullOf_94 ?_
          refine lv_iload_n hx hb dX5_pullOf_95 rfl (lv_at hl 0 rfl) ?_
          refine lv_iadd hx hb dX5_pullOf_96 ?_
          have e1 := Option.some.inj hd
          subst e1
          exact ob_iret hx hb hr hlocks hP hD hS dX5_pullOf_97
        replace hd := ob_f c2_58 hd
        by_cases c3_58 : x_3 = 3
        · replace hd := ob_t c3_58 hd
          refine lv_tableIn (off := 40) (tgt := 98) hx hb dX5_pullOf_58 (by rw [c3_58]; decide) (by rw [c3_58]; decide) (by rw [c3_58]; decide) (by decide) ?_
          refine lv_iload_n hx hb dX5_pullOf_98 rfl (lv_at hl 3 rfl) ?_
          refine lv_iconst (v := 2) hx hb dX5_pullOf_99 (by decide) ?_
          refine lv_idiv hx hb dX5_pullOf_100 (by decide) ?_
          refine lv_iload_n hx hb dX5_pullOf_101 rfl (lv_at hl 0 rfl) ?_
          refine lv_iadd hx hb dX5_pullOf_102 ?_
          have e1 := Option.some.inj hd
          subst e1
          exact ob_iret hx hb hr hlocks hP hD hS dX5_pullOf_103
        replace hd := ob_f c3_58 hd
        by_cases c4_58 : x_3 = 4
        · replace hd := ob_t c4_58 hd
          refine lv_tableIn (off := 46) (tgt := 104) hx hb dX5_pullOf_58 (by rw [c4_58]; decide) (by rw [c4_58]; decide) (by rw [c4_58]; decide) (by decide) ?_
          refine lv_iload_n hx hb dX5_pullOf_104 rfl (lv_at hl 3 rfl) ?_
          refine lv_iconst (v := 5) hx hb dX5_pullOf_105 (by decide) ?_
          refine lv_iadd hx hb dX5_pullOf_106 ?_
          have e1 := Option.some.inj hd
          subst e1
          exact ob_iret hx hb hr hlocks hP hD hS dX5_pullOf_107
        replace hd := ob_f c4_58 hd
        refine lv_tableOut (tgt := 108) hx hb dX5_pullOf_58 (by have n1 := lv_neT c1_58 (show (1 : Int32).toInt = 1 from rfl); have n2 := lv_neT c2_58 (show (2 : Int32).toInt = 2 from rfl); have n3 := lv_neT c3_58 (show (3 : Int32).toInt = 3 from rfl); have n4 := lv_neT c4_58 (show (4 : Int32).toInt = 4 from rfl); omega) (by decide) ?_
        refine lv_aload_n hx hb dX5_pullOf_108 rfl (lv_at hl 1 rfl) ?_
        refine lv_iconst (v := 3) hx hb dX5_pullOf_109 (by decide) ?_
        refine va_iald hx hb hK hP 0 0 rfl rfl (by unfold vp_in; decide) dX5_pullOf_110 ?_
        refine lv_iconst (v := 2) hx hb dX5_pullOf_111 (by decide) ?_
        refine lv_irem hx hb dX5_pullOf_112 (by decide) ?_
        refine lv_if_ne (tgt := 122) hx hb dX5_pullOf_113 (by decide) (fun c_113 => ?_) (fun c_113 => ?_)
        · replace hd := ob_f c_113 hd
          refine lv_iload_n hx hb dX5_pullOf_122 rfl (lv_at hl 3 rfl) ?_
          have e1 := Option.some.inj hd
          subst e1
          exact ob_iret hx hb hr hlocks hP hD hS dX5_pullOf_123
        · replace hd := ob_t c_113 hd
          refine lv_iload_n hx hb dX5_pullOf_116 rfl (lv_at hl 3 rfl) ?_
          refine lv_iconst (v := 5) hx hb dX5_pullOf_117 (by decide) ?_
          refine lv_iadd hx hb dX5_pullOf_118 ?_
          refine lv_goto (tgt := 123) hx hb dX5_pullOf_119 (by decide) ?_
          have e1 := Option.some.inj hd
          subst e1
          exact ob_iret hx hb hr hlocks hP hD hS dX5_pullOf_123
      · replace hd := ob_f c_47 hd
        refine lv_iconst (v := 0) hx hb dX5_pullOf_50 (by decide) ?_
        have e1 := Option.some.inj hd
        subst e1
        exact ob_iret hx hb hr hlocks hP hD hS dX5_pullOf_51
  refine lv_aload_n hx hb dX5_pullOf_0 rfl (lv_at hl 0 rfl) ?_
  refine lv_bipush (v := 21) hx hb dX5_pullOf_1 (by decide) ?_
  refine lv_iload_n hx hb dX5_pullOf_3 rfl (lv_at hl 1 rfl) ?_
  refine lv_iadd hx hb dX5_pullOf_4 ?_
  obtain ⟨h1_5, hd⟩ := ob_nn hd
  refine va_iald hx hb hK hP 0 0 rfl rfl h1_5 dX5_pullOf_5 ?_
  refine lv_topi (fun x_1 ex_1 => ?_)
  replace hd := ob_lx ex_1 hd
  clear ex_1
  refine lv_istore_n (lv' := [(2, .int x_1), (0, .ref o_f), (1, .int x1)]) hx hb dX5_pullOf_6 rfl hl (by decide) rfl (fun ls hl => ?_)
  refine lv_aload_n hx hb dX5_pullOf_7 rfl (lv_at hl 1 rfl) ?_
  refine lv_iconst (v := 3) hx hb dX5_pullOf_8 (by decide) ?_
  refine va_iald hx hb hK hP 0 0 rfl rfl (by unfold vp_in; decide) dX5_pullOf_9 ?_
  refine lv_aload_n hx hb dX5_pullOf_10 rfl (lv_at hl 1 rfl) ?_
  refine lv_bipush (v := 28) hx hb dX5_pullOf_11 (by decide) ?_
  refine lv_iload_n hx hb dX5_pullOf_13 rfl (lv_at hl 2 rfl) ?_
  refine lv_iadd hx hb dX5_pullOf_14 ?_
  obtain ⟨h1_15, hd⟩ := ob_nn hd
  refine va_iald hx hb hK hP 0 0 rfl rfl h1_15 dX5_pullOf_15 ?_
  refine lv_icmp_lt (tgt := 24) hx hb dX5_pullOf_16 (by decide) (fun c_16 => ?_) (fun c_16 => ?_)
  · replace hd := ob_t c_16 hd
    refine lv_iconst (v := 0) hx hb dX5_pullOf_24 (by decide) ?_
    exact L25   _ _ x_1 0 _ hP hD hS (lv_sub hl [1, 2, 0] rfl) hd
  · replace hd := ob_f c_16 hd
    refine lv_bipush (v := 10) hx hb dX5_pullOf_19 (by decide) ?_
    refine lv_goto (tgt := 25) hx hb dX5_pullOf_21 (by decide) ?_
    exact L25   _ _ x_1 10 _ hP hD hS (lv_sub hl [1, 2, 0] rfl) hd

def fd_X5_pullerOf_L48 (k_7 : (Nat → Int32) → Int32 → Int32 → Int32 → Int32 → Option (Int32)) (f : (Nat → Int32)) (x1 : Int32) (z3 : Int32) (z4 : Int32) (z5 : Int32) (v0 : Int32) : Option (Int32) := if z5 ≤ z3 then (ob_lt (z4 + 1 : Int32) (fun x_3 => k_7 f x1 v0 z3 x_3)) else (ob_lt (z4 + 1 : Int32) (fun x_4 => k_7 f x1 v0 z5 x_4))
def fd_X5_pullerOf_L34 (k_7 : (Nat → Int32) → Int32 → Int32 → Int32 → Int32 → Option (Int32)) (f : (Nat → Int32)) (x1 : Int32) (z2 : Int32) (z3 : Int32) (z4 : Int32) (v0 : Int32) : Option (Int32) := if v0 ≤ z3 then (fd_X5_pullerOf_L48 k_7 f x1 z3 z4 v0 z2) else (fd_X5_pullerOf_L48 k_7 f x1 z3 z4 v0 z4)
def fd_X5_pullerOf_L7  : Nat → (Nat → Int32) → Int32 → Int32 → Int32 → Int32 → Option (Int32)
  | 0, _, _, _, _, _ => none
  | fu + 1, f, x1, z2, z3, z4 => if (f (Int32.toNatClampNeg 2)) ≤ z4 then (some (z2)) else (ob_b1 (fd_X5_has x1 z4) (fun r_1 => if r_1 = 0 then (ob_b1 (fd_X5_pullOf f z4) (fun r_2 => fd_X5_pullerOf_L34 (fd_X5_pullerOf_L7 fu) f x1 z2 z3 z4 r_2)) else (fd_X5_pullerOf_L34 (fd_X5_pullerOf_L7 fu) f x1 z2 z3 z4 0)))
def fd_X5_pullerOf  (f : (Nat → Int32)) (x1 : Int32) : Option (Int32) := fd_X5_pullerOf_L7 2000 f x1 (-1) 0 0
set_option maxHeartbeats 4000000 in
set_option maxRecDepth 100000 in
theorem mt_X5_pullerOf (l : Launch) (dC : Nat → ClassId) (dI : Nat → Nat → Nat) (cI cZ cR cW : ClassId) (xs : Nat → Nat) (sz : Nat) (o_f : Nat) (f : (Nat → Int32)) (x1 : Int32)  (rr : Int32) (hd : fd_X5_pullerOf f x1 = some (rr)) : ob_M l yX5_pullerOf wsX5_pullerOf ({ frames := 2, cells := 0, slots := 0, locals := 44 } : Room) (dC, dI) (ob_ty cI cZ cR cW) xs [.ref o_f, .int x1] (ob_wa o_f cI 42 f) sz (ob_Qi (dC, dI) rr (ob_wa o_f cI 42 f)) := by
  rw [fd_X5_pullerOf] at hd
  refine ob_in (cc := cX5_pullerOf) (maxL := 6) (ret := (some .int)) (own := RX5) (by decide) rfl rfl [(0, .ref o_f), (1, .int x1)] rfl (Nat.le_of_ble_eq_true rfl) ?_
  intro p e s m below meth c hx hb hr hml hown hts hlocks hnm hK A hA hE hP hD hS ls hl
  have L48 : ∀ (k_7 : (Nat → Int32) → Int32 → Int32 → Int32 → Int32 → Option (Int32)) (hk_7 : ∀ (H : Heap) (locs : List Loc)  (z2 : Int32) (z3 : Int32) (z4 : Int32) (ls : Array Slot), va_P (dC, dI) vwCl (ob_wa o_f cI 42 f) H → va_D A (ob_wa o_f cI 42 f) → va_S A s.heap H locs → lv_has ls 6 [(0, .ref o_f), (1, .int x1), (2, .int z2), (3, .int z3), (4, .int z4)] → k_7 f x1 z2 z3 z4 = some (rr) → W p l e ({ frames := 2, cells := 0, slots := 0, locals := 44 } : Room) s m (List.toArray [.ref o_f, .int x1]) below meth c H locs 0 0 (MQ below ((ob_Qi (dC, dI) rr (ob_wa o_f cI 42 f)) A) (List.toArray [.ref o_f, .int x1]) s 0 0 A) (F0 m 7 ls [])), ∀ (H : Heap) (locs : List Loc)  (z3 : Int32) (z4 : Int32) (z5 : Int32) (v0 : Int32) (ls : Array Slot), va_P (dC, dI) vwCl (ob_wa o_f cI 42 f) H → va_D A (ob_wa o_f cI 42 f) → va_S A s.heap H locs → lv_has ls 6 [(0, .ref o_f), (1, .int x1), (3, .int z3), (4, .int z4), (5, .int z5)] → fd_X5_pullerOf_L48 k_7 f x1 z3 z4 z5 v0 = some (rr) → W p l e ({ frames := 2, cells := 0, slots := 0, locals := 44 } : Room) s m (List.toArray [.ref o_f, .int x1]) below meth c H locs 0 0 (MQ below ((ob_Qi (dC, dI) rr (ob_wa o_f cI 42 f)) A) (List.toArray [.ref o_f, .int x1]) s 0 0 A) (F0 m 48 ls [.int v0]) := by
    intro k_7 hk_7 H locs z3 z4 z5 v0 ls hP hD hS hl hd
    rw [fd_X5_pullerOf_L48] at hd
    refine lv_istore_n (lv' := [(2, .int v0), (0, .ref o_f), (1, .int x1), (3, .int z3), (4, .int z4), (5, .int z5)]) hx hb dX5_pullerOf_48 rfl hl (by decide) rfl (fun ls hl => ?_)
    refine lv_iload hx hb dX5_pullerOf_49 (lv_at hl 5 rfl) ?_
    refine lv_iload_n hx hb dX5_pullerOf_51 rfl (lv_at hl 3 rfl) ?_
    refine lv_icmp_le (tgt := 60) hx hb dX5_pullerOf_52 (by decide) (fun c_52 => ?_) (fun c_52 => ?_)
    · replace hd := ob_t c_52 hd
      refine lv_iload_n hx hb dX5_pullerOf_60 rfl (lv_at hl 3 rfl) ?_
      refine lv_istore_n (lv' := [(3, .int z3), (2, .int v0), (0, .ref o_f), (1, .int x1), (4, .int z4), (5, .int z5)]) hx hb dX5_pullerOf_61 rfl hl (by decide) rfl (fun ls hl => ?_)
      obtain ⟨x_3, ex_3⟩ : ∃ z : Int32, z = z4 + 1 := ⟨_, rfl⟩
      replace hd := ob_lx ex_3 hd
      refine lv_iinc (v := x_3) (lv' := [(4, .int x_3), (3, .int z3), (2, .int v0), (0, .ref o_f), (1, .int x1), (5, .int z5)]) hx hb dX5_pullerOf_62 hl (k := 4) rfl (by rw [ex_3]; rfl) (by decide) rfl (fun ls hl => ?_)
      clear ex_3
      refine lv_goto (tgt := 7) hx hb dX5_pullerOf_65 (by decide) ?_
      exact hk_7 _ _ v0 z3 x_3 _ hP hD hS (lv_sub hl [3, 4, 2, 1, 0] rfl) hd
    · replace hd := ob_f c_52 hd
      refine lv_iload hx hb dX5_pullerOf_55 (lv_at hl 5 rfl) ?_
      refine lv_goto (tgt := 61) hx hb dX5_pullerOf_57 (by decide) ?_
      refine lv_istore_n (lv' := [(3, .int z5), (2, .int v0), (0, .ref o_f), (1, .int x1), (4, .int z4), (5, .int z5)]) hx hb dX5_pullerOf_61 rfl hl (by decide) rfl (fun ls hl => ?_)
      obtain ⟨x_4, ex_4⟩ : ∃ z : Int32, z = z4 + 1 := ⟨_, rfl⟩
      replace hd := ob_lx ex_4 hd
      refine lv_iinc (v := x_4) (lv' := [(4, .int x_4), (3, .int z5), (2, .int v0), (0, .ref o_f), (1, .int x1), (5, .int z5)]) hx hb dX5_pullerOf_62 hl (k := 4) rfl (by rw [ex_4]; rfl) (by decide) rfl (fun ls hl => ?_)
      clear ex_4
      refine lv_goto (tgt := 7) hx hb dX5_pullerOf_65 (by decide) ?_
      exact hk_7 _ _ v0 z5 x_4 _ hP hD hS (lv_sub hl [3, 4, 2, 1, 0] rfl) hd
  have L34 : ∀ (k_7 : (Nat → Int32) → Int32 → Int32 → Int32 → Int32 → Option (Int32)) (hk_7 : ∀ (H : Heap) (locs : List Loc)  (z2 : Int32) (z3 : Int32) (z4 : Int32) (ls : Array Slot), va_P (dC, dI) vwCl (ob_wa o_f cI 42 f) H → va_D A (ob_wa o_f cI 42 f) → va_S A s.heap H locs → lv_has ls 6 [(0, .ref o_f), (1, .int x1), (2, .int z2), (3, .int z3), (4, .int z4)] → k_7 f x1 z2 z3 z4 = some (rr) → W p l e ({ frames := 2, cells := 0, slots := 0, locals := 44 } : Room) s m (List.toArray [.ref o_f, .int x1]) below meth c H locs 0 0 (MQ below ((ob_Qi (dC, dI) rr (ob_wa o_f cI 42 f)) A) (List.toArray [.ref o_f, .int x1]) s 0 0 A) (F0 m 7 ls [])), ∀ (H : Heap) (locs : List Loc)  (z2 : Int32) (z3 : Int32) (z4 : Int32) (v0 : Int32) (ls : Array Slot), va_P (dC, dI) vwCl (ob_wa o_f cI 42 f) H → va_D A (ob_wa o_f cI 42 f) → va_S A s.heap H locs → lv_has ls 6 [(0, .ref o_f), (1, .int x1), (2, .int z2), (3, .int z3), (4, .int z4)] → fd_X5_pullerOf_L34 k_7 f x1 z2 z3 z4 v0 = some (rr) → W p l e ({ frames := 2, cells := 0, slots := 0, locals := 44 } : Room) s m (List.toArray [.ref o_f, .int x1]) below meth c H locs 0 0 (MQ below ((ob_Qi (dC, dI) rr (ob_wa o_f cI 42 f)) A) (List.toArray [.ref o_f, .int x1]) s 0 0 A) (F0 m 34 ls [.int v0]) := by
    intro k_7 hk_7 H locs z2 z3 z4 v0 ls hP hD hS hl hd
    rw [fd_X5_pullerOf_L34] at hd
    refine lv_istore (lv' := [(5, .int v0), (0, .ref o_f), (1, .int x1), (2, .int z2), (3, .int z3), (4, .int z4)]) hx hb dX5_pullerOf_34 hl (by decide) rfl (fun ls hl => ?_)
    refine lv_iload hx hb dX5_pullerOf_36 (lv_at hl 0 rfl) ?_
    refine lv_iload_n hx hb dX5_pullerOf_38 rfl (lv_at hl 4 rfl) ?_
    refine lv_icmp_le (tgt := 47) hx hb dX5_pullerOf_39 (by decide) (fun c_39 => ?_) (fun c_39 => ?_)
    · replace hd := ob_t c_39 hd
      refine lv_iload_n hx hb dX5_pullerOf_47 rfl (lv_at hl 3 rfl) ?_
      exact L48 k_7 hk_7  _ _ z3 z4 v0 z2 _ hP hD hS (lv_sub hl [1, 2, 4, 5, 0] rfl) hd
    · replace hd := ob_f c_39 hd
      refine lv_iload hx hb dX5_pullerOf_42 (lv_at hl 5 rfl) ?_
      refine lv_goto (tgt := 48) hx hb dX5_pullerOf_44 (by decide) ?_
      exact L48 k_7 hk_7  _ _ z3 z4 v0 z4 _ hP hD hS (lv_sub hl [1, 2, 4, 5, 0] rfl) hd
  have L7 : ∀  (fu : Nat), ∀ (H : Heap) (locs : List Loc)  (z2 : Int32) (z3 : Int32) (z4 : Int32) (ls : Array Slot), va_P (dC, dI) vwCl (ob_wa o_f cI 42 f) H → va_D A (ob_wa o_f cI 42 f) → va_S A s.heap H locs → lv_has ls 6 [(0, .ref o_f), (1, .int x1), (2, .int z2), (3, .int z3), (4, .int z4)] → fd_X5_pullerOf_L7 fu f x1 z2 z3 z4 = some (rr) → W p l e ({ frames := 2, cells := 0, slots := 0, locals := 44 } : Room) s m (List.toArray [.ref o_f, .int x1]) below meth c H locs 0 0 (MQ below ((ob_Qi (dC, dI) rr (ob_wa o_f cI 42 f)) A) (List.toArray [.ref o_f, .int x1]) s 0 0 A) (F0 m 7 ls []) := by
    intro  fu
    induction fu with
    | zero =>
      intro H locs z2 z3 z4 ls hP hD hS hl hd
      rw [fd_X5_pullerOf_L7] at hd
      cases hd
    | succ fu ih =>
      intro H locs z2 z3 z4 ls hP hD hS hl hd
      rw [fd_X5_pullerOf_L7] at hd
      refine lv_iload hx hb dX5_pullerOf_7 (lv_at hl 4 rfl) ?_
      refine lv_aload_n hx hb dX5_pullerOf_9 rfl (lv_at hl 0 rfl) ?_
      refine lv_iconst (v := 2) hx hb dX5_pullerOf_10 (by decide) ?_
      refine va_iald hx hb hK hP 0 0 rfl rfl (by unfold vp_in; decide) dX5_pullerOf_11 ?_
      refine lv_icmp_ge (tgt := 68) hx hb dX5_pullerOf_12 (by decide) (fun c_12 => ?_) (fun c_12 => ?_)
      · replace hd := ob_t c_12 hd
        refine lv_iload_n hx hb dX5_pullerOf_68 rfl (lv_at hl 2 rfl) ?_
        have e1 := Option.some.inj hd
        subst e1
        exact ob_iret hx hb hr hlocks hP hD hS dX5_pullerOf_69
      · replace hd := ob_f c_12 hd
        refine lv_iload_n hx hb dX5_pullerOf_15 rfl (lv_at hl 1 rfl) ?_
        refine lv_iload hx hb dX5_pullerOf_16 (lv_at hl 4 rfl) ?_
        obtain ⟨r_1, hc_18, hd⟩ := ob_s1 hd
        refine ob_Si (isC := []) (isR := [0]) (is2 := [0]) (wc := ([] : va_W)) (wr := (List.filterMap (fun i => (ob_wa o_f cI 42 f)[i]?) [0])) (w1 := ([] : va_W)) (w2 := (ob_wa o_f cI 42 f)) (As := [.int x1, .int z4]) (rest := []) ⟨hx, hb, hml, hown, hts⟩ (mt_X5_has l dC dI cI cZ cR cW xs _ x1 z4 r_1 hc_18) (va_cwS 2 hts gX5_pullerOf_X5_has rfl rfl rfl (by decide +kernel) ⟨Nat.le_of_ble_eq_true rfl, Nat.le_of_ble_eq_true rfl⟩) hK hE hP hD hS hA ⟨rfl, rfl, rfl, rfl, rfl, rfl, rfl⟩ hl rfl rfl (Nat.le_of_ble_eq_true rfl) ⟨Nat.le_of_ble_eq_true rfl, Nat.le_of_ble_eq_true rfl⟩ dX5_pullerOf_18 (fun H locs hP hD hS => ?_)
        refine W.widen (k := 0) (n := 0) (Nat.le_refl _) (Nat.le_refl _) ?_
        refine lv_if_eq (tgt := 28) hx hb dX5_pullerOf_21 (by decide) (fun c_21 => ?_) (fun c_21 => ?_)
        · replace hd := ob_t c_21 hd
          refine lv_aload_n hx hb dX5_pullerOf_28 rfl (lv_at hl 0 rfl) ?_
          refine lv_iload hx hb dX5_pullerOf_29 (lv_at hl 4 rfl) ?_
          obtain ⟨r_2, hc_31, hd⟩ := ob_s1 hd
          refine ob_Si (isC := [0]) (isR := []) (is2 := [0]) (wc := (ob_wa o_f cI 42 f)) (wr := ([] : va_W)) (w1 := (ob_wa o_f cI 42 f)) (w2 := (ob_wa o_f cI 42 f)) (As := [.ref o_f, .int z4]) (rest := []) ⟨hx, hb, hml, hown, hts⟩ (mt_X5_pullOf l dC dI cI cZ cR cW xs _ o_f f z4 r_2 hc_31) (va_cwS 2 hts gX5_pullerOf_X5_pullOf rfl rfl rfl (by decide +kernel) ⟨Nat.le_of_ble_eq_true rfl, Nat.le_of_ble_eq_true rfl⟩) hK hE hP hD hS hA ⟨rfl, rfl, rfl, rfl, rfl, rfl, rfl⟩ hl rfl rfl (Nat.le_of_ble_eq_true rfl) ⟨Nat.le_of_ble_eq_true rfl, Nat.le_of_ble_eq_true rfl⟩ dX5_pullerOf_31 (fun H locs hP hD hS => ?_)
          refine W.widen (k := 0) (n := 0) (Nat.le_refl _) (Nat.le_refl _) ?_
          exact L34 (fd_X5_pullerOf_L7 fu) ih  _ _ z2 z3 z4 r_2 _ hP hD hS (lv_sub hl [0, 1, 2, 3, 4] rfl) hd
        · replace hd := ob_f c_21 hd
          refine lv_iconst (v := 0) hx hb dX5_pullerOf_24 (by decide) ?_
          refine lv_goto (tgt := 34) hx hb dX5_pullerOf_25 (by decide) ?_
          exact L34 (fd_X5_pullerOf_L7 fu) ih  _ _ z2 z3 z4 0 _ hP hD hS (lv_sub hl [0, 1, 2, 3, 4] rfl) hd
  refine lv_iconst (v := (-1)) hx hb dX5_pullerOf_0 (by decide) ?_
  refine lv_istore_n (lv' := [(2, .int (-1)), (0, .ref o_f), (1, .int x1)]) hx hb dX5_pullerOf_1 rfl hl (by decide) rfl (fun ls hl => ?_)
  refine lv_iconst (v := 0) hx hb dX5_pullerOf_2 (by decide) ?_
  refine lv_istore_n (lv' := [(3, .int 0), (2, .int (-1)), (0, .ref o_f), (1, .int x1)]) hx hb dX5_pullerOf_3 rfl hl (by decide) rfl (fun ls hl => ?_)
  refine lv_iconst (v := 0) hx hb dX5_pullerOf_4 (by decide) ?_
  refine lv_istore (lv' := [(4, .int 0), (3, .int 0), (2, .int (-1)), (0, .ref o_f), (1, .int x1)]) hx hb dX5_pullerOf_5 hl (by decide) rfl (fun ls hl => ?_)
  exact L7  2000 _ _ (-1) 0 0 _ hP hD hS (lv_sub hl [3, 4, 2, 1, 0] rfl) hd

def fd_X5_towards  (f : (Nat → Int32)) (x1 : Int32) : Option (Int32) := ob_lt (f (Int32.toNatClampNeg 0) : Int32) (fun x_1 => if x1 < 0 then (some (x_1)) else (if (14 + x1) < 0 ∨ 42 ≤ Int32.toNatClampNeg (14 + x1) then none else (if (f (Int32.toNatClampNeg (14 + x1))) = x_1 then (some (x_1)) else (if (14 + x1) < 0 ∨ 42 ≤ Int32.toNatClampNeg (14 + x1) then none else (if (f (Int32.toNatClampNeg (14 + x1))) ≤ x_1 then (some (x_1 - 1)) else (some (x_1 + 1)))))))
set_option maxHeartbeats 4000000 in
set_option maxRecDepth 100000 in
theorem mt_X5_towards (l : Launch) (dC : Nat → ClassId) (dI : Nat → Nat → Nat) (cI cZ cR cW : ClassId) (xs : Nat → Nat) (sz : Nat) (o_f : Nat) (f : (Nat → Int32)) (x1 : Int32)  (rr : Int32) (hd : fd_X5_towards f x1 = some (rr)) : ob_M l yX5_towards wsX5_towards ({ frames := 0, cells := 0, slots := 0, locals := 0 } : Room) (dC, dI) (ob_ty cI cZ cR cW) xs [.ref o_f, .int x1] (ob_wa o_f cI 42 f) sz (ob_Qi (dC, dI) rr (ob_wa o_f cI 42 f)) := by
  rw [fd_X5_towards] at hd
  refine ob_in (cc := cX5_towards) (maxL := 3) (ret := (some .int)) (own := RX5) (by decide) rfl rfl [(0, .ref o_f), (1, .int x1)] rfl (Nat.le_of_ble_eq_true rfl) ?_
  intro p e s m below meth c hx hb hr hml hown hts hlocks hnm hK A hA hE hP hD hS ls hl
  refine lv_aload_n hx hb dX5_towards_0 rfl (lv_at hl 0 rfl) ?_
  refine lv_iconst (v := 0) hx hb dX5_towards_1 (by decide) ?_
  refine va_iald hx hb hK hP 0 0 rfl rfl (by unfold vp_in; decide) dX5_towards_2 ?_
  refine lv_topi (fun x_1 ex_1 => ?_)
  replace hd := ob_lx ex_1 hd
  clear ex_1
  refine lv_istore_n (lv' := [(2, .int x_1), (0, .ref o_f), (1, .int x1)]) hx hb dX5_towards_3 rfl hl (by decide) rfl (fun ls hl => ?_)
  refine lv_iload_n hx hb dX5_towards_4 rfl (lv_at hl 2 rfl) ?_
  refine lv_if_lt (tgt := 18) hx hb dX5_towards_5 (by decide) (fun c_5 => ?_) (fun c_5 => ?_)
  · replace hd := ob_t c_5 hd
    refine lv_iload_n hx hb dX5_towards_18 rfl (lv_at hl 0 rfl) ?_
    refine lv_goto (tgt := 41) hx hb dX5_towards_19 (by decide) ?_
    have e1 := Option.some.inj hd
    subst e1
    exact ob_iret hx hb hr hlocks hP hD hS dX5_towards_41
  · replace hd := ob_f c_5 hd
    refine lv_aload_n hx hb dX5_towards_8 rfl (lv_at hl 1 rfl) ?_
    refine lv_bipush (v := 14) hx hb dX5_towards_9 (by decide) ?_
    refine lv_iload_n hx hb dX5_towards_11 rfl (lv_at hl 2 rfl) ?_
    refine lv_iadd hx hb dX5_towards_12 ?_
    obtain ⟨h1_13, hd⟩ := ob_nn hd
    refine va_iald hx hb hK hP 0 0 rfl rfl h1_13 dX5_towards_13 ?_
    refine lv_iload_n hx hb dX5_towards_14 rfl (lv_at hl 0 rfl) ?_
    refine lv_icmp_ne (tgt := 22) hx hb dX5_towards_15 (by decide) (fun c_15 => ?_) (fun c_15 => ?_)
    · replace hd := ob_f c_15 hd
      refine lv_aload_n hx hb dX5_towards_22 rfl (lv_at hl 1 rfl) ?_
      refine lv_bipush (v := 14) hx hb dX5_towards_23 (by decide) ?_
      refine lv_iload_n hx hb dX5_towards_25 rfl (lv_at hl 2 rfl) ?_
      refine lv_iadd hx hb dX5_towards_26 ?_
      obtain ⟨h1_27, hd⟩ := ob_nn hd
      refine va_iald hx hb hK hP 0 0 rfl rfl h1_27 dX5_towards_27 ?_
      refine lv_iload_n hx hb dX5_towards_28 rfl (lv_at hl 0 rfl) ?_
      refine lv_icmp_le (tgt := 38) hx hb dX5_towards_29 (by decide) (fun c_29 => ?_) (fun c_29 => ?_)
      · replace hd := ob_t c_29 hd
        refine lv_iload_n hx hb dX5_towards_38 rfl (lv_at hl 0 rfl) ?_
        refine lv_iconst (v := 1) hx hb dX5_towards_39 (by decide) ?_
        refine lv_isub hx hb dX5_towards_40 ?_
        have e1 := Option.some.inj hd
        subst e1
        exact ob_iret hx hb hr hlocks hP hD hS dX5_towards_41
      · replace hd := ob_f c_29 hd
        refine lv_iload_n hx hb dX5_towards_32 rfl (lv_at hl 0 rfl) ?_
        refine lv_iconst (v := 1) hx hb dX5_towards_33 (by decide) ?_
        refine lv_iadd hx hb dX5_towards_34 ?_
        refine lv_goto (tgt := 41) hx hb dX5_towards_35 (by decide) ?_
        have e1 := Option.some.inj hd
        subst e1
        exact ob_iret hx hb hr hlocks hP hD hS dX5_towards_41
    · replace hd := ob_t c_15 hd
      refine lv_iload_n hx hb dX5_towards_18 rfl (lv_at hl 0 rfl) ?_
      refine lv_goto (tgt := 41) hx hb dX5_towards_19 (by decide) ?_
      have e1 := Option.some.inj hd
      subst e1
      exact ob_iret hx hb hr hlocks hP hD hS dX5_towards_41

def fd_X5_pass_L86 (k_16 : (Nat → Int32) → Int32 → Int32 → Option (Int32 × (Nat → Int32))) (f : (Nat → Int32)) (z1 : Int32) (z2 : Int32) (v0 : Int32) : Option (Int32 × (Nat → Int32)) := if v0 < 0 ∨ 42 ≤ Int32.toNatClampNeg v0 then none else (ob_lt ((f (Int32.toNatClampNeg v0)) + 1 : Int32) (fun x_14 => if v0 < 0 ∨ 42 ≤ Int32.toNatClampNeg v0 then none else (ob_lt (upd f (Int32.toNatClampNeg v0) x_14 : (Nat → Int32)) (fun f_15 => ob_lt (z1 ||| (1 <<< (z2 &&& 31)) : Int32) (fun x_16 => ob_lt (z2 + 1 : Int32) (fun x_17 => k_16 f_15 x_16 x_17))))))
def fd_X5_pass_L74 (k_16 : (Nat → Int32) → Int32 → Int32 → Option (Int32 × (Nat → Int32))) (f : (Nat → Int32)) (z1 : Int32) (z2 : Int32) (z3 : Int32) (v0 : Int32) (v1 : Int32) : Option (Int32 × (Nat → Int32)) := if v1 < 0 ∨ 42 ≤ Int32.toNatClampNeg v1 then none else (ob_lt (upd f (Int32.toNatClampNeg v1) v0 : (Nat → Int32)) (fun f_8 => if z3 = 0 then (fd_X5_pass_L86 k_16 f_8 z1 z2 5) else (fd_X5_pass_L86 k_16 f_8 z1 z2 6)))
def fd_X5_pass_L59 (k_16 : (Nat → Int32) → Int32 → Int32 → Option (Int32 × (Nat → Int32))) (f : (Nat → Int32)) (z1 : Int32) (z2 : Int32) (v0 : Int32) : Option (Int32 × (Nat → Int32)) := if v0 = 0 then (fd_X5_pass_L74 k_16 f z1 z2 v0 1 (35 + z2)) else (fd_X5_pass_L74 k_16 f z1 z2 v0 2 (35 + z2))
def fd_X5_pass_L159 (k_112 : (Nat → Int32) → Int32 → Int32 → Option (Int32 × (Nat → Int32))) (f : (Nat → Int32)) (z1 : Int32) (z2 : Int32) (v0 : Int32) : Option (Int32 × (Nat → Int32)) := if v0 = 0 then (if (35 + z2) < 0 ∨ 42 ≤ Int32.toNatClampNeg (35 + z2) then none else (ob_lt (f (Int32.toNatClampNeg (35 + z2)) : Int32) (fun x_9 => if (35 + z2) < 0 ∨ 42 ≤ Int32.toNatClampNeg (35 + z2) then none else (ob_lt (upd f (Int32.toNatClampNeg (35 + z2)) x_9 : (Nat → Int32)) (fun f_10 => ob_lt (z2 + 1 : Int32) (fun x_11 => k_112 f_10 z1 x_11)))))) else (if (35 + z2) < 0 ∨ 42 ≤ Int32.toNatClampNeg (35 + z2) then none else (ob_lt (upd f (Int32.toNatClampNeg (35 + z2)) 0 : (Nat → Int32)) (fun f_12 => ob_lt (z2 + 1 : Int32) (fun x_13 => k_112 f_12 z1 x_13))))
def fd_X5_pass_L158 (k_112 : (Nat → Int32) → Int32 → Int32 → Option (Int32 × (Nat → Int32))) (f : (Nat → Int32)) (z1 : Int32) (z2 : Int32) : Option (Int32 × (Nat → Int32)) := fd_X5_pass_L159 k_112 f z1 z2 0
def fd_X5_pass_L112  : Nat → (Nat → Int32) → Int32 → Int32 → Option (Int32 × (Nat → Int32))
  | 0, _, _, _ => none
  | fu + 1, f, z1, z2 => if (f (Int32.toNatClampNeg 2)) ≤ z2 then (some (z1, f)) else (if (7 + z2) < 0 ∨ 42 ≤ Int32.toNatClampNeg (7 + z2) then none else (if (f (Int32.toNatClampNeg (7 + z2))) = 5 then (if (35 + z2) < 0 ∨ 42 ≤ Int32.toNatClampNeg (35 + z2) then none else (if (f (Int32.toNatClampNeg (35 + z2))) = 1 then (if (21 + z2) < 0 ∨ 42 ≤ Int32.toNatClampNeg (21 + z2) then none else (if ((f (Int32.toNatClampNeg (21 + z2))) + 1) = 0 then none else (if ((f (Int32.toNatClampNeg 3)) - (f (Int32.toNatClampNeg 3)) / ((f (Int32.toNatClampNeg (21 + z2))) + 1) * ((f (Int32.toNatClampNeg (21 + z2))) + 1)) = 0 then (fd_X5_pass_L159 (fd_X5_pass_L112 fu) f z1 z2 1) else (fd_X5_pass_L158 (fd_X5_pass_L112 fu) f z1 z2)))) else (fd_X5_pass_L158 (fd_X5_pass_L112 fu) f z1 z2))) else (fd_X5_pass_L158 (fd_X5_pass_L112 fu) f z1 z2)))
def fd_X5_pass_L103  (f : (Nat → Int32)) (z1 : Int32) : Option (Int32 × (Nat → Int32)) := ob_lt ((f (Int32.toNatClampNeg 3)) + 1 : Int32) (fun x_6 => ob_lt (upd f (Int32.toNatClampNeg 3) x_6 : (Nat → Int32)) (fun f_7 => fd_X5_pass_L112 2000 f_7 z1 0))
def fd_X5_pass_L16  : Nat → (Nat → Int32) → Int32 → Int32 → Option (Int32 × (Nat → Int32))
  | 0, _, _, _ => none
  | fu + 1, f, z1, z2 => if (f (Int32.toNatClampNeg 2)) ≤ z2 then (fd_X5_pass_L103 f z1) else (if (35 + z2) < 0 ∨ 42 ≤ Int32.toNatClampNeg (35 + z2) then none else (if (f (Int32.toNatClampNeg (35 + z2))) = 0 then (if (14 + z2) < 0 ∨ 42 ≤ Int32.toNatClampNeg (14 + z2) then none else (if (f (Int32.toNatClampNeg (14 + z2))) = (f (Int32.toNatClampNeg 0)) then (if (7 + z2) < 0 ∨ 42 ≤ Int32.toNatClampNeg (7 + z2) then none else (if (f (Int32.toNatClampNeg (7 + z2))) = 4 then (fd_X5_pass_L59 (fd_X5_pass_L16 fu) f z1 z2 1) else (fd_X5_pass_L59 (fd_X5_pass_L16 fu) f z1 z2 0))) else (ob_lt (z2 + 1 : Int32) (fun x_5 => fd_X5_pass_L16 fu f z1 x_5)))) else (ob_lt (z2 + 1 : Int32) (fun x_4 => fd_X5_pass_L16 fu f z1 x_4))))
def fd_X5_pass  (f : (Nat → Int32))  : Option (Int32 × (Nat → Int32)) := ob_b1 (fd_X5_pullerOf f 0) (fun r_1 => ob_b1 (fd_X5_towards f r_1) (fun r_2 => ob_lt (upd f (Int32.toNatClampNeg 0) r_2 : (Nat → Int32)) (fun f_3 => fd_X5_pass_L16 2000 f_3 0 0)))
set_option maxHeartbeats 4000000 in
set_option maxRecDepth 100000 in
theorem mt_X5_pass (l : Launch) (dC : Nat → ClassId) (dI : Nat → Nat → Nat) (cI cZ cR cW : ClassId) (xs : Nat → Nat) (sz : Nat) (o_f : Nat) (f : (Nat → Int32))   (rr : Int32) (f' : (Nat → Int32)) (hd : fd_X5_pass f = some (rr, f')) : ob_M l yX5_pass wsX5_pass ({ frames := 3, cells := 0, slots := 0, locals := 69 } : Room) (dC, dI) (ob_ty cI cZ cR cW) xs [.ref o_f] (ob_wa o_f cI 42 f) sz (ob_Qi (dC, dI) rr (ob_wa o_f cI 42 f')) := by
  rw [fd_X5_pass] at hd
  refine ob_in (cc := cX5_pass) (maxL := 4) (ret := (some .int)) (own := RX5) (by decide) rfl rfl [(0, .ref o_f)] rfl (Nat.le_of_ble_eq_true rfl) ?_
  intro p e s m below meth c hx hb hr hml hown hts hlocks hnm hK A hA hE hP hD hS ls hl
  have L86 : ∀ (k_16 : (Nat → Int32) → Int32 → Int32 → Option (Int32 × (Nat → Int32))) (hk_16 : ∀ (H : Heap) (locs : List Loc) (f : (Nat → Int32)) (z1 : Int32) (z2 : Int32) (ls : Array Slot), va_P (dC, dI) vwCl (ob_wa o_f cI 42 f) H → va_D A (ob_wa o_f cI 42 f) → va_S A s.heap H locs → lv_has ls 4 [(0, .ref o_f), (1, .int z1), (2, .int z2)] → k_16 f z1 z2 = some (rr, f') → W p l e ({ frames := 3, cells := 0, slots := 0, locals := 69 } : Room) s m (List.toArray [.ref o_f]) below meth c H locs 0 0 (MQ below ((ob_Qi (dC, dI) rr (ob_wa o_f cI 42 f')) A) (List.toArray [.ref o_f]) s 0 0 A) (F0 m 16 ls [])), ∀ (H : Heap) (locs : List Loc) (f : (Nat → Int32)) (z1 : Int32) (z2 : Int32) (v0 : Int32) (ls : Array Slot), va_P (dC, dI) vwCl (ob_wa o_f cI 42 f) H → va_D A (ob_wa o_f cI 42 f) → va_S A s.heap H locs → lv_has ls 4 [(0, .ref o_f), (1, .int z1), (2, .int z2)] → fd_X5_pass_L86 k_16 f z1 z2 v0 = some (rr, f') → W p l e ({ frames := 3, cells := 0, slots := 0, locals := 69 } : Room) s m (List.toArray [.ref o_f]) below meth c H locs 0 0 (MQ below ((ob_Qi (dC, dI) rr (ob_wa o_f cI 42 f')) A) (List.toArray [.ref o_f]) s 0 0 A) (F0 m 86 ls [.int v0, .ref o_f]) := by
    intro k_16 hk_16 H locs f z1 z2 v0 ls hP hD hS hl hd
    rw [fd_X5_pass_L86] at hd
    refine lv_dup2_11 hx hb dX5_pass_86 rfl rfl ?_
    obtain ⟨h1_87, hd⟩ := ob_nn hd
    refine va_iald hx hb hK hP 0 0 rfl rfl h1_87 dX5_pass_87 ?_
    refine lv_iconst (v := 1) hx hb dX5_pass_88 (by decide) ?_
    refine lv_iadd hx hb dX5_pass_89 ?_
    refine lv_topi (fun x_14 ex_14 => ?_)
    replace hd := ob_lx ex_14 hd
    clear ex_14
    obtain ⟨h1_90, hd⟩ := ob_nn hd
    refine va_iast hx hb hK hP hD hS 0 0 rfl rfl h1_90 dX5_pass_90 (fun H locs hP hD hS => ?_)
    obtain ⟨f_15, ef_15⟩ : ∃ z : (Nat → Int32), z = upd f (Int32.toNatClampNeg v0) x_14 := ⟨_, rfl⟩
    replace hd := ob_lx ef_15 hd
    replace hP : va_P (dC, dI) vwCl (ob_wa o_f cI 42 f_15) H := by rw [ef_15]; exact hP
    replace hD : va_D A (ob_wa o_f cI 42 f_15) := by rw [ef_15]; exact hD
    clear ef_15
    refine lv_iload_n hx hb dX5_pass_91 rfl (lv_at hl 1 rfl) ?_
    refine lv_iconst (v := 1) hx hb dX5_pass_92 (by decide) ?_
    refine lv_iload_n hx hb dX5_pass_93 rfl (lv_at hl 2 rfl) ?_
    refine lv_ishl hx hb dX5_pass_94 ?_
    refine lv_ior hx hb dX5_pass_95 ?_
    refine lv_topi (fun x_16 ex_16 => ?_)
    replace hd := ob_lx ex_16 hd
    clear ex_16
    refine lv_istore_n (lv' := [(1, .int x_16), (0, .ref o_f), (2, .int z2)]) hx hb dX5_pass_96 rfl hl (by decide) rfl (fun ls hl => ?_)
    obtain ⟨x_17, ex_17⟩ : ∃ z : Int32, z = z2 + 1 := ⟨_, rfl⟩
    replace hd := ob_lx ex_17 hd
    refine lv_iinc (v := x_17) (lv' := [(2, .int x_17), (1, .int x_16), (0, .ref o_f)]) hx hb dX5_pass_97 hl (k := 2) rfl (by rw [ex_17]; rfl) (by decide) rfl (fun ls hl => ?_)
    clear ex_17
    refine lv_goto (tgt := 16) hx hb dX5_pass_100 (by decide) ?_
    exact hk_16 _ _ f_15 x_16 x_17 _ hP hD hS (lv_sub hl [2, 1, 0] rfl) hd
  have L74 : ∀ (k_16 : (Nat → Int32) → Int32 → Int32 → Option (Int32 × (Nat → Int32))) (hk_16 : ∀ (H : Heap) (locs : List Loc) (f : (Nat → Int32)) (z1 : Int32) (z2 : Int32) (ls : Array Slot), va_P (dC, dI) vwCl (ob_wa o_f cI 42 f) H → va_D A (ob_wa o_f cI 42 f) → va_S A s.heap H locs → lv_has ls 4 [(0, .ref o_f), (1, .int z1), (2, .int z2)] → k_16 f z1 z2 = some (rr, f') → W p l e ({ frames := 3, cells := 0, slots := 0, locals := 69 } : Room) s m (List.toArray [.ref o_f]) below meth c H locs 0 0 (MQ below ((ob_Qi (dC, dI) rr (ob_wa o_f cI 42 f')) A) (List.toArray [.ref o_f]) s 0 0 A) (F0 m 16 ls [])), ∀ (H : Heap) (locs : List Loc) (f : (Nat → Int32)) (z1 : Int32) (z2 : Int32) (z3 : Int32) (v0 : Int32) (v1 : Int32) (ls : Array Slot), va_P (dC, dI) vwCl (ob_wa o_f cI 42 f) H → va_D A (ob_wa o_f cI 42 f) → va_S A s.heap H locs → lv_has ls 4 [(0, .ref o_f), (1, .int z1), (2, .int z2), (3, .int z3)] → fd_X5_pass_L74 k_16 f z1 z2 z3 v0 v1 = some (rr, f') → W p l e ({ frames := 3, cells := 0, slots := 0, locals := 69 } : Room) s m (List.toArray [.ref o_f]) below meth c H locs 0 0 (MQ below ((ob_Qi (dC, dI) rr (ob_wa o_f cI 42 f')) A) (List.toArray [.ref o_f]) s 0 0 A) (F0 m 74 ls [.int v0, .int v1, .ref o_f]) := by
    intro k_16 hk_16 H locs f z1 z2 z3 v0 v1 ls hP hD hS hl hd
    rw [fd_X5_pass_L74] at hd
    obtain ⟨h1_74, hd⟩ := ob_nn hd
    refine va_iast hx hb hK hP hD hS 0 0 rfl rfl h1_74 dX5_pass_74 (fun H locs hP hD hS => ?_)
    obtain ⟨f_8, ef_8⟩ : ∃ z : (Nat → Int32), z = upd f (Int32.toNatClampNeg v1) v0 := ⟨_, rfl⟩
    replace hd := ob_lx ef_8 hd
    replace hP : va_P (dC, dI) vwCl (ob_wa o_f cI 42 f_8) H := by rw [ef_8]; exact hP
    replace hD : va_D A (ob_wa o_f cI 42 f_8) := by rw [ef_8]; exact hD
    clear ef_8
    refine lv_aload_n hx hb dX5_pass_75 rfl (lv_at hl 0 rfl) ?_
    refine lv_iload_n hx hb dX5_pass_76 rfl (lv_at hl 3 rfl) ?_
    refine lv_if_eq (tgt := 85) hx hb dX5_pass_77 (by decide) (fun c_77 => ?_) (fun c_77 => ?_)
    · replace hd := ob_t c_77 hd
      refine lv_iconst (v := 5) hx hb dX5_pass_85 (by decide) ?_
      exact L86 k_16 hk_16  _ _ f_8 z1 z2 5 _ hP hD hS (lv_sub hl [0, 1, 2] rfl) hd
    · replace hd := ob_f c_77 hd
      refine lv_bipush (v := 6) hx hb dX5_pass_80 (by decide) ?_
      refine lv_goto (tgt := 86) hx hb dX5_pass_82 (by decide) ?_
      exact L86 k_16 hk_16  _ _ f_8 z1 z2 6 _ hP hD hS (lv_sub hl [0, 1, 2] rfl) hd
  have L59 : ∀ (k_16 : (Nat → Int32) → Int32 → Int32 → Option (Int32 × (Nat → Int32))) (hk_16 : ∀ (H : Heap) (locs : List Loc) (f : (Nat → Int32)) (z1 : Int32) (z2 : Int32) (ls : Array Slot), va_P (dC, dI) vwCl (ob_wa o_f cI 42 f) H → va_D A (ob_wa o_f cI 42 f) → va_S A s.heap H locs → lv_has ls 4 [(0, .ref o_f), (1, .int z1), (2, .int z2)] → k_16 f z1 z2 = some (rr, f') → W p l e ({ frames := 3, cells := 0, slots := 0, locals := 69 } : Room) s m (List.toArray [.ref o_f]) below meth c H locs 0 0 (MQ below ((ob_Qi (dC, dI) rr (ob_wa o_f cI 42 f')) A) (List.toArray [.ref o_f]) s 0 0 A) (F0 m 16 ls [])), ∀ (H : Heap) (locs : List Loc) (f : (Nat → Int32)) (z1 : Int32) (z2 : Int32) (v0 : Int32) (ls : Array Slot), va_P (dC, dI) vwCl (ob_wa o_f cI 42 f) H → va_D A (ob_wa o_f cI 42 f) → va_S A s.heap H locs → lv_has ls 4 [(0, .ref o_f), (1, .int z1), (2, .int z2)] → fd_X5_pass_L59 k_16 f z1 z2 v0 = some (rr, f') → W p l e ({ frames := 3, cells := 0, slots := 0, locals := 69 } : Room) s m (List.toArray [.ref o_f]) below meth c H locs 0 0 (MQ below ((ob_Qi (dC, dI) rr (ob_wa o_f cI 42 f')) A) (List.toArray [.ref o_f]) s 0 0 A) (F0 m 59 ls [.int v0]) := by
    intro k_16 hk_16 H locs f z1 z2 v0 ls hP hD hS hl hd
    rw [fd_X5_pass_L59] at hd
    refine lv_istore_n (lv' := [(3, .int v0), (0, .ref o_f), (1, .int z1), (2, .int z2)]) hx hb dX5_pass_59 rfl hl (by decide) rfl (fun ls hl => ?_)
    refine lv_aload_n hx hb dX5_pass_60 rfl (lv_at hl 1 rfl) ?_
    refine lv_bipush (v := 35) hx hb dX5_pass_61 (by decide) ?_
    refine lv_iload_n hx hb dX5_pass_63 rfl (lv_at hl 3 rfl) ?_
    refine lv_iadd hx hb dX5_pass_64 ?_
    refine lv_iload_n hx hb dX5_pass_65 rfl (lv_at hl 0 rfl) ?_
    refine lv_if_eq (tgt := 73) hx hb dX5_pass_66 (by decide) (fun c_66 => ?_) (fun c_66 => ?_)
    · replace hd := ob_t c_66 hd
      refine lv_iconst (v := 1) hx hb dX5_pass_73 (by decide) ?_
      exact L74 k_16 hk_16  _ _ f z1 z2 v0 1 (35 + z2) _ hP hD hS (lv_sub hl [1, 2, 3, 0] rfl) hd
    · replace hd := ob_f c_66 hd
      refine lv_iconst (v := 2) hx hb dX5_pass_69 (by decide) ?_
      refine lv_goto (tgt := 74) hx hb dX5_pass_70 (by decide) ?_
      exact L74 k_16 hk_16  _ _ f z1 z2 v0 2 (35 + z2) _ hP hD hS (lv_sub hl [1, 2, 3, 0] rfl) hd
  have L159 : ∀ (k_112 : (Nat → Int32) → Int32 → Int32 → Option (Int32 × (Nat → Int32))) (hk_112 : ∀ (H : Heap) (locs : List Loc) (f : (Nat → Int32)) (z1 : Int32) (z2 : Int32) (ls : Array Slot), va_P (dC, dI) vwCl (ob_wa o_f cI 42 f) H → va_D A (ob_wa o_f cI 42 f) → va_S A s.heap H locs → lv_has ls 4 [(0, .ref o_f), (1, .int z1), (2, .int z2)] → k_112 f z1 z2 = some (rr, f') → W p l e ({ frames := 3, cells := 0, slots := 0, locals := 69 } : Room) s m (List.toArray [.ref o_f]) below meth c H locs 0 0 (MQ below ((ob_Qi (dC, dI) rr (ob_wa o_f cI 42 f')) A) (List.toArray [.ref o_f]) s 0 0 A) (F0 m 112 ls [])), ∀ (H : Heap) (locs : List Loc) (f : (Nat → Int32)) (z1 : Int32) (z2 : Int32) (v0 : Int32) (ls : Array Slot), va_P (dC, dI) vwCl (ob_wa o_f cI 42 f) H → va_D A (ob_wa o_f cI 42 f) → va_S A s.heap H locs → lv_has ls 4 [(0, .ref o_f), (1, .int z1), (2, .int z2)] → fd_X5_pass_L159 k_112 f z1 z2 v0 = some (rr, f') → W p l e ({ frames := 3, cells := 0, slots := 0, locals := 69 } : Room) s m (List.toArray [.ref o_f]) below meth c H locs 0 0 (MQ below ((ob_Qi (dC, dI) rr (ob_wa o_f cI 42 f')) A) (List.toArray [.ref o_f]) s 0 0 A) (F0 m 159 ls [.int v0]) := by
    intro k_112 hk_112 H locs f z1 z2 v0 ls hP hD hS hl hd
    rw [fd_X5_pass_L159] at hd
    refine lv_istore_n (lv' := [(3, .int v0), (0, .ref o_f), (1, .int z1), (2, .int z2)]) hx hb dX5_pass_159 rfl hl (by decide) rfl (fun ls hl => ?_)
    refine lv_aload_n hx hb dX5_pass_160 rfl (lv_at hl 1 rfl) ?_
    refine lv_bipush (v := 35) hx hb dX5_pass_161 (by decide) ?_
    refine lv_iload_n hx hb dX5_pass_163 rfl (lv_at hl 3 rfl) ?_
    refine lv_iadd hx hb dX5_pass_164 ?_
    refine lv_iload_n hx hb dX5_pass_165 rfl (lv_at hl 0 rfl) ?_
    refine lv_if_eq (tgt := 173) hx hb dX5_pass_166 (by decide) (fun c_166 => ?_) (fun c_166 => ?_)
    · replace hd := ob_t c_166 hd
      refine lv_aload_n hx hb dX5_pass_173 rfl (lv_at hl 1 rfl) ?_
      refine lv_bipush (v := 35) hx hb dX5_pass_174 (by decide) ?_
      refine lv_iload_n hx hb dX5_pass_176 rfl (lv_at hl 3 rfl) ?_
      refine lv_iadd hx hb dX5_pass_177 ?_
      obtain ⟨h1_178, hd⟩ := ob_nn hd
      refine va_iald hx hb hK hP 0 0 rfl rfl h1_178 dX5_pass_178 ?_
      refine lv_topi (fun x_9 ex_9 => ?_)
      replace hd := ob_lx ex_9 hd
      clear ex_9
      obtain ⟨h1_179, hd⟩ := ob_nn hd
      refine va_iast hx hb hK hP hD hS 0 0 rfl rfl h1_179 dX5_pass_179 (fun H locs hP hD hS => ?_)
      obtain ⟨f_10, ef_10⟩ : ∃ z : (Nat → Int32), z = upd f (Int32.toNatClampNeg (35 + z2)) x_9 := ⟨_, rfl⟩
      replace hd := ob_lx ef_10 hd
      replace hP : va_P (dC, dI) vwCl (ob_wa o_f cI 42 f_10) H := by rw [ef_10]; exact hP
      replace hD : va_D A (ob_wa o_f cI 42 f_10) := by rw [ef_10]; exact hD
      clear ef_10
      obtain ⟨x_11, ex_11⟩ : ∃ z : Int32, z = z2 + 1 := ⟨_, rfl⟩
      replace hd := ob_lx ex_11 hd
      refine lv_iinc (v := x_11) (lv' := [(2, .int x_11), (3, .int v0), (0, .ref o_f), (1, .int z1)]) hx hb dX5_pass_180 hl (k := 3) rfl (by rw [ex_11]; rfl) (by decide) rfl (fun ls hl => ?_)
      clear ex_11
      refine lv_goto (tgt := 112) hx hb dX5_pass_183 (by decide) ?_
      exact hk_112 _ _ f_10 z1 x_11 _ hP hD hS (lv_sub hl [2, 3, 0] rfl) hd
    · replace hd := ob_f c_166 hd
      refine lv_iconst (v := 0) hx hb dX5_pass_169 (by decide) ?_
      refine lv_goto (tgt := 179) hx hb dX5_pass_170 (by decide) ?_
      obtain ⟨h1_179, hd⟩ := ob_nn hd
      refine va_iast hx hb hK hP hD hS 0 0 rfl rfl h1_179 dX5_pass_179 (fun H locs hP hD hS => ?_)
      obtain ⟨f_12, ef_12⟩ : ∃ z : (Nat → Int32), z = upd f (Int32.toNatClampNeg (35 + z2)) 0 := ⟨_, rfl⟩
      replace hd := ob_lx ef_12 hd
      replace hP : va_P (dC, dI) vwCl (ob_wa o_f cI 42 f_12) H := by rw [ef_12]; exact hP
      replace hD : va_D A (ob_wa o_f cI 42 f_12) := by rw [ef_12]; exact hD
      clear ef_12
      obtain ⟨x_13, ex_13⟩ : ∃ z : Int32, z = z2 + 1 := ⟨_, rfl⟩
      replace hd := ob_lx ex_13 hd
      refine lv_iinc (v := x_13) (lv' := [(2, .int x_13), (3, .int v0), (0, .ref o_f), (1, .int z1)]) hx hb dX5_pass_180 hl (k := 3) rfl (by rw [ex_13]; rfl) (by decide) rfl (fun ls hl => ?_)
      clear ex_13
      refine lv_goto (tgt := 112) hx hb dX5_pass_183 (by decide) ?_
      exact hk_112 _ _ f_12 z1 x_13 _ hP hD hS (lv_sub hl [2, 3, 0] rfl) hd
  have L158 : ∀ (k_112 : (Nat → Int32) → Int32 → Int32 → Option (Int32 × (Nat → Int32))) (hk_112 : ∀ (H : Heap) (locs : List Loc) (f : (Nat → Int32)) (z1 : Int32) (z2 : Int32) (ls : Array Slot), va_P (dC, dI) vwCl (ob_wa o_f cI 42 f) H → va_D A (ob_wa o_f cI 42 f) → va_S A s.heap H locs → lv_has ls 4 [(0, .ref o_f), (1, .int z1), (2, .int z2)] → k_112 f z1 z2 = some (rr, f') → W p l e ({ frames := 3, cells := 0, slots := 0, locals := 69 } : Room) s m (List.toArray [.ref o_f]) below meth c H locs 0 0 (MQ below ((ob_Qi (dC, dI) rr (ob_wa o_f cI 42 f')) A) (List.toArray [.ref o_f]) s 0 0 A) (F0 m 112 ls [])), ∀ (H : Heap) (locs : List Loc) (f : (Nat → Int32)) (z1 : Int32) (z2 : Int32) (ls : Array Slot), va_P (dC, dI) vwCl (ob_wa o_f cI 42 f) H → va_D A (ob_wa o_f cI 42 f) → va_S A s.heap H locs → lv_has ls 4 [(0, .ref o_f), (1, .int z1), (2, .int z2)] → fd_X5_pass_L158 k_112 f z1 z2 = some (rr, f') → W p l e ({ frames := 3, cells := 0, slots := 0, locals := 69 } : Room) s m (List.toArray [.ref o_f]) below meth c H locs 0 0 (MQ below ((ob_Qi (dC, dI) rr (ob_wa o_f cI 42 f')) A) (List.toArray [.ref o_f]) s 0 0 A) (F0 m 158 ls []) := by
    intro k_112 hk_112 H locs f z1 z2 ls hP hD hS hl hd
    rw [fd_X5_pass_L158] at hd
    refine lv_iconst (v := 0) hx hb dX5_pass_158 (by decide) ?_
    exact L159 k_112 hk_112  _ _ f z1 z2 0 _ hP hD hS (lv_sub hl [0, 1, 2] rfl) hd
  have L112 : ∀  (fu : Nat), ∀ (H : Heap) (locs : List Loc) (f : (Nat → Int32)) (z1 : Int32) (z2 : Int32) (ls : Array Slot), va_P (dC, dI) vwCl (ob_wa o_f cI 42 f) H → va_D A (ob_wa o_f cI 42 f) → va_S A s.heap H locs → lv_has ls 4 [(0, .ref o_f), (1, .int z1), (2, .int z2)] → fd_X5_pass_L112 fu f z1 z2 = some (rr, f') → W p l e ({ frames := 3, cells := 0, slots := 0, locals := 69 } : Room) s m (List.toArray [.ref o_f]) below meth c H locs 0 0 (MQ below ((ob_Qi (dC, dI) rr (ob_wa o_f cI 42 f')) A) (List.toArray [.ref o_f]) s 0 0 A) (F0 m 112 ls []) := by
    intro  fu
    induction fu with
    | zero =>
      intro H locs f z1 z2 ls hP hD hS hl hd
      rw [fd_X5_pass_L112] at hd
      cases hd
    | succ fu ih =>
      intro H locs f z1 z2 ls hP hD hS hl hd
      rw [fd_X5_pass_L112] at hd
      refine lv_iload_n hx hb dX5_pass_112 rfl (lv_at hl 2 rfl) ?_
      refine lv_aload_n hx hb dX5_pass_113 rfl (lv_at hl 0 rfl) ?_
      refine lv_iconst (v := 2) hx hb dX5_pass_114 (by decide) ?_
      refine va_iald hx hb hK hP 0 0 rfl rfl (by unfold vp_in; decide) dX5_pass_115 ?_
      refine lv_icmp_ge (tgt := 186) hx hb dX5_pass_116 (by decide) (fun c_116 => ?_) (fun c_116 => ?_)
      · replace hd := ob_t c_116 hd
        refine lv_iload_n hx hb dX5_pass_186 rfl (lv_at hl 1 rfl) ?_
        obtain ⟨e1, e2⟩ := ob_pp hd
        subst e1
        subst e2
        exact ob_iret hx hb hr hlocks hP hD hS dX5_pass_187
      · replace hd := ob_f c_116 hd
        refine lv_aload_n hx hb dX5_pass_119 rfl (lv_at hl 0 rfl) ?_
        refine lv_bipush (v := 7) hx hb dX5_pass_120 (by decide) ?_
        refine lv_iload_n hx hb dX5_pass_122 rfl (lv_at hl 2 rfl) ?_
        refine lv_iadd hx hb dX5_pass_123 ?_
        obtain ⟨h1_124, hd⟩ := ob_nn hd
        refine va_iald hx hb hK hP 0 0 rfl rfl h1_124 dX5_pass_124 ?_
        refine lv_iconst (v := 5) hx hb dX5_pass_125 (by decide) ?_
        refine lv_icmp_ne (tgt := 158) hx hb dX5_pass_126 (by decide) (fun c_126 => ?_) (fun c_126 => ?_)
        · replace hd := ob_f c_126 hd
          exact L158 (fd_X5_pass_L112 fu) ih  _ _ f z1 z2 _ hP hD hS (lv_sub hl [0, 1, 2] rfl) hd
        · replace hd := ob_t c_126 hd
          refine lv_aload_n hx hb dX5_pass_129 rfl (lv_at hl 0 rfl) ?_
          refine lv_bipush (v := 35) hx hb dX5_pass_130 (by decide) ?_
          refine lv_iload_n hx hb dX5_pass_132 rfl (lv_at hl 2 rfl) ?_
          refine lv_iadd hx hb dX5_pass_133 ?_
          obtain ⟨h1_134, hd⟩ := ob_nn hd
          refine va_iald hx hb hK hP 0 0 rfl rfl h1_134 dX5_pass_134 ?_
          refine lv_iconst (v := 1) hx hb dX5_pass_135 (by decide) ?_
          refine lv_icmp_ne (tgt := 158) hx hb dX5_pass_136 (by decide) (fun c_136 => ?_) (fun c_136 => ?_)
          · replace hd := ob_f c_136 hd
            exact L158 (fd_X5_pass_L112 fu) ih  _ _ f z1 z2 _ hP hD hS (lv_sub hl [0, 1, 2] rfl) hd
          · replace hd := ob_t c_136 hd
            refine lv_aload_n hx hb dX5_pass_139 rfl (lv_at hl 0 rfl) ?_
            refine lv_iconst (v := 3) hx hb dX5_pass_140 (by decide) ?_
            refine va_iald hx hb hK hP 0 0 rfl rfl (by unfold vp_in; decide) dX5_pass_141 ?_
            refine lv_aload_n hx hb dX5_pass_142 rfl (lv_at hl 0 rfl) ?_
            refine lv_bipush (v := 21) hx hb dX5_pass_143 (by decide) ?_
            refine lv_iload_n hx hb dX5_pass_145 rfl (lv_at hl 2 rfl) ?_
            refine lv_iadd hx hb dX5_pass_146 ?_
            obtain ⟨h1_147, hd⟩ := ob_nn hd
            refine va_iald hx hb hK hP 0 0 rfl rfl h1_147 dX5_pass_147 ?_
            refine lv_iconst (v := 1) hx hb dX5_pass_148 (by decide) ?_
            refine lv_iadd hx hb dX5_pass_149 ?_
            obtain ⟨h0_150, hd⟩ := ob_nn hd
            refine lv_irem hx hb dX5_pass_150 h0_150 ?_
            refine lv_if_ne (tgt := 158) hx hb dX5_pass_151 (by decide) (fun c_151 => ?_) (fun c_151 => ?_)
            · replace hd := ob_f c_151 hd
              exact L158 (fd_X5_pass_L112 fu) ih  _ _ f z1 z2 _ hP hD hS (lv_sub hl [0, 1, 2] rfl) hd
            · replace hd := ob_t c_151 hd
              refine lv_iconst (v := 1) hx hb dX5_pass_154 (by decide) ?_
              refine lv_goto (tgt := 159) hx hb dX5_pass_155 (by decide) ?_
              exact L159 (fd_X5_pass_L112 fu) ih  _ _ f z1 z2 1 _ hP hD hS (lv_sub hl [0, 1, 2] rfl) hd
  have L103 : ∀ (H : Heap) (locs : List Loc) (f : (Nat → Int32)) (z1 : Int32) (ls : Array Slot), va_P (dC, dI) vwCl (ob_wa o_f cI 42 f) H → va_D A (ob_wa o_f cI 42 f) → va_S A s.heap H locs → lv_has ls 4 [(0, .ref o_f), (1, .int z1)] → fd_X5_pass_L103 f z1 = some (rr, f') → W p l e ({ frames := 3, cells := 0, slots := 0, locals := 69 } : Room) s m (List.toArray [.ref o_f]) below meth c H locs 0 0 (MQ below ((ob_Qi (dC, dI) rr (ob_wa o_f cI 42 f')) A) (List.toArray [.ref o_f]) s 0 0 A) (F0 m 103 ls []) := by
    intro  H locs f z1 ls hP hD hS hl hd
    rw [fd_X5_pass_L103] at hd
    refine lv_aload_n hx hb dX5_pass_103 rfl (lv_at hl 0 rfl) ?_
    refine lv_iconst (v := 3) hx hb dX5_pass_104 (by decide) ?_
    refine lv_dup2_11 hx hb dX5_pass_105 rfl rfl ?_
    refine va_iald hx hb hK hP 0 0 rfl rfl (by unfold vp_in; decide) dX5_pass_106 ?_
    refine lv_iconst (v := 1) hx hb dX5_pass_107 (by decide) ?_
    refine lv_iadd hx hb dX5_pass_108 ?_
    refine lv_topi (fun x_6 ex_6 => ?_)
    replace hd := ob_lx ex_6 hd
    clear ex_6
    refine va_iast hx hb hK hP hD hS 0 0 rfl rfl (by unfold vp_in; decide) dX5_pass_109 (fun H locs hP hD hS => ?_)
    obtain ⟨f_7, ef_7⟩ : ∃ z : (Nat → Int32), z = upd f (Int32.toNatClampNeg 3) x_6 := ⟨_, rfl⟩
    replace hd := ob_lx ef_7 hd
    replace hP : va_P (dC, dI) vwCl (ob_wa o_f cI 42 f_7) H := by rw [ef_7]; exact hP
    replace hD : va_D A (ob_wa o_f cI 42 f_7) := by rw [ef_7]; exact hD
    clear ef_7
    refine lv_iconst (v := 0) hx hb dX5_pass_110 (by decide) ?_
    refine lv_istore_n (lv' := [(2, .int 0), (0, .ref o_f), (1, .int z1)]) hx hb dX5_pass_111 rfl hl (by decide) rfl (fun ls hl => ?_)
    exact L112  2000 _ _ f_7 z1 0 _ hP hD hS (lv_sub hl [1, 2, 0] rfl) hd
  have L16 : ∀  (fu : Nat), ∀ (H : Heap) (locs : List Loc) (f : (Nat → Int32)) (z1 : Int32) (z2 : Int32) (ls : Array Slot), va_P (dC, dI) vwCl (ob_wa o_f cI 42 f) H → va_D A (ob_wa o_f cI 42 f) → va_S A s.heap H locs → lv_has ls 4 [(0, .ref o_f), (1, .int z1), (2, .int z2)] → fd_X5_pass_L16 fu f z1 z2 = some (rr, f') → W p l e ({ frames := 3, cells := 0, slots := 0, locals := 69 } : Room) s m (List.toArray [.ref o_f]) below meth c H locs 0 0 (MQ below ((ob_Qi (dC, dI) rr (ob_wa o_f cI 42 f')) A) (List.toArray [.ref o_f]) s 0 0 A) (F0 m 16 ls []) := by
    intro  fu
    induction fu with
    | zero =>
      intro H locs f z1 z2 ls hP hD hS hl hd
      rw [fd_X5_pass_L16] at hd
      cases hd
    | succ fu ih =>
      intro H locs f z1 z2 ls hP hD hS hl hd
      rw [fd_X5_pass_L16] at hd
      refine lv_iload_n hx hb dX5_pass_16 rfl (lv_at hl 2 rfl) ?_
      refine lv_aload_n hx hb dX5_pass_17 rfl (lv_at hl 0 rfl) ?_
      refine lv_iconst (v := 2) hx hb dX5_pass_18 (by decide) ?_
      refine va_iald hx hb hK hP 0 0 rfl rfl (by unfold vp_in; decide) dX5_pass_19 ?_
      refine lv_icmp_ge (tgt := 103) hx hb dX5_pass_20 (by decide) (fun c_20 => ?_) (fun c_20 => ?_)
      · replace hd := ob_t c_20 hd
        exact L103   _ _ f z1 _ hP hD hS (lv_sub hl [0, 1] rfl) hd
      · replace hd := ob_f c_20 hd
        refine lv_aload_n hx hb dX5_pass_23 rfl (lv_at hl 0 rfl) ?_
        refine lv_bipush (v := 35) hx hb dX5_pass_24 (by decide) ?_
        refine lv_iload_n hx hb dX5_pass_26 rfl (lv_at hl 2 rfl) ?_
        refine lv_iadd hx hb dX5_pass_27 ?_
        obtain ⟨h1_28, hd⟩ := ob_nn hd
        refine va_iald hx hb hK hP 0 0 rfl rfl h1_28 dX5_pass_28 ?_
        refine lv_if_ne (tgt := 97) hx hb dX5_pass_29 (by decide) (fun c_29 => ?_) (fun c_29 => ?_)
        · replace hd := ob_f c_29 hd
          obtain ⟨x_4, ex_4⟩ : ∃ z : Int32, z = z2 + 1 := ⟨_, rfl⟩
          replace hd := ob_lx ex_4 hd
          refine lv_iinc (v := x_4) (lv' := [(2, .int x_4), (0, .ref o_f), (1, .int z1)]) hx hb dX5_pass_97 hl (k := 2) rfl (by rw [ex_4]; rfl) (by decide) rfl (fun ls hl => ?_)
          clear ex_4
          refine lv_goto (tgt := 16) hx hb dX5_pass_100 (by decide) ?_
          exact ih _ _ f z1 x_4 _ hP hD hS (lv_sub hl [1, 2, 0] rfl) hd
        · replace hd := ob_t c_29 hd
          refine lv_aload_n hx hb dX5_pass_32 rfl (lv_at hl 0 rfl) ?_
          refine lv_bipush (v := 14) hx hb dX5_pass_33 (by decide) ?_
          refine lv_iload_n hx hb dX5_pass_35 rfl (lv_at hl 2 rfl) ?_
          refine lv_iadd hx hb dX5_pass_36 ?_
          obtain ⟨h1_37, hd⟩ := ob_nn hd
          refine va_iald hx hb hK hP 0 0 rfl rfl h1_37 dX5_pass_37 ?_
          refine lv_aload_n hx hb dX5_pass_38 rfl (lv_at hl 0 rfl) ?_
          refine lv_iconst (v := 0) hx hb dX5_pass_39 (by decide) ?_
          refine va_iald hx hb hK hP 0 0 rfl rfl (by unfold vp_in; decide) dX5_pass_40 ?_
          refine lv_icmp_ne (tgt := 97) hx hb dX5_pass_41 (by decide) (fun c_41 => ?_) (fun c_41 => ?_)
          · replace hd := ob_f c_41 hd
            obtain ⟨x_5, ex_5⟩ : ∃ z : Int32, z = z2 + 1 := ⟨_, rfl⟩
            replace hd := ob_lx ex_5 hd
            refine lv_iinc (v := x_5) (lv' := [(2, .int x_5), (0, .ref o_f), (1, .int z1)]) hx hb dX5_pass_97 hl (k := 2) rfl (by rw [ex_5]; rfl) (by decide) rfl (fun ls hl => ?_)
            clear ex_5
            refine lv_goto (tgt := 16) hx hb dX5_pass_100 (by decide) ?_
            exact ih _ _ f z1 x_5 _ hP hD hS (lv_sub hl [1, 2, 0] rfl) hd
          · replace hd := ob_t c_41 hd
            refine lv_aload_n hx hb dX5_pass_44 rfl (lv_at hl 0 rfl) ?_
            refine lv_bipush (v := 7) hx hb dX5_pass_45 (by decide) ?_
            refine lv_iload_n hx hb dX5_pass_47 rfl (lv_at hl 2 rfl) ?_
            refine lv_iadd hx hb dX5_pass_48 ?_
            obtain ⟨h1_49, hd⟩ := ob_nn hd
            refine va_iald hx hb hK hP 0 0 rfl rfl h1_49 dX5_pass_49 ?_
            refine lv_iconst (v := 4) hx hb dX5_pass_50 (by decide) ?_
            refine lv_icmp_ne (tgt := 58) hx hb dX5_pass_51 (by decide) (fun c_51 => ?_) (fun c_51 => ?_)
            · replace hd := ob_f c_51 hd
              refine lv_iconst (v := 0) hx hb dX5_pass_58 (by decide) ?_
              exact L59 (fd_X5_pass_L16 fu) ih  _ _ f z1 z2 0 _ hP hD hS (lv_sub hl [0, 1, 2] rfl) hd
            · replace hd := ob_t c_51 hd
              refine lv_iconst (v := 1) hx hb dX5_pass_54 (by decide) ?_
              refine lv_goto (tgt := 59) hx hb dX5_pass_55 (by decide) ?_
              exact L59 (fd_X5_pass_L16 fu) ih  _ _ f z1 z2 1 _ hP hD hS (lv_sub hl [0, 1, 2] rfl) hd
  refine lv_iconst (v := 0) hx hb dX5_pass_0 (by decide) ?_
  refine lv_istore_n (lv' := [(1, .int 0), (0, .ref o_f)]) hx hb dX5_pass_1 rfl hl (by decide) rfl (fun ls hl => ?_)
  refine lv_aload_n hx hb dX5_pass_2 rfl (lv_at hl 1 rfl) ?_
  refine lv_iconst (v := 0) hx hb dX5_pass_3 (by decide) ?_
  refine lv_aload_n hx hb dX5_pass_4 rfl (lv_at hl 1 rfl) ?_
  refine lv_aload_n hx hb dX5_pass_5 rfl (lv_at hl 1 rfl) ?_
  refine lv_iconst (v := 0) hx hb dX5_pass_6 (by decide) ?_
  obtain ⟨r_1, hc_7, hd⟩ := ob_s1 hd
  refine ob_Si (isC := [0]) (isR := []) (is2 := [0]) (wc := (ob_wa o_f cI 42 f)) (wr := ([] : va_W)) (w1 := (ob_wa o_f cI 42 f)) (w2 := (ob_wa o_f cI 42 f)) (As := [.ref o_f, .int 0]) (rest := [.ref o_f, .int 0, .ref o_f]) ⟨hx, hb, hml, hown, hts⟩ (mt_X5_pullerOf l dC dI cI cZ cR cW xs _ o_f f 0 r_1 hc_7) (va_cwS 2 hts gX5_pass_X5_pullerOf rfl rfl rfl (by decide +kernel) ⟨Nat.le_of_ble_eq_true rfl, Nat.le_of_ble_eq_true rfl⟩) hK hE hP hD hS hA ⟨rfl, rfl, rfl, rfl, rfl, rfl, rfl⟩ hl rfl rfl (Nat.le_of_ble_eq_true rfl) ⟨Nat.le_of_ble_eq_true rfl, Nat.le_of_ble_eq_true rfl⟩ dX5_pass_7 (fun H locs hP hD hS => ?_)
  refine W.widen (k := 0) (n := 0) (Nat.le_refl _) (Nat.le_refl _) ?_
  obtain ⟨r_2, hc_10, hd⟩ := ob_s1 hd
  refine ob_Si (isC := [0]) (isR := []) (is2 := [0]) (wc := (ob_wa o_f cI 42 f)) (wr := ([] : va_W)) (w1 := (ob_wa o_f cI 42 f)) (w2 := (ob_wa o_f cI 42 f)) (As := [.ref o_f, .int r_1]) (rest := [.int 0, .ref o_f]) ⟨hx, hb, hml, hown, hts⟩ (mt_X5_towards l dC dI cI cZ cR cW xs _ o_f f r_1 r_2 hc_10) (va_cwS 2 hts gX5_pass_X5_towards rfl rfl rfl (by decide +kernel) ⟨Nat.le_of_ble_eq_true rfl, Nat.le_of_ble_eq_true rfl⟩) hK hE hP hD hS hA ⟨rfl, rfl, rfl, rfl, rfl, rfl, rfl⟩ hl rfl rfl (Nat.le_of_ble_eq_true rfl) ⟨Nat.le_of_ble_eq_true rfl, Nat.le_of_ble_eq_true rfl⟩ dX5_pass_10 (fun H locs hP hD hS => ?_)
  refine W.widen (k := 0) (n := 0) (Nat.le_refl _) (Nat.le_refl _) ?_
  refine va_iast hx hb hK hP hD hS 0 0 rfl rfl (by unfold vp_in; decide) dX5_pass_13 (fun H locs hP hD hS => ?_)
  obtain ⟨f_3, ef_3⟩ : ∃ z : (Nat → Int32), z = upd f (Int32.toNatClampNeg 0) r_2 := ⟨_, rfl⟩
  replace hd := ob_lx ef_3 hd
  replace hP : va_P (dC, dI) vwCl (ob_wa o_f cI 42 f_3) H := by rw [ef_3]; exact hP
  replace hD : va_D A (ob_wa o_f cI 42 f_3) := by rw [ef_3]; exact hD
  clear ef_3
  refine lv_iconst (v := 0) hx hb dX5_pass_14 (by decide) ?_
  refine lv_istore_n (lv' := [(2, .int 0), (1, .int 0), (0, .ref o_f)]) hx hb dX5_pass_15 rfl hl (by decide) rfl (fun ls hl => ?_)
  exact L16  2000 _ _ f_3 0 0 _ hP hD hS (lv_sub hl [2, 1, 0] rfl) hd

def fd_X5_openOf_L4  : Nat → (Nat → Int32) → Int32 → Int32 → Option (Int32)
  | 0, _, _, _ => none
  | fu + 1, f, z1, z2 => if (f (Int32.toNatClampNeg 2)) ≤ z2 then (some (z1)) else (if (35 + z2) < 0 ∨ 42 ≤ Int32.toNatClampNeg (35 + z2) then none else (if (f (Int32.toNatClampNeg (35 + z2))) = 0 then (ob_lt (z1 ||| (1 <<< (z2 &&& 31)) : Int32) (fun x_3 => ob_lt (z2 + 1 : Int32) (fun x_4 => fd_X5_openOf_L4 fu f x_3 x_4))) else (ob_lt (z1 ||| 0 : Int32) (fun x_1 => ob_lt (z2 + 1 : Int32) (fun x_2 => fd_X5_openOf_L4 fu f x_1 x_2)))))
def fd_X5_openOf  (f : (Nat → Int32))  : Option (Int32) := fd_X5_openOf_L4 2000 f 0 0
set_option maxHeartbeats 4000000 in
set_option maxRecDepth 100000 in
theorem mt_X5_openOf (l : Launch) (dC : Nat → ClassId) (dI : Nat → Nat → Nat) (cI cZ cR cW : ClassId) (xs : Nat → Nat) (sz : Nat) (o_f : Nat) (f : (Nat → Int32))   (rr : Int32) (hd : fd_X5_openOf f = some (rr)) : ob_M l yX5_openOf wsX5_openOf ({ frames := 0, cells := 0, slots := 0, locals := 0 } : Room) (dC, dI) (ob_ty cI cZ cR cW) xs [.ref o_f] (ob_wa o_f cI 42 f) sz (ob_Qi (dC, dI) rr (ob_wa o_f cI 42 f)) := by
  rw [fd_X5_openOf] at hd
  refine ob_in (cc := cX5_openOf) (maxL := 3) (ret := (some .int)) (own := RX5) (by decide) rfl rfl [(0, .ref o_f)] rfl (Nat.le_of_ble_eq_true rfl) ?_
  intro p e s m below meth c hx hb hr hml hown hts hlocks hnm hK A hA hE hP hD hS ls hl
  have L4 : ∀  (fu : Nat), ∀ (H : Heap) (locs : List Loc)  (z1 : Int32) (z2 : Int32) (ls : Array Slot), va_P (dC, dI) vwCl (ob_wa o_f cI 42 f) H → va_D A (ob_wa o_f cI 42 f) → va_S A s.heap H locs → lv_has ls 3 [(0, .ref o_f), (1, .int z1), (2, .int z2)] → fd_X5_openOf_L4 fu f z1 z2 = some (rr) → W p l e ({ frames := 0, cells := 0, slots := 0, locals := 0 } : Room) s m (List.toArray [.ref o_f]) below meth c H locs 0 0 (MQ below ((ob_Qi (dC, dI) rr (ob_wa o_f cI 42 f)) A) (List.toArray [.ref o_f]) s 0 0 A) (F0 m 4 ls []) := by
    intro  fu
    induction fu with
    | zero =>
      intro H locs z1 z2 ls hP hD hS hl hd
      rw [fd_X5_openOf_L4] at hd
      cases hd
    | succ fu ih =>
      intro H locs z1 z2 ls hP hD hS hl hd
      rw [fd_X5_openOf_L4] at hd
      refine lv_iload_n hx hb dX5_openOf_4 rfl (lv_at hl 2 rfl) ?_
      refine lv_aload_n hx hb dX5_openOf_5 rfl (lv_at hl 0 rfl) ?_
      refine lv_iconst (v := 2) hx hb dX5_openOf_6 (by decide) ?_
      refine va_iald hx hb hK hP 0 0 rfl rfl (by unfold vp_in; decide) dX5_openOf_7 ?_
      refine lv_icmp_ge (tgt := 36) hx hb dX5_openOf_8 (by decide) (fun c_8 => ?_) (fun c_8 => ?_)
      · replace hd := ob_t c_8 hd
        refine lv_iload_n hx hb dX5_openOf_36 rfl (lv_at hl 1 rfl) ?_
        have e1 := Option.some.inj hd
        subst e1
        exact ob_iret hx hb hr hlocks hP hD hS dX5_openOf_37
      · replace hd := ob_f c_8 hd
        refine lv_iload_n hx hb dX5_openOf_11 rfl (lv_at hl 1 rfl) ?_
        refine lv_aload_n hx hb dX5_openOf_12 rfl (lv_at hl 0 rfl) ?_
        refine lv_bipush (v := 35) hx hb dX5_openOf_13 (by decide) ?_
        refine lv_iload_n hx hb dX5_openOf_15 rfl (lv_at hl 2 rfl) ?_
        refine lv_iadd hx hb dX5_openOf_16 ?_
        obtain ⟨h1_17, hd⟩ := ob_nn hd
        refine va_iald hx hb hK hP 0 0 rfl rfl h1_17 dX5_openOf_17 ?_
        refine lv_if_ne (tgt := 27) hx hb dX5_openOf_18 (by decide) (fun c_18 => ?_) (fun c_18 => ?_)
        · replace hd := ob_f c_18 hd
          refine lv_iconst (v := 0) hx hb dX5_openOf_27 (by decide) ?_
          refine lv_ior hx hb dX5_openOf_28 ?_
          refine lv_topi (fun x_1 ex_1 => ?_)
          replace hd := ob_lx ex_1 hd
          clear ex_1
          refine lv_istore_n (lv' := [(1, .int x_1), (0, .ref o_f), (2, .int z2)]) hx hb dX5_openOf_29 rfl hl (by decide) rfl (fun ls hl => ?_)
          obtain ⟨x_2, ex_2⟩ : ∃ z : Int32, z = z2 + 1 := ⟨_, rfl⟩
          replace hd := ob_lx ex_2 hd
          refine lv_iinc (v := x_2) (lv' := [(2, .int x_2), (1, .int x_1), (0, .ref o_f)]) hx hb dX5_openOf_30 hl (k := 2) rfl (by rw [ex_2]; rfl) (by decide) rfl (fun ls hl => ?_)
          clear ex_2
          refine lv_goto (tgt := 4) hx hb dX5_openOf_33 (by decide) ?_
          exact ih _ _ x_1 x_2 _ hP hD hS (lv_sub hl [2, 1, 0] rfl) hd
        · replace hd := ob_t c_18 hd
          refine lv_iconst (v := 1) hx hb dX5_openOf_21 (by decide) ?_
          refine lv_iload_n hx hb dX5_openOf_22 rfl (lv_at hl 2 rfl) ?_
          refine lv_ishl hx hb dX5_openOf_23 ?_
          refine lv_goto (tgt := 28) hx hb dX5_openOf_24 (by decide) ?_
          refine lv_ior hx hb dX5_openOf_28 ?_
          refine lv_topi (fun x_3 ex_3 => ?_)
          replace hd := ob_lx ex_3 hd
          clear ex_3
          refine lv_istore_n (lv' := [(1, .int x_3), (0, .ref o_f), (2, .int z2)]) hx hb dX5_openOf_29 rfl hl (by decide) rfl (fun ls hl => ?_)
          obtain ⟨x_4, ex_4⟩ : ∃ z : Int32, z = z2 + 1 := ⟨_, rfl⟩
          replace hd := ob_lx ex_4 hd
          refine lv_iinc (v := x_4) (lv' := [(2, .int x_4), (1, .int x_3), (0, .ref o_f)]) hx hb dX5_openOf_30 hl (k := 2) rfl (by rw [ex_4]; rfl) (by decide) rfl (fun ls hl => ?_)
          clear ex_4
          refine lv_goto (tgt := 4) hx hb dX5_openOf_33 (by decide) ?_
          exact ih _ _ x_3 x_4 _ hP hD hS (lv_sub hl [2, 1, 0] rfl) hd
  refine lv_iconst (v := 0) hx hb dX5_openOf_0 (by decide) ?_
  refine lv_istore_n (lv' := [(1, .int 0), (0, .ref o_f)]) hx hb dX5_openOf_1 rfl hl (by decide) rfl (fun ls hl => ?_)
  refine lv_iconst (v := 0) hx hb dX5_openOf_2 (by decide) ?_
  refine lv_istore_n (lv' := [(2, .int 0), (1, .int 0), (0, .ref o_f)]) hx hb dX5_openOf_3 rfl hl (by decide) rfl (fun ls hl => ?_)
  exact L4  2000 _ _ 0 0 _ hP hD hS (lv_sub hl [2, 1, 0] rfl) hd
