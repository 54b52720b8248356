def fd_X5_isRoute  (b : ob_B)  : Option (Int32) := if ((b.2 12) (Int32.toNatClampNeg 2)) ≤ 0 then (some (0)) else (some (1))
set_option maxHeartbeats 4000000 in
set_option maxRecDepth 100000 in
theorem mt_X5_isRoute (l : Launch) (dC : Nat → ClassId) (dI : Nat → Nat → Nat) (cI cZ cR cW : ClassId) (xs : Nat → Nat) (sz : Nat) (o_b : Nat) (a_b : Nat → Nat) (b : ob_B)   (rr : Int32) (hd : fd_X5_isRoute b = some (rr)) : ob_M l yX5_isRoute wsX5_isRoute ({ frames := 0, cells := 0, slots := 0, locals := 0 } : Room) (dC, dI) (ob_ty cI cZ cR cW) xs [.ref o_b] (ob_w5 o_b a_b cI cZ b) sz (ob_Qi (dC, dI) rr (ob_w5 o_b a_b cI cZ b)) := by
  rw [fd_X5_isRoute] at hd
  refine ob_in (cc := cX5_isRoute) (maxL := 1) (ret := (some .boolean)) (own := RX5) (by decide) rfl rfl [(0, .ref o_b)] rfl (Nat.le_of_ble_eq_true rfl) ?_
  intro p e s m below meth c hx hb hr hml hown hts hlocks hnm hK A hA hE hP hD hS ls hl
  have kw0 := hts (.fieldLink RX5 22 "OathCoachModel" "now" "[I") (by decide +kernel)
  have hi_X5 : ∀ w ∈ u_ws RX5 TX5 23, w ∈ wsX5_isRoute := by decide +kernel
  refine lv_aload_n hx hb dX5_isRoute_0 rfl (lv_at hl 0 rfl) ?_
  refine va_get (D := (dC, dI)) (ci := 5) (v := .ref (a_b 12)) (C := RX5) (T := TX5) (N := 23) hx hb hts hi_X5 hown hK hP 0 rfl rfl 12 (by decide) kw0 (fun _ h9 => h9) rfl dX5_isRoute_1 ?_
  refine lv_iconst (v := 2) hx hb dX5_isRoute_4 (by decide) ?_
  refine va_iald hx hb hK hP 5 0 rfl rfl (by unfold vp_in; decide) dX5_isRoute_5 ?_
  refine lv_if_le (tgt := 13) hx hb dX5_isRoute_6 (by decide) (fun c_6 => ?_) (fun c_6 => ?_)
  · replace hd := ob_t c_6 hd
    refine lv_iconst (v := 0) hx hb dX5_isRoute_13 (by decide) ?_
    have e1 := Option.some.inj hd
    subst e1
    exact ob_zret hx hb hr hlocks (by decide) hP hD hS dX5_isRoute_14
  · replace hd := ob_f c_6 hd
    refine lv_iconst (v := 1) hx hb dX5_isRoute_9 (by decide) ?_
    refine lv_goto (tgt := 14) hx hb dX5_isRoute_10 (by decide) ?_
    have e1 := Option.some.inj hd
    subst e1
    exact ob_zret hx hb hr hlocks (by decide) hP hD hS dX5_isRoute_14

def fd_X5_isOne  (b : ob_B) (x1 : Int32) : Option (Int32) := ob_b1 (fd_X5_in x1 0 (((b.2 12) (Int32.toNatClampNeg 2)) - 1)) (fun r_1 => if ¬ (r_1 &&& 1 = r_1) then none else (some (r_1)))
set_option maxHeartbeats 4000000 in
set_option maxRecDepth 100000 in
theorem mt_X5_isOne (l : Launch) (dC : Nat → ClassId) (dI : Nat → Nat → Nat) (cI cZ cR cW : ClassId) (xs : Nat → Nat) (sz : Nat) (o_b : Nat) (a_b : Nat → Nat) (b : ob_B) (x1 : Int32)  (rr : Int32) (hd : fd_X5_isOne b x1 = some (rr)) : ob_M l yX5_isOne wsX5_isOne ({ frames := 1, cells := 0, slots := 0, locals := 22 } : Room) (dC, dI) (ob_ty cI cZ cR cW) xs [.ref o_b, .int x1] (ob_w5 o_b a_b cI cZ b) sz (ob_Qi (dC, dI) rr (ob_w5 o_b a_b cI cZ b)) := by
  rw [fd_X5_isOne] at hd
  refine ob_in (cc := cX5_isOne) (maxL := 2) (ret := (some .boolean)) (own := RX5) (by decide) rfl rfl [(0, .ref o_b), (1, .int x1)] rfl (Nat.le_of_ble_eq_true rfl) ?_
  intro p e s m below meth c hx hb hr hml hown hts hlocks hnm hK A hA hE hP hD hS ls hl
  have kw0 := hts (.fieldLink RX5 22 "OathCoachModel" "now" "[I") (by decide +kernel)
  have hi_X5 : ∀ w ∈ u_ws RX5 TX5 23, w ∈ wsX5_isOne := by decide +kernel
  refine lv_iload_n hx hb dX5_isOne_0 rfl (lv_at hl 1 rfl) ?_
  refine lv_iconst (v := 0) hx hb dX5_isOne_1 (by decide) ?_
  refine lv_aload_n hx hb dX5_isOne_2 rfl (lv_at hl 0 rfl) ?_
  refine va_get (D := (dC, dI)) (ci := 5) (v := .ref (a_b 12)) (C := RX5) (T := TX5) (N := 23) hx hb hts hi_X5 hown hK hP 0 rfl rfl 12 (by decide) kw0 (fun _ h9 => h9) rfl dX5_isOne_3 ?_
  refine lv_iconst (v := 2) hx hb dX5_isOne_6 (by decide) ?_
  refine va_iald hx hb hK hP 5 0 rfl rfl (by unfold vp_in; decide) dX5_isOne_7 ?_
  refine lv_iconst (v := 1) hx hb dX5_isOne_8 (by decide) ?_
  refine lv_isub hx hb dX5_isOne_9 ?_
  obtain ⟨r_1, hc_10, hd⟩ := ob_s1 hd
  refine ob_Si (isC := []) (isR := [0, 1, 2, 3, 4, 5, 6, 7, 8, 9, 10, 11, 12, 13]) (is2 := [0, 1, 2, 3, 4, 5, 6, 7, 8, 9, 10, 11, 12, 13]) (wc := ([] : va_W)) (wr := (List.filterMap (fun i => (ob_w5 o_b a_b cI cZ b)[i]?) [0, 1, 2, 3, 4, 5, 6, 7, 8, 9, 10, 11, 12, 13])) (w1 := ([] : va_W)) (w2 := (ob_w5 o_b a_b cI cZ b)) (As := [.int x1, .int 0, .int (((b.2 12) (Int32.toNatClampNeg 2)) - 1)]) (rest := []) ⟨hx, hb, hml, hown, hts⟩ (mt_X5_in l dC dI cI cZ cR cW xs _ x1 0 (((b.2 12) (Int32.toNatClampNeg 2)) - 1) r_1 hc_10) (va_cwS 3 hts gX5_isOne_X5_in rfl rfl rfl (by decide +kernel) ⟨Nat.le_of_ble_eq_true rfl, Nat.le_of_ble_eq_true rfl⟩) hK hE hP hD hS hA ⟨rfl, rfl, rfl, rfl, rfl, rfl, rfl⟩ hl rfl rfl (Nat.le_of_ble_eq_true rfl) ⟨Nat.le_of_ble_eq_true rfl, Nat.le_of_ble_eq_true rfl⟩ dX5_isOne_10 (fun H locs hP hD hS => ?_)
  refine W.widen (k := 0) (n := 0) (Nat.le_refl _) (Nat.le_refl _) ?_
  obtain ⟨hn, hd⟩ := ob_nn hd
  have e1 := Option.some.inj hd
  subst e1
  exact ob_zret hx hb hr hlocks (ob_nb hn) hP hD hS dX5_isOne_13

def fd_X5_finds  (b : ob_B) (x1 : Int32) : Option (Int32 × ob_B) := ob_lt (ob_I b 3 x1 : ob_B) (fun b_1 => some ((-1000010) - x1, b_1))
set_option maxHeartbeats 4000000 in
set_option maxRecDepth 100000 in
theorem mt_X5_finds (l : Launch) (dC : Nat → ClassId) (dI : Nat → Nat → Nat) (cI cZ cR cW : ClassId) (xs : Nat → Nat) (sz : Nat) (o_b : Nat) (a_b : Nat → Nat) (b : ob_B) (x1 : Int32)  (rr : Int32) (b' : ob_B) (hd : fd_X5_finds b x1 = some (rr, b')) : ob_M l yX5_finds wsX5_finds ({ frames := 0, cells := 0, slots := 0, locals := 0 } : Room) (dC, dI) (ob_ty cI cZ cR cW) xs [.ref o_b, .int x1] (ob_w5 o_b a_b cI cZ b) sz (ob_Qi (dC, dI) rr (ob_w5 o_b a_b cI cZ b')) := by
  rw [fd_X5_finds] at hd
  refine ob_in (cc := cX5_finds) (maxL := 2) (ret := (some .int)) (own := RX5) (by decide) rfl rfl [(0, .ref o_b), (1, .int x1)] rfl (Nat.le_of_ble_eq_true rfl) ?_
  intro p e s m below meth c hx hb hr hml hown hts hlocks hnm hK A hA hE hP hD hS ls hl
  have kw0 := hts (.fieldLink RX5 54 "OathCoachModel" "status" "I") (by decide +kernel)
  have kw1 := hts (.constant RX5 58 (-1000010)) (by decide +kernel)
  have hi_X5 : ∀ w ∈ u_ws RX5 TX5 23, w ∈ wsX5_finds := by decide +kernel
  refine lv_aload_n hx hb dX5_finds_0 rfl (lv_at hl 0 rfl) ?_
  refine lv_iload_n hx hb dX5_finds_1 rfl (lv_at hl 1 rfl) ?_
  refine va_put (D := (dC, dI)) (ci := 5) (v := .int x1) (ty := .int) (C := RX5) (T := TX5) (N := 23) hx hb hts hi_X5 tyX5 tyX5_ok nmX5 hown hK hP hD hS 0 rfl rfl 3 (by decide) kw0 (fun _ h9 => h9) rfl (by decide +kernel) rfl rfl (Nat.le_of_ble_eq_true rfl) dX5_finds_2 (fun H locs hP hD hS => ?_)
  obtain ⟨b_1, eb_1⟩ : ∃ z : ob_B, z = ob_I b 3 x1 := ⟨_, rfl⟩
  replace hd := ob_lx eb_1 hd
  replace hP : va_P (dC, dI) vwCl (ob_w5 o_b a_b cI cZ b_1) H := by rw [eb_1]; exact hP
  replace hD : va_D A (ob_w5 o_b a_b cI cZ b_1) := by rw [eb_1]; exact hD
  clear eb_1
  refine lv_ldc hx hb hown kw1 dX5_finds_5 ?_
  refine lv_iload_n hx hb dX5_finds_7 rfl (lv_at hl 1 rfl) ?_
  refine lv_isub hx hb dX5_finds_8 ?_
  obtain ⟨e1, e2⟩ := ob_pp hd
  subst e1
  subst e2
  exact ob_iret hx hb hr hlocks hP hD hS dX5_finds_9

def fd_X5_done  (b : ob_B) (x1 : Int32) : Option (Int32 × ob_B) := ob_lt (ob_I b 3 0 : ob_B) (fun b_1 => some (x1, b_1))
set_option maxHeartbeats 4000000 in
set_option maxRecDepth 100000 in
theorem mt_X5_done (l : Launch) (dC : Nat → ClassId) (dI : Nat → Nat → Nat) (cI cZ cR cW : ClassId) (xs : Nat → Nat) (sz : Nat) (o_b : Nat) (a_b : Nat → Nat) (b : ob_B) (x1 : Int32)  (rr : Int32) (b' : ob_B) (hd : fd_X5_done b x1 = some (rr, b')) : ob_M l yX5_done wsX5_done ({ frames := 0, cells := 0, slots := 0, locals := 0 } : Room) (dC, dI) (ob_ty cI cZ cR cW) xs [.ref o_b, .int x1] (ob_w5 o_b a_b cI cZ b) sz (ob_Qi (dC, dI) rr (ob_w5 o_b a_b cI cZ b')) := by
  rw [fd_X5_done] at hd
  refine ob_in (cc := cX5_done) (maxL := 2) (ret := (some .int)) (own := RX5) (by decide) rfl rfl [(0, .ref o_b), (1, .int x1)] rfl (Nat.le_of_ble_eq_true rfl) ?_
  intro p e s m below meth c hx hb hr hml hown hts hlocks hnm hK A hA hE hP hD hS ls hl
  have kw0 := hts (.fieldLink RX5 54 "OathCoachModel" "status" "I") (by decide +kernel)
  have hi_X5 : ∀ w ∈ u_ws RX5 TX5 23, w ∈ wsX5_done := by decide +kernel
  refine lv_aload_n hx hb dX5_done_0 rfl (lv_at hl 0 rfl) ?_
  refine lv_iconst (v := 0) hx hb dX5_done_1 (by decide) ?_
  refine va_put (D := (dC, dI)) (ci := 5) (v := .int 0) (ty := .int) (C := RX5) (T := TX5) (N := 23) hx hb hts hi_X5 tyX5 tyX5_ok nmX5 hown hK hP hD hS 0 rfl rfl 3 (by decide) kw0 (fun _ h9 => h9) rfl (by decide +kernel) rfl rfl (Nat.le_of_ble_eq_true rfl) dX5_done_2 (fun H locs hP hD hS => ?_)
  obtain ⟨b_1, eb_1⟩ : ∃ z : ob_B, z = ob_I b 3 0 := ⟨_, rfl⟩
  replace hd := ob_lx eb_1 hd
  replace hP : va_P (dC, dI) vwCl (ob_w5 o_b a_b cI cZ b_1) H := by rw [eb_1]; exact hP
  replace hD : va_D A (ob_w5 o_b a_b cI cZ b_1) := by rw [eb_1]; exact hD
  clear eb_1
  refine lv_iload_n hx hb dX5_done_5 rfl (lv_at hl 1 rfl) ?_
  obtain ⟨e1, e2⟩ := ob_pp hd
  subst e1
  subst e2
  exact ob_iret hx hb hr hlocks hP hD hS dX5_done_6

def fd_X5_row_L78  (b : ob_B) (x3 : Int32) : Option (Int32 × ob_B) := ob_b2 (fd_X5_done b x3) (fun r_9 b_10 => some (r_9, b_10))
def fd_X5_row_L52  : Nat → ob_B → Int32 → Int32 → Int32 → Option (Int32 × ob_B)
  | 0, _, _, _, _ => none
  | fu + 1, b, x1, x3, z4 => if 40 ≤ z4 then (fd_X5_row_L78 b x3) else (if ((40 * x1) + z4) < 0 ∨ 320 ≤ Int32.toNatClampNeg ((40 * x1) + z4) then none else (ob_lt (ob_A b 2 (upd (b.2 2) (Int32.toNatClampNeg ((40 * x1) + z4)) 0) : ob_B) (fun b_7 => ob_lt (z4 + 1 : Int32) (fun x_8 => fd_X5_row_L52 fu b_7 x1 x3 x_8))))
def fd_X5_row  (b : ob_B) (x1 : Int32) (x2 : Int32) (x3 : Int32) : Option (Int32 × ob_B) := ob_b1 (fd_X5_isRow x1) (fun r_1 => if r_1 = 0 then (some ((-1000001), b)) else (ob_b1 (fd_X5_in x2 0 2) (fun r_2 => if r_2 = 0 then (some ((-1000001), b)) else (if x3 ≤ 40 then (if 0 ≤ x3 then (if x1 < 0 ∨ 8 ≤ Int32.toNatClampNeg x1 then none else (ob_lt (ob_A b 0 (upd (b.2 0) (Int32.toNatClampNeg x1) x2) : ob_B) (fun b_3 => if x1 < 0 ∨ 8 ≤ Int32.toNatClampNeg x1 then none else (ob_lt (ob_A b_3 1 (upd (b_3.2 1) (Int32.toNatClampNeg x1) x3) : ob_B) (fun b_4 => fd_X5_row_L52 2000 b_4 x1 x3 0))))) else (ob_b2 (fd_X5_finds b 4) (fun r_5 b_6 => some (r_5, b_6)))) else (some ((-1000001), b))))))
set_option maxHeartbeats 4000000 in
set_option maxRecDepth 100000 in
theorem mt_X5_row (l : Launch) (dC : Nat → ClassId) (dI : Nat → Nat → Nat) (cI cZ cR cW : ClassId) (xs : Nat → Nat) (sz : Nat) (o_b : Nat) (a_b : Nat → Nat) (b : ob_B) (x1 : Int32) (x2 : Int32) (x3 : Int32)  (rr : Int32) (b' : ob_B) (hd : fd_X5_row b x1 x2 x3 = some (rr, b')) : ob_M l yX5_row wsX5_row ({ frames := 2, cells := 0, slots := 0, locals := 42 } : Room) (dC, dI) (ob_ty cI cZ cR cW) xs [.ref o_b, .int x1, .int x2, .int x3] (ob_w5 o_b a_b cI cZ b) sz (ob_Qi (dC, dI) rr (ob_w5 o_b a_b cI cZ b')) := by
  rw [fd_X5_row] at hd
  refine ob_in (cc := cX5_row) (maxL := 5) (ret := (some .int)) (own := RX5) (by decide) rfl rfl [(0, .ref o_b), (1, .int x1), (2, .int x2), (3, .int x3)] rfl (Nat.le_of_ble_eq_true rfl) ?_
  intro p e s m below meth c hx hb hr hml hown hts hlocks hnm hK A hA hE hP hD hS ls hl
  have kw0 := hts (.constant RX5 63 (-1000001)) (by decide +kernel)
  have kw1 := hts (.fieldLink RX5 7 "OathCoachModel" "lane" "[I") (by decide +kernel)
  have kw2 := hts (.fieldLink RX5 13 "OathCoachModel" "size" "[I") (by decide +kernel)
  have kw3 := hts (.fieldLink RX5 16 "OathCoachModel" "items" "[I") (by decide +kernel)
  have hi_X5 : ∀ w ∈ u_ws RX5 TX5 23, w ∈ wsX5_row := by decide +kernel
  have L78 : ∀ (H : Heap) (locs : List Loc) (b : ob_B)  (ls : Array Slot), va_P (dC, dI) vwCl (ob_w5 o_b a_b cI cZ b) H → va_D A (ob_w5 o_b a_b cI cZ b) → va_S A s.heap H locs → lv_has ls 5 [(0, .ref o_b), (3, .int x3)] → fd_X5_row_L78 b x3 = some (rr, b') → W p l e ({ frames := 2, cells := 0, slots := 0, locals := 42 } : Room) s m (List.toArray [.ref o_b, .int x1, .int x2, .int x3]) below meth c H locs 0 0 (MQ below ((ob_Qi (dC, dI) rr (ob_w5 o_b a_b cI cZ b')) A) (List.toArray [.ref o_b, .int x1, .int x2, .int x3]) s 0 0 A) (F0 m 78 ls []) := by
    intro  H locs b ls hP hD hS hl hd
    rw [fd_X5_row_L78] at hd
    refine lv_aload_n hx hb dX5_row_78 rfl (lv_at hl 0 rfl) ?_
    refine lv_iload_n hx hb dX5_row_79 rfl (lv_at hl 1 rfl) ?_
    obtain ⟨r_9, b_10, hc_80, hd⟩ := ob_s2 hd
    refine ob_Vi (isC := [0, 1, 2, 3, 4, 5, 6, 7, 8, 9, 10, 11, 12, 13]) (isR := []) (is2 := [0, 1, 2, 3, 4, 5, 6, 7, 8, 9, 10, 11, 12, 13]) (wc := (ob_w5 o_b a_b cI cZ b)) (wr := ([] : va_W)) (w1 := (ob_w5 o_b a_b cI cZ b_10)) (w2 := (ob_w5 o_b a_b cI cZ b_10)) (b := o_b) (As := [.int x3]) (rest := []) ⟨hx, hb, hml, hown, hts⟩ (mt_X5_done l dC dI cI cZ cR cW xs _ o_b a_b b x3 r_9 b_10 hc_80) (cwV 1 hts gX5_row_X5_done rfl rfl rfl (by decide +kernel) ⟨Nat.le_of_ble_eq_true rfl, Nat.le_of_ble_eq_true rfl⟩) hK hE hP hD hS hA ⟨rfl, rfl, rfl, rfl, rfl, rfl, rfl⟩ 5 0 rfl rfl rfl hl rfl rfl (Nat.le_of_ble_eq_true rfl) ⟨Nat.le_of_ble_eq_true rfl, Nat.le_of_ble_eq_true rfl⟩ dX5_row_80 (fun H locs hP hD hS => ?_)
    refine W.widen (k := 0) (n := 0) (Nat.le_refl _) (Nat.le_refl _) ?_
    obtain ⟨e1, e2⟩ := ob_pp hd
    subst e1
    subst e2
    exact ob_iret hx hb hr hlocks hP hD hS dX5_row_83
  have L52 : ∀  (fu : Nat), ∀ (H : Heap) (locs : List Loc) (b : ob_B) (z4 : Int32) (ls : Array Slot), va_P (dC, dI) vwCl (ob_w5 o_b a_b cI cZ b) H → va_D A (ob_w5 o_b a_b cI cZ b) → va_S A s.heap H locs → lv_has ls 5 [(0, .ref o_b), (1, .int x1), (3, .int x3), (4, .int z4)] → fd_X5_row_L52 fu b x1 x3 z4 = some (rr, b') → W p l e ({ frames := 2, cells := 0, slots := 0, locals := 42 } : Room) s m (List.toArray [.ref o_b, .int x1, .int x2, .int x3]) below meth c H locs 0 0 (MQ below ((ob_Qi (dC, dI) rr (ob_w5 o_b a_b cI cZ b')) A) (List.toArray [.ref o_b, .int x1, .int x2, .int x3]) s 0 0 A) (F0 m 52 ls []) := by
    intro  fu
    induction fu with
    | zero =>
      intro H locs b z4 ls hP hD hS hl hd
      rw [fd_X5_row_L52] at hd
      cases hd
    | succ fu ih =>
      intro H locs b z4 ls hP hD hS hl hd
      rw [fd_X5_row_L52] at hd
      refine lv_iload hx hb dX5_row_52 (lv_at hl 3 rfl) ?_
      refine lv_bipush (v := 40) hx hb dX5_row_54 (by decide) ?_
      refine lv_icmp_ge (tgt := 78) hx hb dX5_row_56 (by decide) (fun c_56 => ?_) (fun c_56 => ?_)
      · replace hd := ob_t c_56 hd
        exact L78   _ _ b _ hP hD hS (lv_sub hl [0, 2] rfl) hd
      · replace hd := ob_f c_56 hd
        refine lv_aload_n hx hb dX5_row_59 rfl (lv_at hl 0 rfl) ?_
        refine va_get (D := (dC, dI)) (ci := 5) (v := .ref (a_b 2)) (C := RX5) (T := TX5) (N := 23) hx hb hts hi_X5 hown hK hP 0 rfl rfl 2 (by decide) kw3 (fun _ h9 => h9) rfl dX5_row_60 ?_
        refine lv_bipush (v := 40) hx hb dX5_row_63 (by decide) ?_
        refine lv_iload_n hx hb dX5_row_65 rfl (lv_at hl 1 rfl) ?_
        refine lv_imul hx hb dX5_row_66 ?_
        refine lv_iload hx hb dX5_row_67 (lv_at hl 3 rfl) ?_
        refine lv_iadd hx hb dX5_row_69 ?_
        refine lv_iconst (v := 0) hx hb dX5_row_70 (by decide) ?_
        obtain ⟨h1_71, hd⟩ := ob_nn hd
        refine va_iast hx hb hK hP hD hS 3 0 rfl rfl h1_71 dX5_row_71 (fun H locs hP hD hS => ?_)
        obtain ⟨b_7, eb_7⟩ : ∃ z : ob_B, z = ob_A b 2 (upd (b.2 2) (Int32.toNatClampNeg ((40 * x1) + z4)) 0) := ⟨_, rfl⟩
        replace hd := ob_lx eb_7 hd
        replace hP : va_P (dC, dI) vwCl (ob_w5 o_b a_b cI cZ b_7) H := by rw [eb_7]; exact hP
        replace hD : va_D A (ob_w5 o_b a_b cI cZ b_7) := by rw [eb_7]; exact hD
        clear eb_7
        obtain ⟨x_8, ex_8⟩ : ∃ z : Int32, z = z4 + 1 := ⟨_, rfl⟩
        replace hd := ob_lx ex_8 hd
        refine lv_iinc (v := x_8) (lv' := [(4, .int x_8), (0, .ref o_b), (1, .int x1), (3, .int x3)]) hx hb dX5_row_72 hl (k := 3) rfl (by rw [ex_8]; rfl) (by decide) rfl (fun ls hl => ?_)
        clear ex_8
        refine lv_goto (tgt := 52) hx hb dX5_row_75 (by decide) ?_
        exact ih _ _ b_7 x_8 _ hP hD hS (lv_sub hl [1, 2, 3, 0] rfl) hd
  refine lv_iload_n hx hb dX5_row_0 rfl (lv_at hl 1 rfl) ?_
  obtain ⟨r_1, hc_1, hd⟩ := ob_s1 hd
  refine ob_Si (isC := []) (isR := [0, 1, 2, 3, 4, 5, 6, 7, 8, 9, 10, 11, 12, 13]) (is2 := [0, 1, 2, 3, 4, 5, 6, 7, 8, 9, 10, 11, 12, 13]) (wc := ([] : va_W)) (wr := (List.filterMap (fun i => (ob_w5 o_b a_b cI cZ b)[i]?) [0, 1, 2, 3, 4, 5, 6, 7, 8, 9, 10, 11, 12, 13])) (w1 := ([] : va_W)) (w2 := (ob_w5 o_b a_b cI cZ b)) (As := [.int x1]) (rest := []) ⟨hx, hb, hml, hown, hts⟩ (mt_X5_isRow l dC dI cI cZ cR cW xs _ x1 r_1 hc_1) (va_cwS 1 hts gX5_row_X5_isRow rfl rfl rfl (by decide +kernel) ⟨Nat.le_of_ble_eq_true rfl, Nat.le_of_ble_eq_true rfl⟩) hK hE hP hD hS hA ⟨rfl, rfl, rfl, rfl, rfl, rfl, rfl⟩ hl rfl rfl (Nat.le_of_ble_eq_true rfl) ⟨Nat.le_of_ble_eq_true rfl, Nat.le_of_ble_eq_true rfl⟩ dX5_row_1 (fun H locs hP hD hS => ?_)
  refine W.widen (k := 0) (n := 0) (Nat.le_refl _) (Nat.le_refl _) ?_
  refine lv_if_eq (tgt := 22) hx hb dX5_row_4 (by decide) (fun c_4 => ?_) (fun c_4 => ?_)
  · replace hd := ob_t c_4 hd
    refine lv_ldc hx hb hown kw0 dX5_row_22 ?_
    obtain ⟨e1, e2⟩ := ob_pp hd
    subst e1
    subst e2
    exact ob_iret hx hb hr hlocks hP hD hS dX5_row_24
  · replace hd := ob_f c_4 hd
    refine lv_iload_n hx hb dX5_row_7 rfl (lv_at hl 2 rfl) ?_
    refine lv_iconst (v := 0) hx hb dX5_row_8 (by decide) ?_
    refine lv_iconst (v := 2) hx hb dX5_row_9 (by decide) ?_
    obtain ⟨r_2, hc_10, hd⟩ := ob_s1 hd
    refine ob_Si (isC := []) (isR := [0, 1, 2, 3, 4, 5, 6, 7, 8, 9, 10, 11, 12, 13]) (is2 := [0, 1, 2, 3, 4, 5, 6, 7, 8, 9, 10, 11, 12, 13]) (wc := ([] : va_W)) (wr := (List.filterMap (fun i => (ob_w5 o_b a_b cI cZ b)[i]?) [0, 1, 2, 3, 4, 5, 6, 7, 8, 9, 10, 11, 12, 13])) (w1 := ([] : va_W)) (w2 := (ob_w5 o_b a_b cI cZ b)) (As := [.int x2, .int 0, .int 2]) (rest := []) ⟨hx, hb, hml, hown, hts⟩ (mt_X5_in l dC dI cI cZ cR cW xs _ x2 0 2 r_2 hc_10) (va_cwS 3 hts gX5_row_X5_in rfl rfl rfl (by decide +kernel) ⟨Nat.le_of_ble_eq_true rfl, Nat.le_of_ble_eq_true rfl⟩) hK hE hP hD hS hA ⟨rfl, rfl, rfl, rfl, rfl, rfl, rfl⟩ hl rfl rfl (Nat.le_of_ble_eq_true rfl) ⟨Nat.le_of_ble_eq_true rfl, Nat.le_of_ble_eq_true rfl⟩ dX5_row_10 (fun H locs hP hD hS => ?_)
    refine W.widen (k := 0) (n := 0) (Nat.le_refl _) (Nat.le_refl _) ?_
    refine lv_if_eq (tgt := 22) hx hb dX5_row_13 (by decide) (fun c_13 => ?_) (fun c_13 => ?_)
    · replace hd := ob_t c_13 hd
      refine lv_ldc hx hb hown kw0 dX5_row_22 ?_
      obtain ⟨e1, e2⟩ := ob_pp hd
      subst e1
      subst e2
      exact ob_iret hx hb hr hlocks hP hD hS dX5_row_24
    · replace hd := ob_f c_13 hd
      refine lv_iload_n hx hb dX5_row_16 rfl (lv_at hl 3 rfl) ?_
      refine lv_bipush (v := 40) hx hb dX5_row_17 (by decide) ?_
      refine lv_icmp_le (tgt := 25) hx hb dX5_row_19 (by decide) (fun c_19 => ?_) (fun c_19 => ?_)
      · replace hd := ob_t c_19 hd
        refine lv_iload_n hx hb dX5_row_25 rfl (lv_at hl 3 rfl) ?_
        refine lv_if_ge (tgt := 35) hx hb dX5_row_26 (by decide) (fun c_26 => ?_) (fun c_26 => ?_)
        · replace hd := ob_t c_26 hd
          refine lv_aload_n hx hb dX5_row_35 rfl (lv_at hl 0 rfl) ?_
          refine va_get (D := (dC, dI)) (ci := 5) (v := .ref (a_b 0)) (C := RX5) (T := TX5) (N := 23) hx hb hts hi_X5 hown hK hP 0 rfl rfl 0 (by decide) kw1 (fun _ h9 => h9) rfl dX5_row_36 ?_
          refine lv_iload_n hx hb dX5_row_39 rfl (lv_at hl 1 rfl) ?_
          refine lv_iload_n hx hb dX5_row_40 rfl (lv_at hl 2 rfl) ?_
          obtain ⟨h1_41, hd⟩ := ob_nn hd
          refine va_iast hx hb hK hP hD hS 1 0 rfl rfl h1_41 dX5_row_41 (fun H locs hP hD hS => ?_)
          obtain ⟨b_3, eb_3⟩ : ∃ z : ob_B, z = ob_A b 0 (upd (b.2 0) (Int32.toNatClampNeg x1) x2) := ⟨_, rfl⟩
          replace hd := ob_lx eb_3 hd
          replace hP : va_P (dC, dI) vwCl (ob_w5 o_b a_b cI cZ b_3) H := by rw [eb_3]; exact hP
          replace hD : va_D A (ob_w5 o_b a_b cI cZ b_3) := by rw [eb_3]; exact hD
          clear eb_3
          refine lv_aload_n hx hb dX5_row_42 rfl (lv_at hl 0 rfl) ?_
          refine va_get (D := (dC, dI)) (ci := 5) (v := .ref (a_b 1)) (C := RX5) (T := TX5) (N := 23) hx hb hts hi_X5 hown hK hP 0 rfl rfl 1 (by decide) kw2 (fun _ h9 => h9) rfl dX5_row_43 ?_
          refine lv_iload_n hx hb dX5_row_46 rfl (lv_at hl 1 rfl) ?_
          refine lv_iload_n hx hb dX5_row_47 rfl (lv_at hl 3 rfl) ?_
          obtain ⟨h1_48, hd⟩ := ob_nn hd
          refine va_iast hx hb hK hP hD hS 2 0 rfl rfl h1_48 dX5_row_48 (fun H locs hP hD hS => ?_)
          obtain ⟨b_4, eb_4⟩ : ∃ z : ob_B, z = ob_A b_3 1 (upd (b_3.2 1) (Int32.toNatClampNeg x1) x3) := ⟨_, rfl⟩
          replace hd := ob_lx eb_4 hd
          replace hP : va_P (dC, dI) vwCl (ob_w5 o_b a_b cI cZ b_4) H := by rw [eb_4]; exact hP
          replace hD : va_D A (ob_w5 o_b a_b cI cZ b_4) := by rw [eb_4]; exact hD
          clear eb_4
          refine lv_iconst (v := 0) hx hb dX5_row_49 (by decide) ?_
          refine lv_istore (lv' := [(4, .int 0), (0, .ref o_b), (1, .int x1), (2, .int x2), (3, .int x3)]) hx hb dX5_row_50 hl (by decide) rfl (fun ls hl => ?_)
          exact L52  2000 _ _ b_4 0 _ hP hD hS (lv_sub hl [1, 2, 4, 0] rfl) hd
        · replace hd := ob_f c_26 hd
          refine lv_aload_n hx hb dX5_row_29 rfl (lv_at hl 0 rfl) ?_
          refine lv_iconst (v := 4) hx hb dX5_row_30 (by decide) ?_
          obtain ⟨r_5, b_6, hc_31, hd⟩ := ob_s2 hd
          refine ob_Vi (isC := [0, 1, 2, 3, 4, 5, 6, 7, 8, 9, 10, 11, 12, 13]) (isR := []) (is2 := [0, 1, 2, 3, 4, 5, 6, 7, 8, 9, 10, 11, 12, 13]) (wc := (ob_w5 o_b a_b cI cZ b)) (wr := ([] : va_W)) (w1 := (ob_w5 o_b a_b cI cZ b_6)) (w2 := (ob_w5 o_b a_b cI cZ b_6)) (b := o_b) (As := [.int 4]) (rest := []) ⟨hx, hb, hml, hown, hts⟩ (mt_X5_finds l dC dI cI cZ cR cW xs _ o_b a_b b 4 r_5 b_6 hc_31) (cwV 1 hts gX5_row_X5_finds rfl rfl rfl (by decide +kernel) ⟨Nat.le_of_ble_eq_true rfl, Nat.le_of_ble_eq_true rfl⟩) hK hE hP hD hS hA ⟨rfl, rfl, rfl, rfl, rfl, rfl, rfl⟩ 5 0 rfl rfl rfl hl rfl rfl (Nat.le_of_ble_eq_true rfl) ⟨Nat.le_of_ble_eq_true rfl, Nat.le_of_ble_eq_true rfl⟩ dX5_row_31 (fun H locs hP hD hS => ?_)
          refine W.widen (k := 0) (n := 0) (Nat.le_refl _) (Nat.le_refl _) ?_
          obtain ⟨e1, e2⟩ := ob_pp hd
          subst e1
          subst e2
          exact ob_iret hx hb hr hlocks hP hD hS dX5_row_34
      · replace hd := ob_f c_19 hd
        refine lv_ldc hx hb hown kw0 dX5_row_22 ?_
        obtain ⟨e1, e2⟩ := ob_pp hd
        subst e1
        subst e2
        exact ob_iret hx hb hr hlocks hP hD hS dX5_row_24

def fd_X5_set_L87  (b : ob_B) (x1 : Int32) (x2 : Int32) (v0 : Int32) (v1 : Int32) : Option (Int32 × ob_B) := if v1 < 0 ∨ 320 ≤ Int32.toNatClampNeg v1 then none else (ob_lt (ob_A b 2 (upd (b.2 2) (Int32.toNatClampNeg v1) v0) : ob_B) (fun b_7 => if ((40 * x1) + x2) < 0 ∨ 320 ≤ Int32.toNatClampNeg ((40 * x1) + x2) then none else (ob_b2 (fd_X5_done b_7 ((b_7.2 2) (Int32.toNatClampNeg ((40 * x1) + x2)))) (fun r_8 b_9 => some (r_8, b_9)))))
def fd_X5_set  (b : ob_B) (x1 : Int32) (x2 : Int32) (x3 : Int32) : Option (Int32 × ob_B) := ob_b1 (fd_X5_isRow x1) (fun r_1 => if r_1 = 0 then (some ((-1000001), b)) else (if x1 < 0 ∨ 8 ≤ Int32.toNatClampNeg x1 then none else (if 0 ≤ ((b.2 0) (Int32.toNatClampNeg x1)) then (if x1 < 0 ∨ 8 ≤ Int32.toNatClampNeg x1 then none else (ob_b1 (fd_X5_in x2 0 (((b.2 1) (Int32.toNatClampNeg x1)) - 1)) (fun r_2 => if r_2 = 0 then (ob_b2 (fd_X5_finds b 2) (fun r_3 b_4 => some (r_3, b_4))) else (if x1 < 0 ∨ 8 ≤ Int32.toNatClampNeg x1 then none else (if ((b.2 0) (Int32.toNatClampNeg x1)) = 0 then (fd_X5_set_L87 b x1 x2 (Int8.toInt32 (Int32.toInt8 x3)) ((40 * x1) + x2)) else (if x1 < 0 ∨ 8 ≤ Int32.toNatClampNeg x1 then none else (if ((b.2 0) (Int32.toNatClampNeg x1)) = 1 then (fd_X5_set_L87 b x1 x2 (Int16.toInt32 (Int32.toInt16 x3)) ((40 * x1) + x2)) else (fd_X5_set_L87 b x1 x2 x3 ((40 * x1) + x2))))))))) else (ob_b2 (fd_X5_finds b 1) (fun r_5 b_6 => some (r_5, b_6))))))
set_option maxHeartbeats 4000000 in
set_option maxRecDepth 100000 in
theorem mt_X5_set (l : Launch) (dC : Nat → ClassId) (dI : Nat → Nat → Nat) (cI cZ cR cW : ClassId) (xs : Nat → Nat) (sz : Nat) (o_b : Nat) (a_b : Nat → Nat) (b : ob_B) (x1 : Int32) (x2 : Int32) (x3 : Int32)  (rr : Int32) (b' : ob_B) (hd : fd_X5_set b x1 x2 x3 = some (rr, b')) : ob_M l yX5_set wsX5_set ({ frames := 2, cells := 0, slots := 0, locals := 42 } : Room) (dC, dI) (ob_ty cI cZ cR cW) xs [.ref o_b, .int x1, .int x2, .int x3] (ob_w5 o_b a_b cI cZ b) sz (ob_Qi (dC, dI) rr (ob_w5 o_b a_b cI cZ b')) := by
  rw [fd_X5_set] at hd
  refine ob_in (cc := cX5_set) (maxL := 4) (ret := (some .int)) (own := RX5) (by decide) rfl rfl [(0, .ref o_b), (1, .int x1), (2, .int x2), (3, .int x3)] rfl (Nat.le_of_ble_eq_true rfl) ?_
  intro p e s m below meth c hx hb hr hml hown hts hlocks hnm hK A hA hE hP hD hS ls hl
  have kw0 := hts (.fieldLink RX5 7 "OathCoachModel" "lane" "[I") (by decide +kernel)
  have kw1 := hts (.fieldLink RX5 13 "OathCoachModel" "size" "[I") (by decide +kernel)
  have kw2 := hts (.fieldLink RX5 16 "OathCoachModel" "items" "[I") (by decide +kernel)
  have kw3 := hts (.constant RX5 63 (-1000001)) (by decide +kernel)
  have hi_X5 : ∀ w ∈ u_ws RX5 TX5 23, w ∈ wsX5_set := by decide +kernel
  have L87 : ∀ (H : Heap) (locs : List Loc) (b : ob_B) (v0 : Int32) (v1 : Int32) (ls : Array Slot), va_P (dC, dI) vwCl (ob_w5 o_b a_b cI cZ b) H → va_D A (ob_w5 o_b a_b cI cZ b) → va_S A s.heap H locs → lv_has ls 4 [(0, .ref o_b), (1, .int x1), (2, .int x2)] → fd_X5_set_L87 b x1 x2 v0 v1 = some (rr, b') → W p l e ({ frames := 2, cells := 0, slots := 0, locals := 42 } : Room) s m (List.toArray [.ref o_b, .int x1, .int x2, .int x3]) below meth c H locs 0 0 (MQ below ((ob_Qi (dC, dI) rr (ob_w5 o_b a_b cI cZ b')) A) (List.toArray [.ref o_b, .int x1, .int x2, .int x3]) s 0 0 A) (F0 m 87 ls [.int v0, .int v1, .ref (a_b 2)]) := by
    intro  H locs b v0 v1 ls hP hD hS hl hd
    rw [fd_X5_set_L87] at hd
    obtain ⟨h1_87, hd⟩ := ob_nn hd
    refine va_iast hx hb hK hP hD hS 3 0 rfl rfl h1_87 dX5_set_87 (fun H locs hP hD hS => ?_)
    obtain ⟨b_7, eb_7⟩ : ∃ z : ob_B, z = ob_A b 2 (upd (b.2 2) (Int32.toNatClampNeg v1) v0) := ⟨_, rfl⟩
    replace hd := ob_lx eb_7 hd
    replace hP : va_P (dC, dI) vwCl (ob_w5 o_b a_b cI cZ b_7) H := by rw [eb_7]; exact hP
    replace hD : va_D A (ob_w5 o_b a_b cI cZ b_7) := by rw [eb_7]; exact hD
    clear eb_7
    refine lv_aload_n hx hb dX5_set_88 rfl (lv_at hl 0 rfl) ?_
    refine lv_aload_n hx hb dX5_set_89 rfl (lv_at hl 0 rfl) ?_
    refine va_get (D := (dC, dI)) (ci := 5) (v := .ref (a_b 2)) (C := RX5) (T := TX5) (N := 23) hx hb hts hi_X5 hown hK hP 0 rfl rfl 2 (by decide) kw2 (fun _ h9 => h9) rfl dX5_set_90 ?_
    refine lv_bipush (v := 40) hx hb dX5_set_93 (by decide) ?_
    refine lv_iload_n hx hb dX5_set_95 rfl (lv_at hl 1 rfl) ?_
    refine lv_imul hx hb dX5_set_96 ?_
    refine lv_iload_n hx hb dX5_set_97 rfl (lv_at hl 2 rfl) ?_
    refine lv_iadd hx hb dX5_set_98 ?_
    obtain ⟨h1_99, hd⟩ := ob_nn hd
    refine va_iald hx hb hK hP 3 0 rfl rfl h1_99 dX5_set_99 ?_
    obtain ⟨r_8, b_9, hc_100, hd⟩ := ob_s2 hd
    refine ob_Vi (isC := [0, 1, 2, 3, 4, 5, 6, 7, 8, 9, 10, 11, 12, 13]) (isR := []) (is2 := [0, 1, 2, 3, 4, 5, 6, 7, 8, 9, 10, 11, 12, 13]) (wc := (ob_w5 o_b a_b cI cZ b_7)) (wr := ([] : va_W)) (w1 := (ob_w5 o_b a_b cI cZ b_9)) (w2 := (ob_w5 o_b a_b cI cZ b_9)) (b := o_b) (As := [.int ((b_7.2 2) (Int32.toNatClampNeg ((40 * x1) + x2)))]) (rest := []) ⟨hx, hb, hml, hown, hts⟩ (mt_X5_done l dC dI cI cZ cR cW xs _ o_b a_b b_7 ((b_7.2 2) (Int32.toNatClampNeg ((40 * x1) + x2))) r_8 b_9 hc_100) (cwV 1 hts gX5_set_X5_done rfl rfl rfl (by decide +kernel) ⟨Nat.le_of_ble_eq_true rfl, Nat.le_of_ble_eq_true rfl⟩) hK hE hP hD hS hA ⟨rfl, rfl, rfl, rfl, rfl, rfl, rfl⟩ 5 0 rfl rfl rfl hl rfl rfl (Nat.le_of_ble_eq_true rfl) ⟨Nat.le_of_ble_eq_true rfl, Nat.le_of_ble_eq_true rfl⟩ dX5_set_100 (fun H locs hP hD hS => ?_)
    refine W.widen (k := 0) (n := 0) (Nat.le_refl _) (Nat.le_refl _) ?_
    obtain ⟨e1, e2⟩ := ob_pp hd
    subst e1
    subst e2
    exact ob_iret hx hb hr hlocks hP hD hS dX5_set_103
  refine lv_iload_n hx hb dX5_set_0 rfl (lv_at hl 1 rfl) ?_
  obtain ⟨r_1, hc_1, hd⟩ := ob_s1 hd
  refine ob_Si (isC := []) (isR := [0, 1, 2, 3, 4, 5, 6, 7, 8, 9, 10, 11, 12, 13]) (is2 := [0, 1, 2, 3, 4, 5, 6, 7, 8, 9, 10, 11, 12, 13]) (wc := ([] : va_W)) (wr := (List.filterMap (fun i => (ob_w5 o_b a_b cI cZ b)[i]?) [0, 1, 2, 3, 4, 5, 6, 7, 8, 9, 10, 11, 12, 13])) (w1 := ([] : va_W)) (w2 := (ob_w5 o_b a_b cI cZ b)) (As := [.int x1]) (rest := []) ⟨hx, hb, hml, hown, hts⟩ (mt_X5_isRow l dC dI cI cZ cR cW xs _ x1 r_1 hc_1) (va_cwS 1 hts gX5_set_X5_isRow rfl rfl rfl (by decide +kernel) ⟨Nat.le_of_ble_eq_true rfl, Nat.le_of_ble_eq_true rfl⟩) hK hE hP hD hS hA ⟨rfl, rfl, rfl, rfl, rfl, rfl, rfl⟩ hl rfl rfl (Nat.le_of_ble_eq_true rfl) ⟨Nat.le_of_ble_eq_true rfl, Nat.le_of_ble_eq_true rfl⟩ dX5_set_1 (fun H locs hP hD hS => ?_)
  refine W.widen (k := 0) (n := 0) (Nat.le_refl _) (Nat.le_refl _) ?_
  refine lv_if_ne (tgt := 10) hx hb dX5_set_4 (by decide) (fun c_4 => ?_) (fun c_4 => ?_)
  · replace hd := ob_f c_4 hd
    refine lv_aload_n hx hb dX5_set_10 rfl (lv_at hl 0 rfl) ?_
    refine va_get (D := (dC, dI)) (ci := 5) (v := .ref (a_b 0)) (C := RX5) (T := TX5) (N := 23) hx hb hts hi_X5 hown hK hP 0 rfl rfl 0 (by decide) kw0 (fun _ h9 => h9) rfl dX5_set_11 ?_
    refine lv_iload_n hx hb dX5_set_14 rfl (lv_at hl 1 rfl) ?_
    obtain ⟨h1_15, hd⟩ := ob_nn hd
    refine va_iald hx hb hK hP 1 0 rfl rfl h1_15 dX5_set_15 ?_
    refine lv_if_ge (tgt := 25) hx hb dX5_set_16 (by decide) (fun c_16 => ?_) (fun c_16 => ?_)
    · replace hd := ob_t c_16 hd
      refine lv_iload_n hx hb dX5_set_25 rfl (lv_at hl 2 rfl) ?_
      refine lv_iconst (v := 0) hx hb dX5_set_26 (by decide) ?_
      refine lv_aload_n hx hb dX5_set_27 rfl (lv_at hl 0 rfl) ?_
      refine va_get (D := (dC, dI)) (ci := 5) (v := .ref (a_b 1)) (C := RX5) (T := TX5) (N := 23) hx hb hts hi_X5 hown hK hP 0 rfl rfl 1 (by decide) kw1 (fun _ h9 => h9) rfl dX5_set_28 ?_
      refine lv_iload_n hx hb dX5_set_31 rfl (lv_at hl 1 rfl) ?_
      obtain ⟨h1_32, hd⟩ := ob_nn hd
      refine va_iald hx hb hK hP 2 0 rfl rfl h1_32 dX5_set_32 ?_
      refine lv_iconst (v := 1) hx hb dX5_set_33 (by decide) ?_
      refine lv_isub hx hb dX5_set_34 ?_
      obtain ⟨r_2, hc_35, hd⟩ := ob_s1 hd
      refine ob_Si (isC := []) (isR := [0, 1, 2, 3, 4, 5, 6, 7, 8, 9, 10, 11, 12, 13]) (is2 := [0, 1, 2, 3, 4, 5, 6, 7, 8, 9, 10, 11, 12, 13]) (wc := ([] : va_W)) (wr := (List.filterMap (fun i => (ob_w5 o_b a_b cI cZ b)[i]?) [0, 1, 2, 3, 4, 5, 6, 7, 8, 9, 10, 11, 12, 13])) (w1 := ([] : va_W)) (w2 := (ob_w5 o_b a_b cI cZ b)) (As := [.int x2, .int 0, .int (((b.2 1) (Int32.toNatClampNeg x1)) - 1)]) (rest := []) ⟨hx, hb, hml, hown, hts⟩ (mt_X5_in l dC dI cI cZ cR cW xs _ x2 0 (((b.2 1) (Int32.toNatClampNeg x1)) - 1) r_2 hc_35) (va_cwS 3 hts gX5_set_X5_in rfl rfl rfl (by decide +kernel) ⟨Nat.le_of_ble_eq_true rfl, Nat.le_of_ble_eq_true rfl⟩) hK hE hP hD hS hA ⟨rfl, rfl, rfl, rfl, rfl, rfl, rfl⟩ hl rfl rfl (Nat.le_of_ble_eq_true rfl) ⟨Nat.le_of_ble_eq_true rfl, Nat.le_of_ble_eq_true rfl⟩ dX5_set_35 (fun H locs hP hD hS => ?_)
      refine W.widen (k := 0) (n := 0) (Nat.le_refl _) (Nat.le_refl _) ?_
      refine lv_if_ne (tgt := 47) hx hb dX5_set_38 (by decide) (fun c_38 => ?_) (fun c_38 => ?_)
      · replace hd := ob_f c_38 hd
        refine lv_aload_n hx hb dX5_set_47 rfl (lv_at hl 0 rfl) ?_
        refine va_get (D := (dC, dI)) (ci := 5) (v := .ref (a_b 2)) (C := RX5) (T := TX5) (N := 23) hx hb hts hi_X5 hown hK hP 0 rfl rfl 2 (by decide) kw2 (fun _ h9 => h9) rfl dX5_set_48 ?_
        refine lv_bipush (v := 40) hx hb dX5_set_51 (by decide) ?_
        refine lv_iload_n hx hb dX5_set_53 rfl (lv_at hl 1 rfl) ?_
        refine lv_imul hx hb dX5_set_54 ?_
        refine lv_iload_n hx hb dX5_set_55 rfl (lv_at hl 2 rfl) ?_
        refine lv_iadd hx hb dX5_set_56 ?_
        refine lv_aload_n hx hb dX5_set_57 rfl (lv_at hl 0 rfl) ?_
        refine va_get (D := (dC, dI)) (ci := 5) (v := .ref (a_b 0)) (C := RX5) (T := TX5) (N := 23) hx hb hts hi_X5 hown hK hP 0 rfl rfl 0 (by decide) kw0 (fun _ h9 => h9) rfl dX5_set_58 ?_
        refine lv_iload_n hx hb dX5_set_61 rfl (lv_at hl 1 rfl) ?_
        obtain ⟨h1_62, hd⟩ := ob_nn hd
        refine va_iald hx hb hK hP 1 0 rfl rfl h1_62 dX5_set_62 ?_
        refine lv_if_ne (tgt := 71) hx hb dX5_set_63 (by decide) (fun c_63 => ?_) (fun c_63 => ?_)
        · replace hd := ob_f c_63 hd
          refine lv_aload_n hx hb dX5_set_71 rfl (lv_at hl 0 rfl) ?_
          refine va_get (D := (dC, dI)) (ci := 5) (v := .ref (a_b 0)) (C := RX5) (T := TX5) (N := 23) hx hb hts hi_X5 hown hK hP 0 rfl rfl 0 (by decide) kw0 (fun _ h9 => h9) rfl dX5_set_72 ?_
          refine lv_iload_n hx hb dX5_set_75 rfl (lv_at hl 1 rfl) ?_
          obtain ⟨h1_76, hd⟩ := ob_nn hd
          refine va_iald hx hb hK hP 1 0 rfl rfl h1_76 dX5_set_76 ?_
          refine lv_iconst (v := 1) hx hb dX5_set_77 (by decide) ?_
          refine lv_icmp_ne (tgt := 86) hx hb dX5_set_78 (by decide) (fun c_78 => ?_) (fun c_78 => ?_)
          · replace hd := ob_f c_78 hd
            refine lv_iload_n hx hb dX5_set_86 rfl (lv_at hl 3 rfl) ?_
            exact L87   _ _ b x3 ((40 * x1) + x2) _ hP hD hS (lv_sub hl [0, 1, 2] rfl) hd
          · replace hd := ob_t c_78 hd
            refine lv_iload_n hx hb dX5_set_81 rfl (lv_at hl 3 rfl) ?_
            refine lv_i2s hx hb dX5_set_82 rfl ?_
            refine lv_goto (tgt := 87) hx hb dX5_set_83 (by decide) ?_
            exact L87   _ _ b (Int16.toInt32 (Int32.toInt16 x3)) ((40 * x1) + x2) _ hP hD hS (lv_sub hl [0, 1, 2] rfl) hd
        · replace hd := ob_t c_63 hd
          refine lv_iload_n hx hb dX5_set_66 rfl (lv_at hl 3 rfl) ?_
          refine lv_i2b hx hb dX5_set_67 rfl ?_
          refine lv_goto (tgt := 87) hx hb dX5_set_68 (by decide) ?_
          exact L87   _ _ b (Int8.toInt32 (Int32.toInt8 x3)) ((40 * x1) + x2) _ hP hD hS (lv_sub hl [0, 1, 2] rfl) hd
      · replace hd := ob_t c_38 hd
        refine lv_aload_n hx hb dX5_set_41 rfl (lv_at hl 0 rfl) ?_
        refine lv_iconst (v := 2) hx hb dX5_set_42 (by decide) ?_
        obtain ⟨r_3, b_4, hc_43, hd⟩ := ob_s2 hd
        refine ob_Vi (isC := [0, 1, 2, 3, 4, 5, 6, 7, 8, 9, 10, 11, 12, 13]) (isR := []) (is2 := [0, 1, 2, 3, 4, 5, 6, 7, 8, 9, 10, 11, 12, 13]) (wc := (ob_w5 o_b a_b cI cZ b)) (wr := ([] : va_W)) (w1 := (ob_w5 o_b a_b cI cZ b_4)) (w2 := (ob_w5 o_b a_b cI cZ b_4)) (b := o_b) (As := [.int 2]) (rest := []) ⟨hx, hb, hml, hown, hts⟩ (mt_X5_finds l dC dI cI cZ cR cW xs _ o_b a_b b 2 r_3 b_4 hc_43) (cwV 1 hts gX5_set_X5_finds rfl rfl rfl (by decide +kernel) ⟨Nat.le_of_ble_eq_true rfl, Nat.le_of_ble_eq_true rfl⟩) hK hE hP hD hS hA ⟨rfl, rfl, rfl, rfl, rfl, rfl, rfl⟩ 5 0 rfl rfl rfl hl rfl rfl (Nat.le_of_ble_eq_true rfl) ⟨Nat.le_of_ble_eq_true rfl, Nat.le_of_ble_eq_true rfl⟩ dX5_set_43 (fun H locs hP hD hS => ?_)
        refine W.widen (k := 0) (n := 0) (Nat.le_refl _) (Nat.le_refl _) ?_
        obtain ⟨e1, e2⟩ := ob_pp hd
        subst e1
        subst e2
        exact ob_iret hx hb hr hlocks hP hD hS dX5_set_46
    · replace hd := ob_f c_16 hd
      refine lv_aload_n hx hb dX5_set_19 rfl (lv_at hl 0 rfl) ?_
      refine lv_iconst (v := 1) hx hb dX5_set_20 (by decide) ?_
      obtain ⟨r_5, b_6, hc_21, hd⟩ := ob_s2 hd
      refine ob_Vi (isC := [0, 1, 2, 3, 4, 5, 6, 7, 8, 9, 10, 11, 12, 13]) (isR := []) (is2 := [0, 1, 2, 3, 4, 5, 6, 7, 8, 9, 10, 11, 12, 13]) (wc := (ob_w5 o_b a_b cI cZ b)) (wr := ([] : va_W)) (w1 := (ob_w5 o_b a_b cI cZ b_6)) (w2 := (ob_w5 o_b a_b cI cZ b_6)) (b := o_b) (As := [.int 1]) (rest := []) ⟨hx, hb, hml, hown, hts⟩ (mt_X5_finds l dC dI cI cZ cR cW xs _ o_b a_b b 1 r_5 b_6 hc_21) (cwV 1 hts gX5_set_X5_finds rfl rfl rfl (by decide +kernel) ⟨Nat.le_of_ble_eq_true rfl, Nat.le_of_ble_eq_true rfl⟩) hK hE hP hD hS hA ⟨rfl, rfl, rfl, rfl, rfl, rfl, rfl⟩ 5 0 rfl rfl rfl hl rfl rfl (Nat.le_of_ble_eq_true rfl) ⟨Nat.le_of_ble_eq_true rfl, Nat.le_of_ble_eq_true rfl⟩ dX5_set_21 (fun H locs hP hD hS => ?_)
      refine W.widen (k := 0) (n := 0) (Nat.le_refl _) (Nat.le_refl _) ?_
      obtain ⟨e1, e2⟩ := ob_pp hd
      subst e1
      subst e2
      exact ob_iret hx hb hr hlocks hP hD hS dX5_set_24
  · replace hd := ob_t c_4 hd
    refine lv_ldc hx hb hown kw3 dX5_set_7 ?_
    obtain ⟨e1, e2⟩ := ob_pp hd
    subst e1
    subst e2
    exact ob_iret hx hb hr hlocks hP hD hS dX5_set_9

def fd_X5_copy_L144 (k_120 : ob_B → Int32 → Int32 → Int32 → Int32 → Int32 → Int32 → Int32 → Option (Int32 × ob_B)) (b : ob_B) (x1 : Int32) (x2 : Int32) (x3 : Int32) (x4 : Int32) (x5 : Int32) (z6 : Int32) (z7 : Int32) (v0 : Int32) : Option (Int32 × ob_B) := if (((40 * x1) + x2) + v0) < 0 ∨ 320 ≤ Int32.toNatClampNeg (((40 * x1) + x2) + v0) then none else (ob_lt ((b.2 2) (Int32.toNatClampNeg (((40 * x1) + x2) + v0)) : Int32) (fun x_17 => if (((40 * x3) + x4) + v0) < 0 ∨ 320 ≤ Int32.toNatClampNeg (((40 * x3) + x4) + v0) then none else (ob_lt (ob_A b 2 (upd (b.2 2) (Int32.toNatClampNeg (((40 * x3) + x4) + v0)) x_17) : ob_B) (fun b_18 => ob_lt (z7 + 1 : Int32) (fun x_19 => k_120 b_18 x1 x2 x3 x4 x5 z6 x_19)))))
def fd_X5_copy_L181  (b : ob_B) (x5 : Int32) : Option (Int32 × ob_B) := ob_b2 (fd_X5_done b x5) (fun r_15 b_16 => some (r_15, b_16))
def fd_X5_copy_L120  : Nat → ob_B → Int32 → Int32 → Int32 → Int32 → Int32 → Int32 → Int32 → Option (Int32 × ob_B)
  | 0, _, _, _, _, _, _, _, _ => none
  | fu + 1, b, x1, x2, x3, x4, x5, z6, z7 => if x5 ≤ z7 then (fd_X5_copy_L181 b x5) else (if z6 = 0 then (fd_X5_copy_L144 (fd_X5_copy_L120 fu) b x1 x2 x3 x4 x5 z6 z7 z7) else (fd_X5_copy_L144 (fd_X5_copy_L120 fu) b x1 x2 x3 x4 x5 z6 z7 ((x5 - 1) - z7)))
def fd_X5_copy  (b : ob_B) (x1 : Int32) (x2 : Int32) (x3 : Int32) (x4 : Int32) (x5 : Int32) : Option (Int32 × ob_B) := ob_b1 (fd_X5_isRow x1) (fun r_1 => if r_1 = 0 then (some ((-1000001), b)) else (ob_b1 (fd_X5_isRow x3) (fun r_2 => if r_2 = 0 then (some ((-1000001), b)) else (if x1 < 0 ∨ 8 ≤ Int32.toNatClampNeg x1 then none else (if ((b.2 0) (Int32.toNatClampNeg x1)) < 0 then (ob_b2 (fd_X5_finds b 1) (fun r_3 b_4 => some (r_3, b_4))) else (if x3 < 0 ∨ 8 ≤ Int32.toNatClampNeg x3 then none else (if 0 ≤ ((b.2 0) (Int32.toNatClampNeg x3)) then (if x1 < 0 ∨ 8 ≤ Int32.toNatClampNeg x1 then none else (if x3 < 0 ∨ 8 ≤ Int32.toNatClampNeg x3 then none else (if ((b.2 0) (Int32.toNatClampNeg x1)) = ((b.2 0) (Int32.toNatClampNeg x3)) then (if x1 < 0 ∨ 8 ≤ Int32.toNatClampNeg x1 then none else (ob_b1 (fd_X5_isPart x2 x5 ((b.2 1) (Int32.toNatClampNeg x1))) (fun r_5 => if r_5 = 0 then (ob_b2 (fd_X5_finds b 2) (fun r_6 b_7 => some (r_6, b_7))) else (if x3 < 0 ∨ 8 ≤ Int32.toNatClampNeg x3 then none else (ob_b1 (fd_X5_isPart x4 x5 ((b.2 1) (Int32.toNatClampNeg x3))) (fun r_8 => if r_8 = 0 then (ob_b2 (fd_X5_finds b 2) (fun r_9 b_10 => some (r_9, b_10))) else (if x1 = x3 then (if x4 ≤ x2 then (fd_X5_copy_L120 2000 b x1 x2 x3 x4 x5 0 0) else (fd_X5_copy_L120 2000 b x1 x2 x3 x4 x5 1 0)) else (fd_X5_copy_L120 2000 b x1 x2 x3 x4 x5 0 0)))))))) else (ob_b2 (fd_X5_finds b 5) (fun r_11 b_12 => some (r_11, b_12)))))) else (ob_b2 (fd_X5_finds b 1) (fun r_13 b_14 => some (r_13, b_14))))))))))
set_option maxHeartbeats 4000000 in
set_option maxRecDepth 100000 in
theorem mt_X5_copy (l : Launch) (dC : Nat → ClassId) (dI : Nat → Nat → Nat) (cI cZ cR cW : ClassId) (xs : Nat → Nat) (sz : Nat) (o_b : Nat) (a_b : Nat → Nat) (b : ob_B) (x1 : Int32) (x2 : Int32) (x3 : Int32) (x4 : Int32) (x5 : Int32)  (rr : Int32) (b' : ob_B) (hd : fd_X5_copy b x1 x2 x3 x4 x5 = some (rr, b')) : ob_M l yX5_copy wsX5_copy ({ frames := 2, cells := 0, slots := 0, locals := 42 } : Room) (dC, dI) (ob_ty cI cZ cR cW) xs [.ref o_b, .int x1, .int x2, .int x3, .int x4, .int x5] (ob_w5 o_b a_b cI cZ b) sz (ob_Qi (dC, dI) rr (ob_w5 o_b a_b cI cZ b')) := by
  rw [fd_X5_copy] at hd
  refine ob_in (cc := cX5_copy) (maxL := 9) (ret := (some .int)) (own := RX5) (by decide) rfl rfl [(0, .ref o_b), (1, .int x1), (2, .int x2), (3, .int x3), (4, .int x4), (5, .int x5)] rfl (Nat.le_of_ble_eq_true rfl) ?_
  intro p e s m below meth c hx hb hr hml hown hts hlocks hnm hK A hA hE hP hD hS ls hl
  have kw0 := hts (.constant RX5 63 (-1000001)) (by decide +kernel)
  have kw1 := hts (.fieldLink RX5 7 "OathCoachModel" "lane" "[I") (by decide +kernel)
  have kw2 := hts (.fieldLink RX5 13 "OathCoachModel" "size" "[I") (by decide +kernel)
  have kw3 := hts (.fieldLink RX5 16 "OathCoachModel" "items" "[I") (by decide +kernel)
  have hi_X5 : ∀ w ∈ u_ws RX5 TX5 23, w ∈ wsX5_copy := by decide +kernel
  have L144 : ∀ (k_120 : ob_B → Int32 → Int32 → Int32 → Int32 → Int32 → Int32 → Int32 → Option (Int32 × ob_B)) (hk_120 : ∀ (H : Heap) (locs : List Loc) (b : ob_B) (z6 : Int32) (z7 : Int32) (ls : Array Slot), va_P (dC, dI) vwCl (ob_w5 o_b a_b cI cZ b) H → va_D A (ob_w5 o_b a_b cI cZ b) → va_S A s.heap H locs → lv_has ls 9 [(0, .ref o_b), (1, .int x1), (2, .int x2), (3, .int x3), (4, .int x4), (5, .int x5), (6, .int z6), (7, .int z7)] → k_120 b x1 x2 x3 x4 x5 z6 z7 = some (rr, b') → W p l e ({ frames := 2, cells := 0, slots := 0, locals := 42 } : Room) s m (List.toArray [.ref o_b, .int x1, .int x2, .int x3, .int x4, .int x5]) below meth c H locs 0 0 (MQ below ((ob_Qi (dC, dI) rr (ob_w5 o_b a_b cI cZ b')) A) (List.toArray [.ref o_b, .int x1, .int x2, .int x3, .int x4, .int x5]) s 0 0 A) (F0 m 120 ls [])), ∀ (H : Heap) (locs : List Loc) (b : ob_B) (z6 : Int32) (z7 : Int32) (v0 : Int32) (ls : Array Slot), va_P (dC, dI) vwCl (ob_w5 o_b a_b cI cZ b) H → va_D A (ob_w5 o_b a_b cI cZ b) → va_S A s.heap H locs → lv_has ls 9 [(0, .ref o_b), (1, .int x1), (2, .int x2), (3, .int x3), (4, .int x4), (5, .int x5), (6, .int z6), (7, .int z7)] → fd_X5_copy_L144 k_120 b x1 x2 x3 x4 x5 z6 z7 v0 = some (rr, b') → W p l e ({ frames := 2, cells := 0, slots := 0, locals := 42 } : Room) s m (List.toArray [.ref o_b, .int x1, .int x2, .int x3, .int x4, .int x5]) below meth c H locs 0 0 (MQ below ((ob_Qi (dC, dI) rr (ob_w5 o_b a_b cI cZ b')) A) (List.toArray [.ref o_b, .int x1, .int x2, .int x3, .int x4, .int x5]) s 0 0 A) (F0 m 144 ls [.int v0]) := by
    intro k_120 hk_120 H locs b z6 z7 v0 ls hP hD hS hl hd
    rw [fd_X5_copy_L144] at hd
    refine lv_istore (lv' := [(8, .int v0), (0, .ref o_b), (1, .int x1), (2, .int x2), (3, .int x3), (4, .int x4), (5, .int x5), (6, .int z6), (7, .int z7)]) hx hb dX5_copy_144 hl (by decide) rfl (fun ls hl => ?_)
    refine lv_aload_n hx hb dX5_copy_146 rfl (lv_at hl 1 rfl) ?_
    refine va_get (D := (dC, dI)) (ci := 5) (v := .ref (a_b 2)) (C := RX5) (T := TX5) (N := 23) hx hb hts hi_X5 hown hK hP 0 rfl rfl 2 (by decide) kw3 (fun _ h9 => h9) rfl dX5_copy_147 ?_
    refine lv_bipush (v := 40) hx hb dX5_copy_150 (by decide) ?_
    refine lv_iload_n hx hb dX5_copy_152 rfl (lv_at hl 4 rfl) ?_
    refine lv_imul hx hb dX5_copy_153 ?_
    refine lv_iload hx hb dX5_copy_154 (lv_at hl 5 rfl) ?_
    refine lv_iadd hx hb dX5_copy_156 ?_
    refine lv_iload hx hb dX5_copy_157 (lv_at hl 0 rfl) ?_
    refine lv_iadd hx hb dX5_copy_159 ?_
    refine lv_aload_n hx hb dX5_copy_160 rfl (lv_at hl 1 rfl) ?_
    refine va_get (D := (dC, dI)) (ci := 5) (v := .ref (a_b 2)) (C := RX5) (T := TX5) (N := 23) hx hb hts hi_X5 hown hK hP 0 rfl rfl 2 (by decide) kw3 (fun _ h9 => h9) rfl dX5_copy_161 ?_
    refine lv_bipush (v := 40) hx hb dX5_copy_164 (by decide) ?_
    refine lv_iload_n hx hb dX5_copy_166 rfl (lv_at hl 2 rfl) ?_
    refine lv_imul hx hb dX5_copy_167 ?_
    refine lv_iload_n hx hb dX5_copy_168 rfl (lv_at hl 3 rfl) ?_
    refine lv_iadd hx hb dX5_copy_169 ?_
    refine lv_iload hx hb dX5_copy_170 (lv_at hl 0 rfl) ?_
    refine lv_iadd hx hb dX5_copy_172 ?_
    obtain ⟨h1_173, hd⟩ := ob_nn hd
    refine va_iald hx hb hK hP 3 0 rfl rfl h1_173 dX5_copy_173 ?_
    refine lv_topi (fun x_17 ex_17 => ?_)
    replace hd := ob_lx ex_17 hd
    clear ex_17
    obtain ⟨h1_174, hd⟩ := ob_nn hd
    refine va_iast hx hb hK hP hD hS 3 0 rfl rfl h1_174 dX5_copy_174 (fun H locs hP hD hS => ?_)
    obtain ⟨b_18, eb_18⟩ : ∃ z : ob_B, z = ob_A b 2 (upd (b.2 2) (Int32.toNatClampNeg (((40 * x3) + x4) + v0)) x_17) := ⟨_, rfl⟩
    replace hd := ob_lx eb_18 hd
    replace hP : va_P (dC, dI) vwCl (ob_w5 o_b a_b cI cZ b_18) H := by rw [eb_18]; exact hP
    replace hD : va_D A (ob_w5 o_b a_b cI cZ b_18) := by rw [eb_18]; exact hD
    clear eb_18
    obtain ⟨x_19, ex_19⟩ : ∃ z : Int32, z = z7 + 1 := ⟨_, rfl⟩
    replace hd := ob_lx ex_19 hd
    refine lv_iinc (v := x_19) (lv' := [(7, .int x_19), (8, .int v0), (0, .ref o_b), (1, .int x1), (2, .int x2), (3, .int x3), (4, .int x4), (5, .int x5), (6, .int z6)]) hx hb dX5_copy_175 hl (k := 8) rfl (by rw [ex_19]; rfl) (by decide) rfl (fun ls hl => ?_)
    clear ex_19
    refine lv_goto (tgt := 120) hx hb dX5_copy_178 (by decide) ?_
    exact hk_120 _ _ b_18 z6 x_19 _ hP hD hS (lv_sub hl [2, 3, 4, 5, 6, 7, 8, 0] rfl) hd
  have L181 : ∀ (H : Heap) (locs : List Loc) (b : ob_B)  (ls : Array Slot), va_P (dC, dI) vwCl (ob_w5 o_b a_b cI cZ b) H → va_D A (ob_w5 o_b a_b cI cZ b) → va_S A s.heap H locs → lv_has ls 9 [(0, .ref o_b), (5, .int x5)] → fd_X5_copy_L181 b x5 = some (rr, b') → W p l e ({ frames := 2, cells := 0, slots := 0, locals := 42 } : Room) s m (List.toArray [.ref o_b, .int x1, .int x2, .int x3, .int x4, .int x5]) below meth c H locs 0 0 (MQ below ((ob_Qi (dC, dI) rr (ob_w5 o_b a_b cI cZ b')) A) (List.toArray [.ref o_b, .int x1, .int x2, .int x3, .int x4, .int x5]) s 0 0 A) (F0 m 181 ls []) := by
    intro  H locs b ls hP hD hS hl hd
    rw [fd_X5_copy_L181] at hd
    refine lv_aload_n hx hb dX5_copy_181 rfl (lv_at hl 0 rfl) ?_
    refine lv_iload hx hb dX5_copy_182 (lv_at hl 1 rfl) ?_
    obtain ⟨r_15, b_16, hc_184, hd⟩ := ob_s2 hd
    refine ob_Vi (isC := [0, 1, 2, 3, 4, 5, 6, 7, 8, 9, 10, 11, 12, 13]) (isR := []) (is2 := [0, 1, 2, 3, 4, 5, 6, 7, 8, 9, 10, 11, 12, 13]) (wc := (ob_w5 o_b a_b cI cZ b)) (wr := ([] : va_W)) (w1 := (ob_w5 o_b a_b cI cZ b_16)) (w2 := (ob_w5 o_b a_b cI cZ b_16)) (b := o_b) (As := [.int x5]) (rest := []) ⟨hx, hb, hml, hown, hts⟩ (mt_X5_done l dC dI cI cZ cR cW xs _ o_b a_b b x5 r_15 b_16 hc_184) (cwV 1 hts gX5_copy_X5_done rfl rfl rfl (by decide +kernel) ⟨Nat.le_of_ble_eq_true rfl, Nat.le_of_ble_eq_true rfl⟩) hK hE hP hD hS hA ⟨rfl, rfl, rfl, rfl, rfl, rfl, rfl⟩ 5 0 rfl rfl rfl hl rfl rfl (Nat.le_of_ble_eq_true rfl) ⟨Nat.le_of_ble_eq_true rfl, Nat.le_of_ble_eq_true rfl⟩ dX5_copy_184 (fun H locs hP hD hS => ?_)
    refine W.widen (k := 0) (n := 0) (Nat.le_refl _) (Nat.le_refl _) ?_
    obtain ⟨e1, e2⟩ := ob_pp hd
    subst e1
    subst e2
    exact ob_iret hx hb hr hlocks hP hD hS dX5_copy_187
  have L120 : ∀  (fu : Nat), ∀ (H : Heap) (locs : List Loc) (b : ob_B) (z6 : Int32) (z7 : Int32) (ls : Array Slot), va_P (dC, dI) vwCl (ob_w5 o_b a_b cI cZ b) H → va_D A (ob_w5 o_b a_b cI cZ b) → va_S A s.heap H locs → lv_has ls 9 [(0, .ref o_b), (1, .int x1), (2, .int x2), (3, .int x3), (4, .int x4), (5, .int x5), (6, .int z6), (7, .int z7)] → fd_X5_copy_L120 fu b x1 x2 x3 x4 x5 z6 z7 = some (rr, b') → W p l e ({ frames := 2, cells := 0, slots := 0, locals := 42 } : Room) s m (List.toArray [.ref o_b, .int x1, .int x2, .int x3, .int x4, .int x5]) below meth c H locs 0 0 (MQ below ((ob_Qi (dC, dI) rr (ob_w5 o_b a_b cI cZ b')) A) (List.toArray [.ref o_b, .int x1, .int x2, .int x3, .int x4, .int x5]) s 0 0 A) (F0 m 120 ls []) := by
    intro  fu
    induction fu with
    | zero =>
      intro H locs b z6 z7 ls hP hD hS hl hd
      rw [fd_X5_copy_L120] at hd
      cases hd
    | succ fu ih =>
      intro H locs b z6 z7 ls hP hD hS hl hd
      rw [fd_X5_copy_L120] at hd
      refine lv_iload hx hb dX5_copy_120 (lv_at hl 7 rfl) ?_
      refine lv_iload hx hb dX5_copy_122 (lv_at hl 5 rfl) ?_
      refine lv_icmp_ge (tgt := 181) hx hb dX5_copy_124 (by decide) (fun c_124 => ?_) (fun c_124 => ?_)
      · replace hd := ob_t c_124 hd
        exact L181   _ _ b _ hP hD hS (lv_sub hl [0, 5] rfl) hd
      · replace hd := ob_f c_124 hd
        refine lv_iload hx hb dX5_copy_127 (lv_at hl 6 rfl) ?_
        refine lv_if_eq (tgt := 142) hx hb dX5_copy_129 (by decide) (fun c_129 => ?_) (fun c_129 => ?_)
        · replace hd := ob_t c_129 hd
          refine lv_iload hx hb dX5_copy_142 (lv_at hl 7 rfl) ?_
          exact L144 (fd_X5_copy_L120 fu) ih  _ _ b z6 z7 z7 _ hP hD hS (lv_sub hl [0, 1, 2, 3, 4, 5, 6, 7] rfl) hd
        · replace hd := ob_f c_129 hd
          refine lv_iload hx hb dX5_copy_132 (lv_at hl 5 rfl) ?_
          refine lv_iconst (v := 1) hx hb dX5_copy_134 (by decide) ?_
          refine lv_isub hx hb dX5_copy_135 ?_
          refine lv_iload hx hb dX5_copy_136 (lv_at hl 7 rfl) ?_
          refine lv_isub hx hb dX5_copy_138 ?_
          refine lv_goto (tgt := 144) hx hb dX5_copy_139 (by decide) ?_
          exact L144 (fd_X5_copy_L120 fu) ih  _ _ b z6 z7 ((x5 - 1) - z7) _ hP hD hS (lv_sub hl [0, 1, 2, 3, 4, 5, 6, 7] rfl) hd
  refine lv_iload_n hx hb dX5_copy_0 rfl (lv_at hl 1 rfl) ?_
  obtain ⟨r_1, hc_1, hd⟩ := ob_s1 hd
  refine ob_Si (isC := []) (isR := [0, 1, 2, 3, 4, 5, 6, 7, 8, 9, 10, 11, 12, 13]) (is2 := [0, 1, 2, 3, 4, 5, 6, 7, 8, 9, 10, 11, 12, 13]) (wc := ([] : va_W)) (wr := (List.filterMap (fun i => (ob_w5 o_b a_b cI cZ b)[i]?) [0, 1, 2, 3, 4, 5, 6, 7, 8, 9, 10, 11, 12, 13])) (w1 := ([] : va_W)) (w2 := (ob_w5 o_b a_b cI cZ b)) (As := [.int x1]) (rest := []) ⟨hx, hb, hml, hown, hts⟩ (mt_X5_isRow l dC dI cI cZ cR cW xs _ x1 r_1 hc_1) (va_cwS 1 hts gX5_copy_X5_isRow rfl rfl rfl (by decide +kernel) ⟨Nat.le_of_ble_eq_true rfl, Nat.le_of_ble_eq_true rfl⟩) hK hE hP hD hS hA ⟨rfl, rfl, rfl, rfl, rfl, rfl, rfl⟩ hl rfl rfl (Nat.le_of_ble_eq_true rfl) ⟨Nat.le_of_ble_eq_true rfl, Nat.le_of_ble_eq_true rfl⟩ dX5_copy_1 (fun H locs hP hD hS => ?_)
  refine W.widen (k := 0) (n := 0) (Nat.le_refl _) (Nat.le_refl _) ?_
  refine lv_if_eq (tgt := 14) hx hb dX5_copy_4 (by decide) (fun c_4 => ?_) (fun c_4 => ?_)
  · replace hd := ob_t c_4 hd
    refine lv_ldc hx hb hown kw0 dX5_copy_14 ?_
    obtain ⟨e1, e2⟩ := ob_pp hd
    subst e1
    subst e2
    exact ob_iret hx hb hr hlocks hP hD hS dX5_copy_16
  · replace hd := ob_f c_4 hd
    refine lv_iload_n hx hb dX5_copy_7 rfl (lv_at hl 3 rfl) ?_
    obtain ⟨r_2, hc_8, hd⟩ := ob_s1 hd
    refine ob_Si (isC := []) (isR := [0, 1, 2, 3, 4, 5, 6, 7, 8, 9, 10, 11, 12, 13]) (is2 := [0, 1, 2, 3, 4, 5, 6, 7, 8, 9, 10, 11, 12, 13]) (wc := ([] : va_W)) (wr := (List.filterMap (fun i => (ob_w5 o_b a_b cI cZ b)[i]?) [0, 1, 2, 3, 4, 5, 6, 7, 8, 9, 10, 11, 12, 13])) (w1 := ([] : va_W)) (w2 := (ob_w5 o_b a_b cI cZ b)) (As := [.int x3]) (rest := []) ⟨hx, hb, hml, hown, hts⟩ (mt_X5_isRow l dC dI cI cZ cR cW xs _ x3 r_2 hc_8) (va_cwS 1 hts gX5_copy_X5_isRow rfl rfl rfl (by decide +kernel) ⟨Nat.le_of_ble_eq_true rfl, Nat.le_of_ble_eq_true rfl⟩) hK hE hP hD hS hA ⟨rfl, rfl, rfl, rfl, rfl, rfl, rfl⟩ hl rfl rfl (Nat.le_of_ble_eq_true rfl) ⟨Nat.le_of_ble_eq_true rfl, Nat.le_of_ble_eq_true rfl⟩ dX5_copy_8 (fun H locs hP hD hS => ?_)
    refine W.widen (k := 0) (n := 0) (Nat.le_refl _) (Nat.le_refl _) ?_
    refine lv_if_ne (tgt := 17) hx hb dX5_copy_11 (by decide) (fun c_11 => ?_) (fun c_11 => ?_)
    · replace hd := ob_f c_11 hd
      refine lv_aload_n hx hb dX5_copy_17 rfl (lv_at hl 0 rfl) ?_
      refine va_get (D := (dC, dI)) (ci := 5) (v := .ref (a_b 0)) (C := RX5) (T := TX5) (N := 23) hx hb hts hi_X5 hown hK hP 0 rfl rfl 0 (by decide) kw1 (fun _ h9 => h9) rfl dX5_copy_18 ?_
      refine lv_iload_n hx hb dX5_copy_21 rfl (lv_at hl 1 rfl) ?_
      obtain ⟨h1_22, hd⟩ := ob_nn hd
      refine va_iald hx hb hK hP 1 0 rfl rfl h1_22 dX5_copy_22 ?_
      refine lv_if_lt (tgt := 35) hx hb dX5_copy_23 (by decide) (fun c_23 => ?_) (fun c_23 => ?_)
      · replace hd := ob_t c_23 hd
        refine lv_aload_n hx hb dX5_copy_35 rfl (lv_at hl 0 rfl) ?_
        refine lv_iconst (v := 1) hx hb dX5_copy_36 (by decide) ?_
        obtain ⟨r_3, b_4, hc_37, hd⟩ := ob_s2 hd
        refine ob_Vi (isC := [0, 1, 2, 3, 4, 5, 6, 7, 8, 9, 10, 11, 12, 13]) (isR := []) (is2 := [0, 1, 2, 3, 4, 5, 6, 7, 8, 9, 10, 11, 12, 13]) (wc := (ob_w5 o_b a_b cI cZ b)) (wr := ([] : va_W)) (w1 := (ob_w5 o_b a_b cI cZ b_4)) (w2 := (ob_w5 o_b a_b cI cZ b_4)) (b := o_b) (As := [.int 1]) (rest := []) ⟨hx, hb, hml, hown, hts⟩ (mt_X5_finds l dC dI cI cZ cR cW xs _ o_b a_b b 1 r_3 b_4 hc_37) (cwV 1 hts gX5_copy_X5_finds rfl rfl rfl (by decide +kernel) ⟨Nat.le_of_ble_eq_true rfl, Nat.le_of_ble_eq_true rfl⟩) hK hE hP hD hS hA ⟨rfl, rfl, rfl, rfl, rfl, rfl, rfl⟩ 5 0 rfl rfl rfl hl rfl rfl (Nat.le_of_ble_eq_true rfl) ⟨Nat.le_of_ble_eq_true rfl, Nat.le_of_ble_eq_true rfl⟩ dX5_copy_37 (fun H locs hP hD hS => ?_)
        refine W.widen (k := 0) (n := 0) (Nat.le_refl _) (Nat.le_refl _) ?_
        obtain ⟨e1, e2⟩ := ob_pp hd
        subst e1
        subst e2
        exact ob_iret hx hb hr hlocks hP hD hS dX5_copy_40
      · replace hd := ob_f c_23 hd
        refine lv_aload_n hx hb dX5_copy_26 rfl (lv_at hl 0 rfl) ?_
        refine va_get (D := (dC, dI)) (ci := 5) (v := .ref (a_b 0)) (C := RX5) (T := TX5) (N := 23) hx hb hts hi_X5 hown hK hP 0 rfl rfl 0 (by decide) kw1 (fun _ h9 => h9) rfl dX5_copy_27 ?_
        refine lv_iload_n hx hb dX5_copy_30 rfl (lv_at hl 3 rfl) ?_
        obtain ⟨h1_31, hd⟩ := ob_nn hd
        refine va_iald hx hb hK hP 1 0 rfl rfl h1_31 dX5_copy_31 ?_
        refine lv_if_ge (tgt := 41) hx hb dX5_copy_32 (by decide) (fun c_32 => ?_) (fun c_32 => ?_)
        · replace hd := ob_t c_32 hd
          refine lv_aload_n hx hb dX5_copy_41 rfl (lv_at hl 0 rfl) ?_
          refine va_get (D := (dC, dI)) (ci := 5) (v := .ref (a_b 0)) (C := RX5) (T := TX5) (N := 23) hx hb hts hi_X5 hown hK hP 0 rfl rfl 0 (by decide) kw1 (fun _ h9 => h9) rfl dX5_copy_42 ?_
          refine lv_iload_n hx hb dX5_copy_45 rfl (lv_at hl 1 rfl) ?_
          obtain ⟨h1_46, hd⟩ := ob_nn hd
          refine va_iald hx hb hK hP 1 0 rfl rfl h1_46 dX5_copy_46 ?_
          refine lv_aload_n hx hb dX5_copy_47 rfl (lv_at hl 0 rfl) ?_
          refine va_get (D := (dC, dI)) (ci := 5) (v := .ref (a_b 0)) (C := RX5) (T := TX5) (N := 23) hx hb hts hi_X5 hown hK hP 0 rfl rfl 0 (by decide) kw1 (fun _ h9 => h9) rfl dX5_copy_48 ?_
          refine lv_iload_n hx hb dX5_copy_51 rfl (lv_at hl 3 rfl) ?_
          obtain ⟨h1_52, hd⟩ := ob_nn hd
          refine va_iald hx hb hK hP 1 0 rfl rfl h1_52 dX5_copy_52 ?_
          refine lv_icmp_eq (tgt := 62) hx hb dX5_copy_53 (by decide) (fun c_53 => ?_) (fun c_53 => ?_)
          · replace hd := ob_t c_53 hd
            refine lv_iload_n hx hb dX5_copy_62 rfl (lv_at hl 2 rfl) ?_
            refine lv_iload hx hb dX5_copy_63 (lv_at hl 5 rfl) ?_
            refine lv_aload_n hx hb dX5_copy_65 rfl (lv_at hl 0 rfl) ?_
            refine va_get (D := (dC, dI)) (ci := 5) (v := .ref (a_b 1)) (C := RX5) (T := TX5) (N := 23) hx hb hts hi_X5 hown hK hP 0 rfl rfl 1 (by decide) kw2 (fun _ h9 => h9) rfl dX5_copy_66 ?_
            refine lv_iload_n hx hb dX5_copy_69 rfl (lv_at hl 1 rfl) ?_
            obtain ⟨h1_70, hd⟩ := ob_nn hd
            refine va_iald hx hb hK hP 2 0 rfl rfl h1_70 dX5_copy_70 ?_
            obtain ⟨r_5, hc_71, hd⟩ := ob_s1 hd
            refine ob_Si (isC := []) (isR := [0, 1, 2, 3, 4, 5, 6, 7, 8, 9, 10, 11, 12, 13]) (is2 := [0, 1, 2, 3, 4, 5, 6, 7, 8, 9, 10, 11, 12, 13]) (wc := ([] : va_W)) (wr := (List.filterMap (fun i => (ob_w5 o_b a_b cI cZ b)[i]?) [0, 1, 2, 3, 4, 5, 6, 7, 8, 9, 10, 11, 12, 13])) (w1 := ([] : va_W)) (w2 := (ob_w5 o_b a_b cI cZ b)) (As := [.int x2, .int x5, .int ((b.2 1) (Int32.toNatClampNeg x1))]) (rest := []) ⟨hx, hb, hml, hown, hts⟩ (mt_X5_isPart l dC dI cI cZ cR cW xs _ x2 x5 ((b.2 1) (Int32.toNatClampNeg x1)) r_5 hc_71) (va_cwS 3 hts gX5_copy_X5_isPart rfl rfl rfl (by decide +kernel) ⟨Nat.le_of_ble_eq_true rfl, Nat.le_of_ble_eq_true rfl⟩) hK hE hP hD hS hA ⟨rfl, rfl, rfl, rfl, rfl, rfl, rfl⟩ hl rfl rfl (Nat.le_of_ble_eq_true rfl) ⟨Nat.le_of_ble_eq_true rfl, Nat.le_of_ble_eq_true rfl⟩ dX5_copy_71 (fun H locs hP hD hS => ?_)
            refine W.widen (k := 0) (n := 0) (Nat.le_refl _) (Nat.le_refl _) ?_
            refine lv_if_eq (tgt := 93) hx hb dX5_copy_74 (by decide) (fun c_74 => ?_) (fun c_74 => ?_)
            · replace hd := ob_t c_74 hd
              refine lv_aload_n hx hb dX5_copy_93 rfl (lv_at hl 0 rfl) ?_
              refine lv_iconst (v := 2) hx hb dX5_copy_94 (by decide) ?_
              obtain ⟨r_6, b_7, hc_95, hd⟩ := ob_s2 hd
              refine ob_Vi (isC := [0, 1, 2, 3, 4, 5, 6, 7, 8, 9, 10, 11, 12, 13]) (isR := []) (is2 := [0, 1, 2, 3, 4, 5, 6, 7, 8, 9, 10, 11, 12, 13]) (wc := (ob_w5 o_b a_b cI cZ b)) (wr := ([] : va_W)) (w1 := (ob_w5 o_b a_b cI cZ b_7)) (w2 := (ob_w5 o_b a_b cI cZ b_7)) (b := o_b) (As := [.int 2]) (rest := []) ⟨hx, hb, hml, hown, hts⟩ (mt_X5_finds l dC dI cI cZ cR cW xs _ o_b a_b b 2 r_6 b_7 hc_95) (cwV 1 hts gX5_copy_X5_finds rfl rfl rfl (by decide +kernel) ⟨Nat.le_of_ble_eq_true rfl, Nat.le_of_ble_eq_true rfl⟩) hK hE hP hD hS hA ⟨rfl, rfl, rfl, rfl, rfl, rfl, rfl⟩ 5 0 rfl rfl rfl hl rfl rfl (Nat.le_of_ble_eq_true rfl) ⟨Nat.le_of_ble_eq_true rfl, Nat.le_of_ble_eq_true rfl⟩ dX5_copy_95 (fun H locs hP hD hS => ?_)
              refine W.widen (k := 0) (n := 0) (Nat.le_refl _) (Nat.le_refl _) ?_
              obtain ⟨e1, e2⟩ := ob_pp hd
              subst e1
              subst e2
              exact ob_iret hx hb hr hlocks hP hD hS dX5_copy_98
            · replace hd := ob_f c_74 hd
              refine lv_iload hx hb dX5_copy_77 (lv_at hl 4 rfl) ?_
              refine lv_iload hx hb dX5_copy_79 (lv_at hl 5 rfl) ?_
              refine lv_aload_n hx hb dX5_copy_81 rfl (lv_at hl 0 rfl) ?_
              refine va_get (D := (dC, dI)) (ci := 5) (v := .ref (a_b 1)) (C := RX5) (T := TX5) (N := 23) hx hb hts hi_X5 hown hK hP 0 rfl rfl 1 (by decide) kw2 (fun _ h9 => h9) rfl dX5_copy_82 ?_
              refine lv_iload_n hx hb dX5_copy_85 rfl (lv_at hl 3 rfl) ?_
              obtain ⟨h1_86, hd⟩ := ob_nn hd
              refine va_iald hx hb hK hP 2 0 rfl rfl h1_86 dX5_copy_86 ?_
              obtain ⟨r_8, hc_87, hd⟩ := ob_s1 hd
              refine ob_Si (isC := []) (isR := [0, 1, 2, 3, 4, 5, 6, 7, 8, 9, 10, 11, 12, 13]) (is2 := [0, 1, 2, 3, 4, 5, 6, 7, 8, 9, 10, 11, 12, 13]) (wc := ([] : va_W)) (wr := (List.filterMap (fun i => (ob_w5 o_b a_b cI cZ b)[i]?) [0, 1, 2, 3, 4, 5, 6, 7, 8, 9, 10, 11, 12, 13])) (w1 := ([] : va_W)) (w2 := (ob_w5 o_b a_b cI cZ b)) (As := [.int x4, .int x5, .int ((b.2 1) (Int32.toNatClampNeg x3))]) (rest := []) ⟨hx, hb, hml, hown, hts⟩ (mt_X5_isPart l dC dI cI cZ cR cW xs _ x4 x5 ((b.2 1) (Int32.toNatClampNeg x3)) r_8 hc_87) (va_cwS 3 hts gX5_copy_X5_isPart rfl rfl rfl (by decide +kernel) ⟨Nat.le_of_ble_eq_true rfl, Nat.le_of_ble_eq_true rfl⟩) hK hE hP hD hS hA ⟨rfl, rfl, rfl, rfl, rfl, rfl, rfl⟩ hl rfl rfl (Nat.le_of_ble_eq_true rfl) ⟨Nat.le_of_ble_eq_true rfl, Nat.le_of_ble_eq_true rfl⟩ dX5_copy_87 (fun H locs hP hD hS => ?_)
              refine W.widen (k := 0) (n := 0) (Nat.le_refl _) (Nat.le_refl _) ?_
              refine lv_if_ne (tgt := 99) hx hb dX5_copy_90 (by decide) (fun c_90 => ?_) (fun c_90 => ?_)
              · replace hd := ob_f c_90 hd
                refine lv_iload_n hx hb dX5_copy_99 rfl (lv_at hl 1 rfl) ?_
                refine lv_iload_n hx hb dX5_copy_100 rfl (lv_at hl 3 rfl) ?_
                refine lv_icmp_ne (tgt := 114) hx hb dX5_copy_101 (by decide) (fun c_101 => ?_) (fun c_101 => ?_)
                · replace hd := ob_f c_101 hd
                  refine lv_iconst (v := 0) hx hb dX5_copy_114 (by decide) ?_
                  refine lv_istore (lv' := [(6, .int 0), (0, .ref o_b), (1, .int x1), (2, .int x2), (3, .int x3), (4, .int x4), (5, .int x5)]) hx hb dX5_copy_115 hl (by decide) rfl (fun ls hl => ?_)
                  refine lv_iconst (v := 0) hx hb dX5_copy_117 (by decide) ?_
                  refine lv_istore (lv' := [(7, .int 0), (6, .int 0), (0, .ref o_b), (1, .int x1), (2, .int x2), (3, .int x3), (4, .int x4), (5, .int x5)]) hx hb dX5_copy_118 hl (by decide) rfl (fun ls hl => ?_)
                  exact L120  2000 _ _ b 0 0 _ hP hD hS (lv_sub hl [2, 3, 4, 5, 6, 7, 1, 0] rfl) hd
                · replace hd := ob_t c_101 hd
                  refine lv_iload hx hb dX5_copy_104 (lv_at hl 4 rfl) ?_
                  refine lv_iload_n hx hb dX5_copy_106 rfl (lv_at hl 2 rfl) ?_
                  refine lv_icmp_le (tgt := 114) hx hb dX5_copy_107 (by decide) (fun c_107 => ?_) (fun c_107 => ?_)
                  · replace hd := ob_t c_107 hd
                    refine lv_iconst (v := 0) hx hb dX5_copy_114 (by decide) ?_
                    refine lv_istore (lv' := [(6, .int 0), (0, .ref o_b), (1, .int x1), (2, .int x2), (3, .int x3), (4, .int x4), (5, .int x5)]) hx hb dX5_copy_115 hl (by decide) rfl (fun ls hl => ?_)
                    refine lv_iconst (v := 0) hx hb dX5_copy_117 (by decide) ?_
                    refine lv_istore (lv' := [(7, .int 0), (6, .int 0), (0, .ref o_b), (1, .int x1), (2, .int x2), (3, .int x3), (4, .int x4), (5, .int x5)]) hx hb dX5_copy_118 hl (by decide) rfl (fun ls hl => ?_)
                    exact L120  2000 _ _ b 0 0 _ hP hD hS (lv_sub hl [2, 3, 4, 5, 6, 7, 1, 0] rfl) hd
                  · replace hd := ob_f c_107 hd
                    refine lv_iconst (v := 1) hx hb dX5_copy_110 (by decide) ?_
                    refine lv_goto (tgt := 115) hx hb dX5_copy_111 (by decide) ?_
                    refine lv_istore (lv' := [(6, .int 1), (0, .ref o_b), (1, .int x1), (2, .int x2), (3, .int x3), (4, .int x4), (5, .int x5)]) hx hb dX5_copy_115 hl (by decide) rfl (fun ls hl => ?_)
                    refine lv_iconst (v := 0) hx hb dX5_copy_117 (by decide) ?_
                    refine lv_istore (lv' := [(7, .int 0), (6, .int 1), (0, .ref o_b), (1, .int x1), (2, .int x2), (3, .int x3), (4, .int x4), (5, .int x5)]) hx hb dX5_copy_118 hl (by decide) rfl (fun ls hl => ?_)
                    exact L120  2000 _ _ b 1 0 _ hP hD hS (lv_sub hl [2, 3, 4, 5, 6, 7, 1, 0] rfl) hd
              · replace hd := ob_t c_90 hd
                refine lv_aload_n hx hb dX5_copy_93 rfl (lv_at hl 0 rfl) ?_
                refine lv_iconst (v := 2) hx hb dX5_copy_94 (by decide) ?_
                obtain ⟨r_9, b_10, hc_95, hd⟩ := ob_s2 hd
                refine ob_Vi (isC := [0, 1, 2, 3, 4, 5, 6, 7, 8, 9, 10, 11, 12, 13]) (isR := []) (is2 := [0, 1, 2, 3, 4, 5, 6, 7, 8, 9, 10, 11, 12, 13]) (wc := (ob_w5 o_b a_b cI cZ b)) (wr := ([] : va_W)) (w1 := (ob_w5 o_b a_b cI cZ b_10)) (w2 := (ob_w5 o_b a_b cI cZ b_10)) (b := o_b) (As := [.int 2]) (rest := []) ⟨hx, hb, hml, hown, hts⟩ (mt_X5_finds l dC dI cI cZ cR cW xs _ o_b a_b b 2 r_9 b_10 hc_95) (cwV 1 hts gX5_copy_X5_finds rfl rfl rfl (by decide +kernel) ⟨Nat.le_of_ble_eq_true rfl, Nat.le_of_ble_eq_true rfl⟩) hK hE hP hD hS hA ⟨rfl, rfl, rfl, rfl, rfl, rfl, rfl⟩ 5 0 rfl rfl rfl hl rfl rfl (Nat.le_of_ble_eq_true rfl) ⟨Nat.le_of_ble_eq_true rfl, Nat.le_of_ble_eq_true rfl⟩ dX5_copy_95 (fun H locs hP hD hS => ?_)
                refine W.widen (k := 0) (n := 0) (Nat.le_refl _) (Nat.le_refl _) ?_
                obtain ⟨e1, e2⟩ := ob_pp hd
                subst e1
                subst e2
                exact ob_iret hx hb hr hlocks hP hD hS dX5_copy_98
          · replace hd := ob_f c_53 hd
            refine lv_aload_n hx hb dX5_copy_56 rfl (lv_at hl 0 rfl) ?_
            refine lv_iconst (v := 5) hx hb dX5_copy_57 (by decide) ?_
            obtain ⟨r_11, b_12, hc_58, hd⟩ := ob_s2 hd
            refine ob_Vi (isC := [0, 1, 2, 3, 4, 5, 6, 7, 8, 9, 10, 11, 12, 13]) (isR := []) (is2 := [0, 1, 2, 3, 4, 5, 6, 7, 8, 9, 10, 11, 12, 13]) (wc := (ob_w5 o_b a_b cI cZ b)) (wr := ([] : va_W)) (w1 := (ob_w5 o_b a_b cI cZ b_12)) (w2 := (ob_w5 o_b a_b cI cZ b_12)) (b := o_b) (As := [.int 5]) (rest := []) ⟨hx, hb, hml, hown, hts⟩ (mt_X5_finds l dC dI cI cZ cR cW xs _ o_b a_b b 5 r_11 b_12 hc_58) (cwV 1 hts gX5_copy_X5_finds rfl rfl rfl (by decide +kernel) ⟨Nat.le_of_ble_eq_true rfl, Nat.le_of_ble_eq_true rfl⟩) hK hE hP hD hS hA ⟨rfl, rfl, rfl, rfl, rfl, rfl, rfl⟩ 5 0 rfl rfl rfl hl rfl rfl (Nat.le_of_ble_eq_true rfl) ⟨Nat.le_of_ble_eq_true rfl, Nat.le_of_ble_eq_true rfl⟩ dX5_copy_58 (fun H locs hP hD hS => ?_)
            refine W.widen (k := 0) (n := 0) (Nat.le_refl _) (Nat.le_refl _) ?_
            obtain ⟨e1, e2⟩ := ob_pp hd
            subst e1
            subst e2
            exact ob_iret hx hb hr hlocks hP hD hS dX5_copy_61
        · replace hd := ob_f c_32 hd
          refine lv_aload_n hx hb dX5_copy_35 rfl (lv_at hl 0 rfl) ?_
          refine lv_iconst (v := 1) hx hb dX5_copy_36 (by decide) ?_
          obtain ⟨r_13, b_14, hc_37, hd⟩ := ob_s2 hd
          refine ob_Vi (isC := [0, 1, 2, 3, 4, 5, 6, 7, 8, 9, 10, 11, 12, 13]) (isR := []) (is2 := [0, 1, 2, 3, 4, 5, 6, 7, 8, 9, 10, 11, 12, 13]) (wc := (ob_w5 o_b a_b cI cZ b)) (wr := ([] : va_W)) (w1 := (ob_w5 o_b a_b cI cZ b_14)) (w2 := (ob_w5 o_b a_b cI cZ b_14)) (b := o_b) (As := [.int 1]) (rest := []) ⟨hx, hb, hml, hown, hts⟩ (mt_X5_finds l dC dI cI cZ cR cW xs _ o_b a_b b 1 r_13 b_14 hc_37) (cwV 1 hts gX5_copy_X5_finds rfl rfl rfl (by decide +kernel) ⟨Nat.le_of_ble_eq_true rfl, Nat.le_of_ble_eq_true rfl⟩) hK hE hP hD hS hA ⟨rfl, rfl, rfl, rfl, rfl, rfl, rfl⟩ 5 0 rfl rfl rfl hl rfl rfl (Nat.le_of_ble_eq_true rfl) ⟨Nat.le_of_ble_eq_true rfl, Nat.le_of_ble_eq_true rfl⟩ dX5_copy_37 (fun H locs hP hD hS => ?_)
          refine W.widen (k := 0) (n := 0) (Nat.le_refl _) (Nat.le_refl _) ?_
          obtain ⟨e1, e2⟩ := ob_pp hd
          subst e1
          subst e2
          exact ob_iret hx hb hr hlocks hP hD hS dX5_copy_40
    · replace hd := ob_t c_11 hd
      refine lv_ldc hx hb hown kw0 dX5_copy_14 ?_
      obtain ⟨e1, e2⟩ := ob_pp hd
      subst e1
      subst e2
      exact ob_iret hx hb hr hlocks hP hD hS dX5_copy_16

def fd_X5_drop  (b : ob_B) (x1 : Int32) : Option (Int32 × ob_B) := ob_b1 (fd_X5_isRow x1) (fun r_1 => if r_1 = 0 then (some ((-1000001), b)) else (if x1 < 0 ∨ 8 ≤ Int32.toNatClampNeg x1 then none else (if 0 ≤ ((b.2 0) (Int32.toNatClampNeg x1)) then (if x1 < 0 ∨ 8 ≤ Int32.toNatClampNeg x1 then none else (ob_lt (ob_A b 0 (upd (b.2 0) (Int32.toNatClampNeg x1) (-1)) : ob_B) (fun b_2 => if x1 < 0 ∨ 8 ≤ Int32.toNatClampNeg x1 then none else (ob_b2 (fd_X5_done b_2 ((b_2.2 1) (Int32.toNatClampNeg x1))) (fun r_3 b_4 => some (r_3, b_4)))))) else (ob_b2 (fd_X5_finds b 1) (fun r_5 b_6 => some (r_5, b_6))))))
set_option maxHeartbeats 4000000 in
set_option maxRecDepth 100000 in
theorem mt_X5_drop (l : Launch) (dC : Nat → ClassId) (dI : Nat → Nat → Nat) (cI cZ cR cW : ClassId) (xs : Nat → Nat) (sz : Nat) (o_b : Nat) (a_b : Nat → Nat) (b : ob_B) (x1 : Int32)  (rr : Int32) (b' : ob_B) (hd : fd_X5_drop b x1 = some (rr, b')) : ob_M l yX5_drop wsX5_drop ({ frames := 2, cells := 0, slots := 0, locals := 42 } : Room) (dC, dI) (ob_ty cI cZ cR cW) xs [.ref o_b, .int x1] (ob_w5 o_b a_b cI cZ b) sz (ob_Qi (dC, dI) rr (ob_w5 o_b a_b cI cZ b')) := by
  rw [fd_X5_drop] at hd
  refine ob_in (cc := cX5_drop) (maxL := 2) (ret := (some .int)) (own := RX5) (by decide) rfl rfl [(0, .ref o_b), (1, .int x1)] rfl (Nat.le_of_ble_eq_true rfl) ?_
  intro p e s m below meth c hx hb hr hml hown hts hlocks hnm hK A hA hE hP hD hS ls hl
  have kw0 := hts (.fieldLink RX5 7 "OathCoachModel" "lane" "[I") (by decide +kernel)
  have kw1 := hts (.fieldLink RX5 13 "OathCoachModel" "size" "[I") (by decide +kernel)
  have kw2 := hts (.constant RX5 63 (-1000001)) (by decide +kernel)
  have hi_X5 : ∀ w ∈ u_ws RX5 TX5 23, w ∈ wsX5_drop := by decide +kernel
  refine lv_iload_n hx hb dX5_drop_0 rfl (lv_at hl 1 rfl) ?_
  obtain ⟨r_1, hc_1, hd⟩ := ob_s1 hd
  refine ob_Si (isC := []) (isR := [0, 1, 2, 3, 4, 5, 6, 7, 8, 9, 10, 11, 12, 13]) (is2 := [0, 1, 2, 3, 4, 5, 6, 7, 8, 9, 10, 11, 12, 13]) (wc := ([] : va_W)) (wr := (List.filterMap (fun i => (ob_w5 o_b a_b cI cZ b)[i]?) [0, 1, 2, 3, 4, 5, 6, 7, 8, 9, 10, 11, 12, 13])) (w1 := ([] : va_W)) (w2 := (ob_w5 o_b a_b cI cZ b)) (As := [.int x1]) (rest := []) ⟨hx, hb, hml, hown, hts⟩ (mt_X5_isRow l dC dI cI cZ cR cW xs _ x1 r_1 hc_1) (va_cwS 1 hts gX5_drop_X5_isRow rfl rfl rfl (by decide +kernel) ⟨Nat.le_of_ble_eq_true rfl, Nat.le_of_ble_eq_true rfl⟩) hK hE hP hD hS hA ⟨rfl, rfl, rfl, rfl, rfl, rfl, rfl⟩ hl rfl rfl (Nat.le_of_ble_eq_true rfl) ⟨Nat.le_of_ble_eq_true rfl, Nat.le_of_ble_eq_true rfl⟩ dX5_drop_1 (fun H locs hP hD hS => ?_)
  refine W.widen (k := 0) (n := 0) (Nat.le_refl _) (Nat.le_refl _) ?_
  refine lv_if_ne (tgt := 10) hx hb dX5_drop_4 (by decide) (fun c_4 => ?_) (fun c_4 => ?_)
  · replace hd := ob_f c_4 hd
    refine lv_aload_n hx hb dX5_drop_10 rfl (lv_at hl 0 rfl) ?_
    refine va_get (D := (dC, dI)) (ci := 5) (v := .ref (a_b 0)) (C := RX5) (T := TX5) (N := 23) hx hb hts hi_X5 hown hK hP 0 rfl rfl 0 (by decide) kw0 (fun _ h9 => h9) rfl dX5_drop_11 ?_
    refine lv_iload_n hx hb dX5_drop_14 rfl (lv_at hl 1 rfl) ?_
    obtain ⟨h1_15, hd⟩ := ob_nn hd
    refine va_iald hx hb hK hP 1 0 rfl rfl h1_15 dX5_drop_15 ?_
    refine lv_if_ge (tgt := 25) hx hb dX5_drop_16 (by decide) (fun c_16 => ?_) (fun c_16 => ?_)
    · replace hd := ob_t c_16 hd
      refine lv_aload_n hx hb dX5_drop_25 rfl (lv_at hl 0 rfl) ?_
      refine va_get (D := (dC, dI)) (ci := 5) (v := .ref (a_b 0)) (C := RX5) (T := TX5) (N := 23) hx hb hts hi_X5 hown hK hP 0 rfl rfl 0 (by decide) kw0 (fun _ h9 => h9) rfl dX5_drop_26 ?_
      refine lv_iload_n hx hb dX5_drop_29 rfl (lv_at hl 1 rfl) ?_
      refine lv_iconst (v := (-1)) hx hb dX5_drop_30 (by decide) ?_
      obtain ⟨h1_31, hd⟩ := ob_nn hd
      refine va_iast hx hb hK hP hD hS 1 0 rfl rfl h1_31 dX5_drop_31 (fun H locs hP hD hS => ?_)
      obtain ⟨b_2, eb_2⟩ : ∃ z : ob_B, z = ob_A b 0 (upd (b.2 0) (Int32.toNatClampNeg x1) (-1)) := ⟨_, rfl⟩
      replace hd := ob_lx eb_2 hd
      replace hP : va_P (dC, dI) vwCl (ob_w5 o_b a_b cI cZ b_2) H := by rw [eb_2]; exact hP
      replace hD : va_D A (ob_w5 o_b a_b cI cZ b_2) := by rw [eb_2]; exact hD
      clear eb_2
      refine lv_aload_n hx hb dX5_drop_32 rfl (lv_at hl 0 rfl) ?_
      refine lv_aload_n hx hb dX5_drop_33 rfl (lv_at hl 0 rfl) ?_
      refine va_get (D := (dC, dI)) (ci := 5) (v := .ref (a_b 1)) (C := RX5) (T := TX5) (N := 23) hx hb hts hi_X5 hown hK hP 0 rfl rfl 1 (by decide) kw1 (fun _ h9 => h9) rfl dX5_drop_34 ?_
      refine lv_iload_n hx hb dX5_drop_37 rfl (lv_at hl 1 rfl) ?_
      obtain ⟨h1_38, hd⟩ := ob_nn hd
      refine va_iald hx hb hK hP 2 0 rfl rfl h1_38 dX5_drop_38 ?_
      obtain ⟨r_3, b_4, hc_39, hd⟩ := ob_s2 hd
      refine ob_Vi (isC := [0, 1, 2, 3, 4, 5, 6, 7, 8, 9, 10, 11, 12, 13]) (isR := []) (is2 := [0, 1, 2, 3, 4, 5, 6, 7, 8, 9, 10, 11, 12, 13]) (wc := (ob_w5 o_b a_b cI cZ b_2)) (wr := ([] : va_W)) (w1 := (ob_w5 o_b a_b cI cZ b_4)) (w2 := (ob_w5 o_b a_b cI cZ b_4)) (b := o_b) (As := [.int ((b_2.2 1) (Int32.toNatClampNeg x1))]) (rest := []) ⟨hx, hb, hml, hown, hts⟩ (mt_X5_done l dC dI cI cZ cR cW xs _ o_b a_b b_2 ((b_2.2 1) (Int32.toNatClampNeg x1)) r_3 b_4 hc_39) (cwV 1 hts gX5_drop_X5_done rfl rfl rfl (by decide +kernel) ⟨Nat.le_of_ble_eq_true rfl, Nat.le_of_ble_eq_true rfl⟩) hK hE hP hD hS hA ⟨rfl, rfl, rfl, rfl, rfl, rfl, rfl⟩ 5 0 rfl rfl rfl hl rfl rfl (Nat.le_of_ble_eq_true rfl) ⟨Nat.le_of_ble_eq_true rfl, Nat.le_of_ble_eq_true rfl⟩ dX5_drop_39 (fun H locs hP hD hS => ?_)
      refine W.widen (k := 0) (n := 0) (Nat.le_refl _) (Nat.le_refl _) ?_
      obtain ⟨e1, e2⟩ := ob_pp hd
      subst e1
      subst e2
      exact ob_iret hx hb hr hlocks hP hD hS dX5_drop_42
    · replace hd := ob_f c_16 hd
      refine lv_aload_n hx hb dX5_drop_19 rfl (lv_at hl 0 rfl) ?_
      refine lv_iconst (v := 1) hx hb dX5_drop_20 (by decide) ?_
      obtain ⟨r_5, b_6, hc_21, hd⟩ := ob_s2 hd
      refine ob_Vi (isC := [0, 1, 2, 3, 4, 5, 6, 7, 8, 9, 10, 11, 12, 13]) (isR := []) (is2 := [0, 1, 2, 3, 4, 5, 6, 7, 8, 9, 10, 11, 12, 13]) (wc := (ob_w5 o_b a_b cI cZ b)) (wr := ([] : va_W)) (w1 := (ob_w5 o_b a_b cI cZ b_6)) (w2 := (ob_w5 o_b a_b cI cZ b_6)) (b := o_b) (As := [.int 1]) (rest := []) ⟨hx, hb, hml, hown, hts⟩ (mt_X5_finds l dC dI cI cZ cR cW xs _ o_b a_b b 1 r_5 b_6 hc_21) (cwV 1 hts gX5_drop_X5_finds rfl rfl rfl (by decide +kernel) ⟨Nat.le_of_ble_eq_true rfl, Nat.le_of_ble_eq_true rfl⟩) hK hE hP hD hS hA ⟨rfl, rfl, rfl, rfl, rfl, rfl, rfl⟩ 5 0 rfl rfl rfl hl rfl rfl (Nat.le_of_ble_eq_true rfl) ⟨Nat.le_of_ble_eq_true rfl, Nat.le_of_ble_eq_true rfl⟩ dX5_drop_21 (fun H locs hP hD hS => ?_)
      refine W.widen (k := 0) (n := 0) (Nat.le_refl _) (Nat.le_refl _) ?_
      obtain ⟨e1, e2⟩ := ob_pp hd
      subst e1
      subst e2
      exact ob_iret hx hb hr hlocks hP hD hS dX5_drop_24
  · replace hd := ob_t c_4 hd
    refine lv_ldc hx hb hown kw2 dX5_drop_7 ?_
    obtain ⟨e1, e2⟩ := ob_pp hd
    subst e1
    subst e2
    exact ob_iret hx hb hr hlocks hP hD hS dX5_drop_9

def fd_X5_feed  (b : ob_B) (x1 : Int32) : Option (Int32 × ob_B) := ob_b1 (fd_X5_in x1 0 255) (fun r_1 => if r_1 = 0 then (some ((-1000001), b)) else (if (b.1 4) = 100 then (some ((-1000003), b)) else (if (b.1 4) < 0 ∨ 100 ≤ Int32.toNatClampNeg (b.1 4) then none else (ob_lt (ob_A b 5 (upd (b.2 5) (Int32.toNatClampNeg (b.1 4)) x1) : ob_B) (fun b_2 => ob_lt ((b_2.1 4) + 1 : Int32) (fun x_3 => ob_lt (ob_I b_2 4 x_3 : ob_B) (fun b_4 => some (b_4.1 4, b_4))))))))
set_option maxHeartbeats 4000000 in
set_option maxRecDepth 100000 in
theorem mt_X5_feed (l : Launch) (dC : Nat → ClassId) (dI : Nat → Nat → Nat) (cI cZ cR cW : ClassId) (xs : Nat → Nat) (sz : Nat) (o_b : Nat) (a_b : Nat → Nat) (b : ob_B) (x1 : Int32)  (rr : Int32) (b' : ob_B) (hd : fd_X5_feed b x1 = some (rr, b')) : ob_M l yX5_feed wsX5_feed ({ frames := 1, cells := 0, slots := 0, locals := 22 } : Room) (dC, dI) (ob_ty cI cZ cR cW) xs [.ref o_b, .int x1] (ob_w5 o_b a_b cI cZ b) sz (ob_Qi (dC, dI) rr (ob_w5 o_b a_b cI cZ b')) := by
  rw [fd_X5_feed] at hd
  refine ob_in (cc := cX5_feed) (maxL := 2) (ret := (some .int)) (own := RX5) (by decide) rfl rfl [(0, .ref o_b), (1, .int x1)] rfl (Nat.le_of_ble_eq_true rfl) ?_
  intro p e s m below meth c hx hb hr hml hown hts hlocks hnm hK A hA hE hP hD hS ls hl
  have kw0 := hts (.fieldLink RX5 74 "OathCoachModel" "letters" "I") (by decide +kernel)
  have kw1 := hts (.fieldLink RX5 19 "OathCoachModel" "tape" "[I") (by decide +kernel)
  have kw2 := hts (.constant RX5 77 (-1000003)) (by decide +kernel)
  have kw3 := hts (.constant RX5 63 (-1000001)) (by decide +kernel)
  have hi_X5 : ∀ w ∈ u_ws RX5 TX5 23, w ∈ wsX5_feed := by decide +kernel
  refine lv_iload_n hx hb dX5_feed_0 rfl (lv_at hl 1 rfl) ?_
  refine lv_iconst (v := 0) hx hb dX5_feed_1 (by decide) ?_
  refine lv_sipush (v := 255) hx hb dX5_feed_2 (by decide) ?_
  obtain ⟨r_1, hc_5, hd⟩ := ob_s1 hd
  refine ob_Si (isC := []) (isR := [0, 1, 2, 3, 4, 5, 6, 7, 8, 9, 10, 11, 12, 13]) (is2 := [0, 1, 2, 3, 4, 5, 6, 7, 8, 9, 10, 11, 12, 13]) (wc := ([] : va_W)) (wr := (List.filterMap (fun i => (ob_w5 o_b a_b cI cZ b)[i]?) [0, 1, 2, 3, 4, 5, 6, 7, 8, 9, 10, 11, 12, 13])) (w1 := ([] : va_W)) (w2 := (ob_w5 o_b a_b cI cZ b)) (As := [.int x1, .int 0, .int 255]) (rest := []) ⟨hx, hb, hml, hown, hts⟩ (mt_X5_in l dC dI cI cZ cR cW xs _ x1 0 255 r_1 hc_5) (va_cwS 3 hts gX5_feed_X5_in rfl rfl rfl (by decide +kernel) ⟨Nat.le_of_ble_eq_true rfl, Nat.le_of_ble_eq_true rfl⟩) hK hE hP hD hS hA ⟨rfl, rfl, rfl, rfl, rfl, rfl, rfl⟩ hl rfl rfl (Nat.le_of_ble_eq_true rfl) ⟨Nat.le_of_ble_eq_true rfl, Nat.le_of_ble_eq_true rfl⟩ dX5_feed_5 (fun H locs hP hD hS => ?_)
  refine W.widen (k := 0) (n := 0) (Nat.le_refl _) (Nat.le_refl _) ?_
  refine lv_if_ne (tgt := 14) hx hb dX5_feed_8 (by decide) (fun c_8 => ?_) (fun c_8 => ?_)
  · replace hd := ob_f c_8 hd
    refine lv_aload_n hx hb dX5_feed_14 rfl (lv_at hl 0 rfl) ?_
    refine va_get (D := (dC, dI)) (ci := 5) (v := .int (b.1 4)) (C := RX5) (T := TX5) (N := 23) hx hb hts hi_X5 hown hK hP 0 rfl rfl 4 (by decide) kw0 (fun _ h9 => h9) rfl dX5_feed_15 ?_
    refine lv_bipush (v := 100) hx hb dX5_feed_18 (by decide) ?_
    refine lv_icmp_ne (tgt := 26) hx hb dX5_feed_20 (by decide) (fun c_20 => ?_) (fun c_20 => ?_)
    · replace hd := ob_f c_20 hd
      refine lv_aload_n hx hb dX5_feed_26 rfl (lv_at hl 0 rfl) ?_
      refine va_get (D := (dC, dI)) (ci := 5) (v := .ref (a_b 5)) (C := RX5) (T := TX5) (N := 23) hx hb hts hi_X5 hown hK hP 0 rfl rfl 5 (by decide) kw1 (fun _ h9 => h9) rfl dX5_feed_27 ?_
      refine lv_aload_n hx hb dX5_feed_30 rfl (lv_at hl 0 rfl) ?_
      refine va_get (D := (dC, dI)) (ci := 5) (v := .int (b.1 4)) (C := RX5) (T := TX5) (N := 23) hx hb hts hi_X5 hown hK hP 0 rfl rfl 4 (by decide) kw0 (fun _ h9 => h9) rfl dX5_feed_31 ?_
      refine lv_iload_n hx hb dX5_feed_34 rfl (lv_at hl 1 rfl) ?_
      obtain ⟨h1_35, hd⟩ := ob_nn hd
      refine va_iast hx hb hK hP hD hS 4 0 rfl rfl h1_35 dX5_feed_35 (fun H locs hP hD hS => ?_)
      obtain ⟨b_2, eb_2⟩ : ∃ z : ob_B, z = ob_A b 5 (upd (b.2 5) (Int32.toNatClampNeg (b.1 4)) x1) := ⟨_, rfl⟩
      replace hd := ob_lx eb_2 hd
      replace hP : va_P (dC, dI) vwCl (ob_w5 o_b a_b cI cZ b_2) H := by rw [eb_2]; exact hP
      replace hD : va_D A (ob_w5 o_b a_b cI cZ b_2) := by rw [eb_2]; exact hD
      clear eb_2
      refine lv_aload_n hx hb dX5_feed_36 rfl (lv_at hl 0 rfl) ?_
      refine lv_dup hx hb dX5_feed_37 rfl ?_
      refine va_get (D := (dC, dI)) (ci := 5) (v := .int (b_2.1 4)) (C := RX5) (T := TX5) (N := 23) hx hb hts hi_X5 hown hK hP 0 rfl rfl 4 (by decide) kw0 (fun _ h9 => h9) rfl dX5_feed_38 ?_
      refine lv_iconst (v := 1) hx hb dX5_feed_41 (by decide) ?_
      refine lv_iadd hx hb dX5_feed_42 ?_
      refine lv_topi (fun x_3 ex_3 => ?_)
      replace hd := ob_lx ex_3 hd
      clear ex_3
      refine va_put (D := (dC, dI)) (ci := 5) (v := .int x_3) (ty := .int) (C := RX5) (T := TX5) (N := 23) hx hb hts hi_X5 tyX5 tyX5_ok nmX5 hown hK hP hD hS 0 rfl rfl 4 (by decide) kw0 (fun _ h9 => h9) rfl (by decide +kernel) rfl rfl (Nat.le_of_ble_eq_true rfl) dX5_feed_43 (fun H locs hP hD hS => ?_)
      obtain ⟨b_4, eb_4⟩ : ∃ z : ob_B, z = ob_I b_2 4 x_3 := ⟨_, rfl⟩
      replace hd := ob_lx eb_4 hd
      replace hP : va_P (dC, dI) vwCl (ob_w5 o_b a_b cI cZ b_4) H := by rw [eb_4]; exact hP
      replace hD : va_D A (ob_w5 o_b a_b cI cZ b_4) := by rw [eb_4]; exact hD
      clear eb_4
      refine lv_aload_n hx hb dX5_feed_46 rfl (lv_at hl 0 rfl) ?_
      refine va_get (D := (dC, dI)) (ci := 5) (v := .int (b_4.1 4)) (C := RX5) (T := TX5) (N := 23) hx hb hts hi_X5 hown hK hP 0 rfl rfl 4 (by decide) kw0 (fun _ h9 => h9) rfl dX5_feed_47 ?_
      obtain ⟨e1, e2⟩ := ob_pp hd
      subst e1
      subst e2
      exact ob_iret hx hb hr hlocks hP hD hS dX5_feed_50
    · replace hd := ob_t c_20 hd
      refine lv_ldc hx hb hown kw2 dX5_feed_23 ?_
      obtain ⟨e1, e2⟩ := ob_pp hd
      subst e1
      subst e2
      exact ob_iret hx hb hr hlocks hP hD hS dX5_feed_25
  · replace hd := ob_t c_8 hd
    refine lv_ldc hx hb hown kw3 dX5_feed_11 ?_
    obtain ⟨e1, e2⟩ := ob_pp hd
    subst e1
    subst e2
    exact ob_iret hx hb hr hlocks hP hD hS dX5_feed_13

def fd_X5_nextToken_L123 (k_52 : ob_B → Option (ob_B)) (b : ob_B) (v0 : Int32) : Option (ob_B) := ob_lt (ob_I b 9 v0 : ob_B) (fun b_14 => ob_lt ((b_14.1 6) + 1 : Int32) (fun x_15 => ob_lt (ob_I b_14 6 x_15 : ob_B) (fun b_16 => k_52 b_16)))
def fd_X5_nextToken_L139  (b : ob_B)  : Option (ob_B) := if ((b.1 6) - (b.1 7)) ≤ 2 then (ob_lt (ob_I b 8 (-1) : ob_B) (fun b_12 => some (b_12))) else (ob_lt (ob_I b 8 (-3) : ob_B) (fun b_13 => some (b_13)))
def fd_X5_nextToken_L52  : Nat → ob_B → Option (ob_B)
  | 0, _ => none
  | fu + 1, b => if (b.1 4) ≤ (b.1 6) then (fd_X5_nextToken_L139 b) else (if (b.1 6) < 0 ∨ 100 ≤ Int32.toNatClampNeg (b.1 6) then none else (ob_b1 (fd_X5_in ((b.2 5) (Int32.toNatClampNeg (b.1 6))) 48 57) (fun r_11 => if r_11 = 0 then (fd_X5_nextToken_L139 b) else (if 2 ≤ ((b.1 6) - (b.1 7)) then (fd_X5_nextToken_L123 (fd_X5_nextToken_L52 fu) b (b.1 9)) else (if (b.1 6) < 0 ∨ 100 ≤ Int32.toNatClampNeg (b.1 6) then none else (fd_X5_nextToken_L123 (fd_X5_nextToken_L52 fu) b (((10 * (b.1 9)) + ((b.2 5) (Int32.toNatClampNeg (b.1 6)))) - 48)))))))
def fd_X5_nextToken_L193  (b : ob_B) (v0 : Int32) : Option (ob_B) := ob_lt (ob_I b 8 v0 : ob_B) (fun b_8 => ob_lt ((b_8.1 6) + 1 : Int32) (fun x_9 => ob_lt (ob_I b_8 6 x_9 : ob_B) (fun b_10 => some (b_10))))
def fd_X5_nextToken_L187  (b : ob_B) (z1 : Int32) : Option (ob_B) := fd_X5_nextToken_L193 b z1
def fd_X5_nextToken  (b : ob_B)  : Option (ob_B) := ob_lt (b.1 6 : Int32) (fun x_1 => ob_lt (ob_I b 7 x_1 : ob_B) (fun b_2 => ob_lt (ob_I b_2 9 0 : ob_B) (fun b_3 => if (b_3.1 6) = (b_3.1 4) then (ob_lt (ob_I b_3 8 (-2) : ob_B) (fun b_7 => some (b_7))) else (if (b_3.1 6) < 0 ∨ 100 ≤ Int32.toNatClampNeg (b_3.1 6) then none else (ob_lt ((b_3.2 5) (Int32.toNatClampNeg (b_3.1 6)) : Int32) (fun x_4 => ob_b1 (fd_X5_in x_4 48 57) (fun r_5 => if r_5 = 0 then (ob_b1 (fd_X5_in x_4 97 122) (fun r_6 => if r_6 = 0 then (if x_4 = 44 then (fd_X5_nextToken_L187 b_3 x_4) else (if x_4 = 59 then (fd_X5_nextToken_L187 b_3 x_4) else (fd_X5_nextToken_L193 b_3 (-3)))) else (fd_X5_nextToken_L187 b_3 x_4))) else (fd_X5_nextToken_L52 2000 b_3))))))))
set_option maxHeartbeats 4000000 in
set_option maxRecDepth 100000 in
theorem mt_X5_nextToken (l : Launch) (dC : Nat → ClassId) (dI : Nat → Nat → Nat) (cI cZ cR cW : ClassId) (xs : Nat → Nat) (sz : Nat) (o_b : Nat) (a_b : Nat → Nat) (b : ob_B)   (b' : ob_B) (hd : fd_X5_nextToken b = some (b')) : ob_M l yX5_nextToken wsX5_nextToken ({ frames := 1, cells := 0, slots := 0, locals := 22 } : Room) (dC, dI) (ob_ty cI cZ cR cW) xs [.ref o_b] (ob_w5 o_b a_b cI cZ b) sz (ob_Qv (dC, dI) (ob_w5 o_b a_b cI cZ b')) := by
  rw [fd_X5_nextToken] at hd
  refine ob_in (cc := cX5_nextToken) (maxL := 2) (ret := none) (own := RX5) (by decide) rfl rfl [(0, .ref o_b)] rfl (Nat.le_of_ble_eq_true rfl) ?_
  intro p e s m below meth c hx hb hr hml hown hts hlocks hnm hK A hA hE hP hD hS ls hl
  have kw0 := hts (.fieldLink RX5 78 "OathCoachModel" "position" "I") (by decide +kernel)
  have kw1 := hts (.fieldLink RX5 81 "OathCoachModel" "tokenAt" "I") (by decide +kernel)
  have kw2 := hts (.fieldLink RX5 84 "OathCoachModel" "number" "I") (by decide +kernel)
  have kw3 := hts (.fieldLink RX5 74 "OathCoachModel" "letters" "I") (by decide +kernel)
  have kw4 := hts (.fieldLink RX5 19 "OathCoachModel" "tape" "[I") (by decide +kernel)
  have kw5 := hts (.fieldLink RX5 87 "OathCoachModel" "token" "I") (by decide +kernel)
  have hi_X5 : ∀ w ∈ u_ws RX5 TX5 23, w ∈ wsX5_nextToken := by decide +kernel
  have L123 : ∀ (k_52 : ob_B → Option (ob_B)) (hk_52 : ∀ (H : Heap) (locs : List Loc) (b : ob_B)  (ls : Array Slot), va_P (dC, dI) vwCl (ob_w5 o_b a_b cI cZ b) H → va_D A (ob_w5 o_b a_b cI cZ b) → va_S A s.heap H locs → lv_has ls 2 [(0, .ref o_b)] → k_52 b = some (b') → W p l e ({ frames := 1, cells := 0, slots := 0, locals := 22 } : Room) s m (List.toArray [.ref o_b]) below meth c H locs 0 0 (MQ below ((ob_Qv (dC, dI) (ob_w5 o_b a_b cI cZ b')) A) (List.toArray [.ref o_b]) s 0 0 A) (F0 m 52 ls [])), ∀ (H : Heap) (locs : List Loc) (b : ob_B) (v0 : Int32) (ls : Array Slot), va_P (dC, dI) vwCl (ob_w5 o_b a_b cI cZ b) H → va_D A (ob_w5 o_b a_b cI cZ b) → va_S A s.heap H locs → lv_has ls 2 [(0, .ref o_b)] → fd_X5_nextToken_L123 k_52 b v0 = some (b') → W p l e ({ frames := 1, cells := 0, slots := 0, locals := 22 } : Room) s m (List.toArray [.ref o_b]) below meth c H locs 0 0 (MQ below ((ob_Qv (dC, dI) (ob_w5 o_b a_b cI cZ b')) A) (List.toArray [.ref o_b]) s 0 0 A) (F0 m 123 ls [.int v0, .ref o_b]) := by
    intro k_52 hk_52 H locs b v0 ls hP hD hS hl hd
    rw [fd_X5_nextToken_L123] at hd
    refine va_put (D := (dC, dI)) (ci := 5) (v := .int v0) (ty := .int) (C := RX5) (T := TX5) (N := 23) hx hb hts hi_X5 tyX5 tyX5_ok nmX5 hown hK hP hD hS 0 rfl rfl 9 (by decide) kw2 (fun _ h9 => h9) rfl (by decide +kernel) rfl rfl (Nat.le_of_ble_eq_true rfl) dX5_nextToken_123 (fun H locs hP hD hS => ?_)
    obtain ⟨b_14, eb_14⟩ : ∃ z : ob_B, z = ob_I b 9 v0 := ⟨_, rfl⟩
    replace hd := ob_lx eb_14 hd
    replace hP : va_P (dC, dI) vwCl (ob_w5 o_b a_b cI cZ b_14) H := by rw [eb_14]; exact hP
    replace hD : va_D A (ob_w5 o_b a_b cI cZ b_14) := by rw [eb_14]; exact hD
    clear eb_14
    refine lv_aload_n hx hb dX5_nextToken_126 rfl (lv_at hl 0 rfl) ?_
    refine lv_dup hx hb dX5_nextToken_127 rfl ?_
    refine va_get (D := (dC, dI)) (ci := 5) (v := .int (b_14.1 6)) (C := RX5) (T := TX5) (N := 23) hx hb hts hi_X5 hown hK hP 0 rfl rfl 6 (by decide) kw0 (fun _ h9 => h9) rfl dX5_nextToken_128 ?_
    refine lv_iconst (v := 1) hx hb dX5_nextToken_131 (by decide) ?_
    refine lv_iadd hx hb dX5_nextToken_132 ?_
    refine lv_topi (fun x_15 ex_15 => ?_)
    replace hd := ob_lx ex_15 hd
    clear ex_15
    refine va_put (D := (dC, dI)) (ci := 5) (v := .int x_15) (ty := .int) (C := RX5) (T := TX5) (N := 23) hx hb hts hi_X5 tyX5 tyX5_ok nmX5 hown hK hP hD hS 0 rfl rfl 6 (by decide) kw0 (fun _ h9 => h9) rfl (by decide +kernel) rfl rfl (Nat.le_of_ble_eq_true rfl) dX5_nextToken_133 (fun H locs hP hD hS => ?_)
    obtain ⟨b_16, eb_16⟩ : ∃ z : ob_B, z = ob_I b_14 6 x_15 := ⟨_, rfl⟩
    replace hd := ob_lx eb_16 hd
    replace hP : va_P (dC, dI) vwCl (ob_w5 o_b a_b cI cZ b_16) H := by rw [eb_16]; exact hP
    replace hD : va_D A (ob_w5 o_b a_b cI cZ b_16) := by rw [eb_16]; exact hD
    clear eb_16
    refine lv_goto (tgt := 52) hx hb dX5_nextToken_136 (by decide) ?_
    exact hk_52 _ _ b_16 _ hP hD hS (lv_sub hl [0] rfl) hd
  have L139 : ∀ (H : Heap) (locs : List Loc) (b : ob_B)  (ls : Array Slot), va_P (dC, dI) vwCl (ob_w5 o_b a_b cI cZ b) H → va_D A (ob_w5 o_b a_b cI cZ b) → va_S A s.heap H locs → lv_has ls 2 [(0, .ref o_b)] → fd_X5_nextToken_L139 b = some (b') → W p l e ({ frames := 1, cells := 0, slots := 0, locals := 22 } : Room) s m (List.toArray [.ref o_b]) below meth c H locs 0 0 (MQ below ((ob_Qv (dC, dI) (ob_w5 o_b a_b cI cZ b')) A) (List.toArray [.ref o_b]) s 0 0 A) (F0 m 139 ls []) := by
    intro  H locs b ls hP hD hS hl hd
    rw [fd_X5_nextToken_L139] at hd
    refine lv_aload_n hx hb dX5_nextToken_139 rfl (lv_at hl 0 rfl) ?_
    refine lv_aload_n hx hb dX5_nextToken_140 rfl (lv_at hl 0 rfl) ?_
    refine va_get (D := (dC, dI)) (ci := 5) (v := .int (b.1 6)) (C := RX5) (T := TX5) (N := 23) hx hb hts hi_X5 hown hK hP 0 rfl rfl 6 (by decide) kw0 (fun _ h9 => h9) rfl dX5_nextToken_141 ?_
    refine lv_aload_n hx hb dX5_nextToken_144 rfl (lv_at hl 0 rfl) ?_
    refine va_get (D := (dC, dI)) (ci := 5) (v := .int (b.1 7)) (C := RX5) (T := TX5) (N := 23) hx hb hts hi_X5 hown hK hP 0 rfl rfl 7 (by decide) kw1 (fun _ h9 => h9) rfl dX5_nextToken_145 ?_
    refine lv_isub hx hb dX5_nextToken_148 ?_
    refine lv_iconst (v := 2) hx hb dX5_nextToken_149 (by decide) ?_
    refine lv_icmp_le (tgt := 158) hx hb dX5_nextToken_150 (by decide) (fun c_150 => ?_) (fun c_150 => ?_)
    · replace hd := ob_t c_150 hd
      refine lv_iconst (v := (-1)) hx hb dX5_nextToken_158 (by decide) ?_
      refine va_put (D := (dC, dI)) (ci := 5) (v := .int (-1)) (ty := .int) (C := RX5) (T := TX5) (N := 23) hx hb hts hi_X5 tyX5 tyX5_ok nmX5 hown hK hP hD hS 0 rfl rfl 8 (by decide) kw5 (fun _ h9 => h9) rfl (by decide +kernel) rfl rfl (Nat.le_of_ble_eq_true rfl) dX5_nextToken_159 (fun H locs hP hD hS => ?_)
      obtain ⟨b_12, eb_12⟩ : ∃ z : ob_B, z = ob_I b 8 (-1) := ⟨_, rfl⟩
      replace hd := ob_lx eb_12 hd
      replace hP : va_P (dC, dI) vwCl (ob_w5 o_b a_b cI cZ b_12) H := by rw [eb_12]; exact hP
      replace hD : va_D A (ob_w5 o_b a_b cI cZ b_12) := by rw [eb_12]; exact hD
      clear eb_12
      have e1 := Option.some.inj hd
      subst e1
      exact ob_vret hx hb hr hlocks hP hD hS dX5_nextToken_162
    · replace hd := ob_f c_150 hd
      refine lv_bipush (v := (-3)) hx hb dX5_nextToken_153 (by decide) ?_
      refine lv_goto (tgt := 159) hx hb dX5_nextToken_155 (by decide) ?_
      refine va_put (D := (dC, dI)) (ci := 5) (v := .int (-3)) (ty := .int) (C := RX5) (T := TX5) (N := 23) hx hb hts hi_X5 tyX5 tyX5_ok nmX5 hown hK hP hD hS 0 rfl rfl 8 (by decide) kw5 (fun _ h9 => h9) rfl (by decide +kernel) rfl rfl (Nat.le_of_ble_eq_true rfl) dX5_nextToken_159 (fun H locs hP hD hS => ?_)
      obtain ⟨b_13, eb_13⟩ : ∃ z : ob_B, z = ob_I b 8 (-3) := ⟨_, rfl⟩
      replace hd := ob_lx eb_13 hd
      replace hP : va_P (dC, dI) vwCl (ob_w5 o_b a_b cI cZ b_13) H := by rw [eb_13]; exact hP
      replace hD : va_D A (ob_w5 o_b a_b cI cZ b_13) := by rw [eb_13]; exact hD
      clear eb_13
      have e1 := Option.some.inj hd
      subst e1
      exact ob_vret hx hb hr hlocks hP hD hS dX5_nextToken_162
  have L52 : ∀  (fu : Nat), ∀ (H : Heap) (locs : List Loc) (b : ob_B)  (ls : Array Slot), va_P (dC, dI) vwCl (ob_w5 o_b a_b cI cZ b) H → va_D A (ob_w5 o_b a_b cI cZ b) → va_S A s.heap H locs → lv_has ls 2 [(0, .ref o_b)] → fd_X5_nextToken_L52 fu b = some (b') → W p l e ({ frames := 1, cells := 0, slots := 0, locals := 22 } : Room) s m (List.toArray [.ref o_b]) below meth c H locs 0 0 (MQ below ((ob_Qv (dC, dI) (ob_w5 o_b a_b cI cZ b')) A) (List.toArray [.ref o_b]) s 0 0 A) (F0 m 52 ls []) := by
    intro  fu
    induction fu with
    | zero =>
      intro H locs b ls hP hD hS hl hd
      rw [fd_X5_nextToken_L52] at hd
      cases hd
    | succ fu ih =>
      intro H locs b ls hP hD hS hl hd
      rw [fd_X5_nextToken_L52] at hd
      refine lv_aload_n hx hb dX5_nextToken_52 rfl (lv_at hl 0 rfl) ?_
      refine va_get (D := (dC, dI)) (ci := 5) (v := .int (b.1 6)) (C := RX5) (T := TX5) (N := 23) hx hb hts hi_X5 hown hK hP 0 rfl rfl 6 (by decide) kw0 (fun _ h9 => h9) rfl dX5_nextToken_53 ?_
      refine lv_aload_n hx hb dX5_nextToken_56 rfl (lv_at hl 0 rfl) ?_
      refine va_get (D := (dC, dI)) (ci := 5) (v := .int (b.1 4)) (C := RX5) (T := TX5) (N := 23) hx hb hts hi_X5 hown hK hP 0 rfl rfl 4 (by decide) kw3 (fun _ h9 => h9) rfl dX5_nextToken_57 ?_
      refine lv_icmp_ge (tgt := 139) hx hb dX5_nextToken_60 (by decide) (fun c_60 => ?_) (fun c_60 => ?_)
      · replace hd := ob_t c_60 hd
        exact L139   _ _ b _ hP hD hS (lv_sub hl [0] rfl) hd
      · replace hd := ob_f c_60 hd
        refine lv_aload_n hx hb dX5_nextToken_63 rfl (lv_at hl 0 rfl) ?_
        refine va_get (D := (dC, dI)) (ci := 5) (v := .ref (a_b 5)) (C := RX5) (T := TX5) (N := 23) hx hb hts hi_X5 hown hK hP 0 rfl rfl 5 (by decide) kw4 (fun _ h9 => h9) rfl dX5_nextToken_64 ?_
        refine lv_aload_n hx hb dX5_nextToken_67 rfl (lv_at hl 0 rfl) ?_
        refine va_get (D := (dC, dI)) (ci := 5) (v := .int (b.1 6)) (C := RX5) (T := TX5) (N := 23) hx hb hts hi_X5 hown hK hP 0 rfl rfl 6 (by decide) kw0 (fun _ h9 => h9) rfl dX5_nextToken_68 ?_
        obtain ⟨h1_71, hd⟩ := ob_nn hd
        refine va_iald hx hb hK hP 4 0 rfl rfl h1_71 dX5_nextToken_71 ?_
        refine lv_bipush (v := 48) hx hb dX5_nextToken_72 (by decide) ?_
        refine lv_bipush (v := 57) hx hb dX5_nextToken_74 (by decide) ?_
        obtain ⟨r_11, hc_76, hd⟩ := ob_s1 hd
        refine ob_Si (isC := []) (isR := [0, 1, 2, 3, 4, 5, 6, 7, 8, 9, 10, 11, 12, 13]) (is2 := [0, 1, 2, 3, 4, 5, 6, 7, 8, 9, 10, 11, 12, 13]) (wc := ([] : va_W)) (wr := (List.filterMap (fun i => (ob_w5 o_b a_b cI cZ b)[i]?) [0, 1, 2, 3, 4, 5, 6, 7, 8, 9, 10, 11, 12, 13])) (w1 := ([] : va_W)) (w2 := (ob_w5 o_b a_b cI cZ b)) (As := [.int ((b.2 5) (Int32.toNatClampNeg (b.1 6))), .int 48, .int 57]) (rest := []) ⟨hx, hb, hml, hown, hts⟩ (mt_X5_in l dC dI cI cZ cR cW xs _ ((b.2 5) (Int32.toNatClampNeg (b.1 6))) 48 57 r_11 hc_76) (va_cwS 3 hts gX5_nextToken_X5_in rfl rfl rfl (by decide +kernel) ⟨Nat.le_of_ble_eq_true rfl, Nat.le_of_ble_eq_true rfl⟩) hK hE hP hD hS hA ⟨rfl, rfl, rfl, rfl, rfl, rfl, rfl⟩ hl rfl rfl (Nat.le_of_ble_eq_true rfl) ⟨Nat.le_of_ble_eq_true rfl, Nat.le_of_ble_eq_true rfl⟩ dX5_nextToken_76 (fun H locs hP hD hS => ?_)
        refine W.widen (k := 0) (n := 0) (Nat.le_refl _) (Nat.le_refl _) ?_
        refine lv_if_eq (tgt := 139) hx hb dX5_nextToken_79 (by decide) (fun c_79 => ?_) (fun c_79 => ?_)
        · replace hd := ob_t c_79 hd
          exact L139   _ _ b _ hP hD hS (lv_sub hl [0] rfl) hd
        · replace hd := ob_f c_79 hd
          refine lv_aload_n hx hb dX5_nextToken_82 rfl (lv_at hl 0 rfl) ?_
          refine lv_aload_n hx hb dX5_nextToken_83 rfl (lv_at hl 0 rfl) ?_
          refine va_get (D := (dC, dI)) (ci := 5) (v := .int (b.1 6)) (C := RX5) (T := TX5) (N := 23) hx hb hts hi_X5 hown hK hP 0 rfl rfl 6 (by decide) kw0 (fun _ h9 => h9) rfl dX5_nextToken_84 ?_
          refine lv_aload_n hx hb dX5_nextToken_87 rfl (lv_at hl 0 rfl) ?_
          refine va_get (D := (dC, dI)) (ci := 5) (v := .int (b.1 7)) (C := RX5) (T := TX5) (N := 23) hx hb hts hi_X5 hown hK hP 0 rfl rfl 7 (by decide) kw1 (fun _ h9 => h9) rfl dX5_nextToken_88 ?_
          refine lv_isub hx hb dX5_nextToken_91 ?_
          refine lv_iconst (v := 2) hx hb dX5_nextToken_92 (by decide) ?_
          refine lv_icmp_ge (tgt := 119) hx hb dX5_nextToken_93 (by decide) (fun c_93 => ?_) (fun c_93 => ?_)
          · replace hd := ob_t c_93 hd
            refine lv_aload_n hx hb dX5_nextToken_119 rfl (lv_at hl 0 rfl) ?_
            refine va_get (D := (dC, dI)) (ci := 5) (v := .int (b.1 9)) (C := RX5) (T := TX5) (N := 23) hx hb hts hi_X5 hown hK hP 0 rfl rfl 9 (by decide) kw2 (fun _ h9 => h9) rfl dX5_nextToken_120 ?_
            exact L123 (fd_X5_nextToken_L52 fu) ih  _ _ b (b.1 9) _ hP hD hS (lv_sub hl [0] rfl) hd
          · replace hd := ob_f c_93 hd
            refine lv_bipush (v := 10) hx hb dX5_nextToken_96 (by decide) ?_
            refine lv_aload_n hx hb dX5_nextToken_98 rfl (lv_at hl 0 rfl) ?_
            refine va_get (D := (dC, dI)) (ci := 5) (v := .int (b.1 9)) (C := RX5) (T := TX5) (N := 23) hx hb hts hi_X5 hown hK hP 0 rfl rfl 9 (by decide) kw2 (fun _ h9 => h9) rfl dX5_nextToken_99 ?_
            refine lv_imul hx hb dX5_nextToken_102 ?_
            refine lv_aload_n hx hb dX5_nextToken_103 rfl (lv_at hl 0 rfl) ?_
            refine va_get (D := (dC, dI)) (ci := 5) (v := .ref (a_b 5)) (C := RX5) (T := TX5) (N := 23) hx hb hts hi_X5 hown hK hP 0 rfl rfl 5 (by decide) kw4 (fun _ h9 => h9) rfl dX5_nextToken_104 ?_
            refine lv_aload_n hx hb dX5_nextToken_107 rfl (lv_at hl 0 rfl) ?_
            refine va_get (D := (dC, dI)) (ci := 5) (v := .int (b.1 6)) (C := RX5) (T := TX5) (N := 23) hx hb hts hi_X5 hown hK hP 0 rfl rfl 6 (by decide) kw0 (fun _ h9 => h9) rfl dX5_nextToken_108 ?_
            obtain ⟨h1_111, hd⟩ := ob_nn hd
            refine va_iald hx hb hK hP 4 0 rfl rfl h1_111 dX5_nextToken_111 ?_
            refine lv_iadd hx hb dX5_nextToken_112 ?_
            refine lv_bipush (v := 48) hx hb dX5_nextToken_113 (by decide) ?_
            refine lv_isub hx hb dX5_nextToken_115 ?_
            refine lv_goto (tgt := 123) hx hb dX5_nextToken_116 (by decide) ?_
            exact L123 (fd_X5_nextToken_L52 fu) ih  _ _ b (((10 * (b.1 9)) + ((b.2 5) (Int32.toNatClampNeg (b.1 6)))) - 48) _ hP hD hS (lv_sub hl [0] rfl) hd
  have L193 : ∀ (H : Heap) (locs : List Loc) (b : ob_B) (v0 : Int32) (ls : Array Slot), va_P (dC, dI) vwCl (ob_w5 o_b a_b cI cZ b) H → va_D A (ob_w5 o_b a_b cI cZ b) → va_S A s.heap H locs → lv_has ls 2 [(0, .ref o_b)] → fd_X5_nextToken_L193 b v0 = some (b') → W p l e ({ frames := 1, cells := 0, slots := 0, locals := 22 } : Room) s m (List.toArray [.ref o_b]) below meth c H locs 0 0 (MQ below ((ob_Qv (dC, dI) (ob_w5 o_b a_b cI cZ b')) A) (List.toArray [.ref o_b]) s 0 0 A) (F0 m 193 ls [.int v0, .ref o_b]) := by
    intro  H locs b v0 ls hP hD hS hl hd
    rw [fd_X5_nextToken_L193] at hd
    refine va_put (D := (dC, dI)) (ci := 5) (v := .int v0) (ty := .int) (C := RX5) (T := TX5) (N := 23) hx hb hts hi_X5 tyX5 tyX5_ok nmX5 hown hK hP hD hS 0 rfl rfl 8 (by decide) kw5 (fun _ h9 => h9) rfl (by decide +kernel) rfl rfl (Nat.le_of_ble_eq_true rfl) dX5_nextToken_193 (fun H locs hP hD hS => ?_)
    obtain ⟨b_8, eb_8⟩ : ∃ z : ob_B, z = ob_I b 8 v0 := ⟨_, rfl⟩
    replace hd := ob_lx eb_8 hd
    replace hP : va_P (dC, dI) vwCl (ob_w5 o_b a_b cI cZ b_8) H := by rw [eb_8]; exact hP
    replace hD : va_D A (ob_w5 o_b a_b cI cZ b_8) := by rw [eb_8]; exact hD
    clear eb_8
    refine lv_aload_n hx hb dX5_nextToken_196 rfl (lv_at hl 0 rfl) ?_
    refine lv_dup hx hb dX5_nextToken_197 rfl ?_
    refine va_get (D := (dC, dI)) (ci := 5) (v := .int (b_8.1 6)) (C := RX5) (T := TX5) (N := 23) hx hb hts hi_X5 hown hK hP 0 rfl rfl 6 (by decide) kw0 (fun _ h9 => h9) rfl dX5_nextToken_198 ?_
    refine lv_iconst (v := 1) hx hb dX5_nextToken_201 (by decide) ?_
    refine lv_iadd hx hb dX5_nextToken_202 ?_
    refine lv_topi (fun x_9 ex_9 => ?_)
    replace hd := ob_lx ex_9 hd
    clear ex_9
    refine va_put (D := (dC, dI)) (ci := 5) (v := .int x_9) (ty := .int) (C := RX5) (T := TX5) (N := 23) hx hb hts hi_X5 tyX5 tyX5_ok nmX5 hown hK hP hD hS 0 rfl rfl 6 (by decide) kw0 (fun _ h9 => h9) rfl (by decide +kernel) rfl rfl (Nat.le_of_ble_eq_true rfl) dX5_nextToken_203 (fun H locs hP hD hS => ?_)
    obtain ⟨b_10, eb_10⟩ : ∃ z : ob_B, z = ob_I b_8 6 x_9 := ⟨_, rfl⟩
    replace hd := ob_lx eb_10 hd
    replace hP : va_P (dC, dI) vwCl (ob_w5 o_b a_b cI cZ b_10) H := by rw [eb_10]; exact hP
    replace hD : va_D A (ob_w5 o_b a_b cI cZ b_10) := by rw [eb_10]; exact hD
    clear eb_10
    have e1 := Option.some.inj hd
    subst e1
    exact ob_vret hx hb hr hlocks hP hD hS dX5_nextToken_206
  have L187 : ∀ (H : Heap) (locs : List Loc) (b : ob_B) (z1 : Int32) (ls : Array Slot), va_P (dC, dI) vwCl (ob_w5 o_b a_b cI cZ b) H → va_D A (ob_w5 o_b a_b cI cZ b) → va_S A s.heap H locs → lv_has ls 2 [(0, .ref o_b), (1, .int z1)] → fd_X5_nextToken_L187 b z1 = some (b') → W p l e ({ frames := 1, cells := 0, slots := 0, locals := 22 } : Room) s m (List.toArray [.ref o_b]) below meth c H locs 0 0 (MQ below ((ob_Qv (dC, dI) (ob_w5 o_b a_b cI cZ b')) A) (List.toArray [.ref o_b]) s 0 0 A) (F0 m 187 ls [.ref o_b]) := by
    intro  H locs b z1 ls hP hD hS hl hd
    rw [fd_X5_nextToken_L187] at hd
    refine lv_iload_n hx hb dX5_nextToken_187 rfl (lv_at hl 1 rfl) ?_
    refine lv_goto (tgt := 193) hx hb dX5_nextToken_188 (by decide) ?_
    exact L193   _ _ b z1 _ hP hD hS (lv_sub hl [0] rfl) hd
  refine lv_aload_n hx hb dX5_nextToken_0 rfl (lv_at hl 0 rfl) ?_
  refine lv_aload_n hx hb dX5_nextToken_1 rfl (lv_at hl 0 rfl) ?_
  refine va_get (D := (dC, dI)) (ci := 5) (v := .int (b.1 6)) (C := RX5) (T := TX5) (N := 23) hx hb hts hi_X5 hown hK hP 0 rfl rfl 6 (by decide) kw0 (fun _ h9 => h9) rfl dX5_nextToken_2 ?_
  refine lv_topi (fun x_1 ex_1 => ?_)
  replace hd := ob_lx ex_1 hd
  clear ex_1
  refine va_put (D := (dC, dI)) (ci := 5) (v := .int x_1) (ty := .int) (C := RX5) (T := TX5) (N := 23) hx hb hts hi_X5 tyX5 tyX5_ok nmX5 hown hK hP hD hS 0 rfl rfl 7 (by decide) kw1 (fun _ h9 => h9) rfl (by decide +kernel) rfl rfl (Nat.le_of_ble_eq_true rfl) dX5_nextToken_5 (fun H locs hP hD hS => ?_)
  obtain ⟨b_2, eb_2⟩ : ∃ z : ob_B, z = ob_I b 7 x_1 := ⟨_, rfl⟩
  replace hd := ob_lx eb_2 hd
  replace hP : va_P (dC, dI) vwCl (ob_w5 o_b a_b cI cZ b_2) H := by rw [eb_2]; exact hP
  replace hD : va_D A (ob_w5 o_b a_b cI cZ b_2) := by rw [eb_2]; exact hD
  clear eb_2
  refine lv_aload_n hx hb dX5_nextToken_8 rfl (lv_at hl 0 rfl) ?_
  refine lv_iconst (v := 0) hx hb dX5_nextToken_9 (by decide) ?_
  refine va_put (D := (dC, dI)) (ci := 5) (v := .int 0) (ty := .int) (C := RX5) (T := TX5) (N := 23) hx hb hts hi_X5 tyX5 tyX5_ok nmX5 hown hK hP hD hS 0 rfl rfl 9 (by decide) kw2 (fun _ h9 => h9) rfl (by decide +kernel) rfl rfl (Nat.le_of_ble_eq_true rfl) dX5_nextToken_10 (fun H locs hP hD hS => ?_)
  obtain ⟨b_3, eb_3⟩ : ∃ z : ob_B, z = ob_I b_2 9 0 := ⟨_, rfl⟩
  replace hd := ob_lx eb_3 hd
  replace hP : va_P (dC, dI) vwCl (ob_w5 o_b a_b cI cZ b_3) H := by rw [eb_3]; exact hP
  replace hD : va_D A (ob_w5 o_b a_b cI cZ b_3) := by rw [eb_3]; exact hD
  clear eb_3
  refine lv_aload_n hx hb dX5_nextToken_13 rfl (lv_at hl 0 rfl) ?_
  refine va_get (D := (dC, dI)) (ci := 5) (v := .int (b_3.1 6)) (C := RX5) (T := TX5) (N := 23) hx hb hts hi_X5 hown hK hP 0 rfl rfl 6 (by decide) kw0 (fun _ h9 => h9) rfl dX5_nextToken_14 ?_
  refine lv_aload_n hx hb dX5_nextToken_17 rfl (lv_at hl 0 rfl) ?_
  refine va_get (D := (dC, dI)) (ci := 5) (v := .int (b_3.1 4)) (C := RX5) (T := TX5) (N := 23) hx hb hts hi_X5 hown hK hP 0 rfl rfl 4 (by decide) kw3 (fun _ h9 => h9) rfl dX5_nextToken_18 ?_
  refine lv_icmp_ne (tgt := 31) hx hb dX5_nextToken_21 (by decide) (fun c_21 => ?_) (fun c_21 => ?_)
  · replace hd := ob_f c_21 hd
    refine lv_aload_n hx hb dX5_nextToken_31 rfl (lv_at hl 0 rfl) ?_
    refine va_get (D := (dC, dI)) (ci := 5) (v := .ref (a_b 5)) (C := RX5) (T := TX5) (N := 23) hx hb hts hi_X5 hown hK hP 0 rfl rfl 5 (by decide) kw4 (fun _ h9 => h9) rfl dX5_nextToken_32 ?_
    refine lv_aload_n hx hb dX5_nextToken_35 rfl (lv_at hl 0 rfl) ?_
    refine va_get (D := (dC, dI)) (ci := 5) (v := .int (b_3.1 6)) (C := RX5) (T := TX5) (N := 23) hx hb hts hi_X5 hown hK hP 0 rfl rfl 6 (by decide) kw0 (fun _ h9 => h9) rfl dX5_nextToken_36 ?_
    obtain ⟨h1_39, hd⟩ := ob_nn hd
    refine va_iald hx hb hK hP 4 0 rfl rfl h1_39 dX5_nextToken_39 ?_
    refine lv_topi (fun x_4 ex_4 => ?_)
    replace hd := ob_lx ex_4 hd
    clear ex_4
    refine lv_istore_n (lv' := [(1, .int x_4), (0, .ref o_b)]) hx hb dX5_nextToken_40 rfl hl (by decide) rfl (fun ls hl => ?_)
    refine lv_iload_n hx hb dX5_nextToken_41 rfl (lv_at hl 0 rfl) ?_
    refine lv_bipush (v := 48) hx hb dX5_nextToken_42 (by decide) ?_
    refine lv_bipush (v := 57) hx hb dX5_nextToken_44 (by decide) ?_
    obtain ⟨r_5, hc_46, hd⟩ := ob_s1 hd
    refine ob_Si (isC := []) (isR := [0, 1, 2, 3, 4, 5, 6, 7, 8, 9, 10, 11, 12, 13]) (is2 := [0, 1, 2, 3, 4, 5, 6, 7, 8, 9, 10, 11, 12, 13]) (wc := ([] : va_W)) (wr := (List.filterMap (fun i => (ob_w5 o_b a_b cI cZ b_3)[i]?) [0, 1, 2, 3, 4, 5, 6, 7, 8, 9, 10, 11, 12, 13])) (w1 := ([] : va_W)) (w2 := (ob_w5 o_b a_b cI cZ b_3)) (As := [.int x_4, .int 48, .int 57]) (rest := []) ⟨hx, hb, hml, hown, hts⟩ (mt_X5_in l dC dI cI cZ cR cW xs _ x_4 48 57 r_5 hc_46) (va_cwS 3 hts gX5_nextToken_X5_in rfl rfl rfl (by decide +kernel) ⟨Nat.le_of_ble_eq_true rfl, Nat.le_of_ble_eq_true rfl⟩) hK hE hP hD hS hA ⟨rfl, rfl, rfl, rfl, rfl, rfl, rfl⟩ hl rfl rfl (Nat.le_of_ble_eq_true rfl) ⟨Nat.le_of_ble_eq_true rfl, Nat.le_of_ble_eq_true rfl⟩ dX5_nextToken_46 (fun H locs hP hD hS => ?_)
    refine W.widen (k := 0) (n := 0) (Nat.le_refl _) (Nat.le_refl _) ?_
    refine lv_if_eq (tgt := 163) hx hb dX5_nextToken_49 (by decide) (fun c_49 => ?_) (fun c_49 => ?_)
    · replace hd := ob_t c_49 hd
      refine lv_aload_n hx hb dX5_nextToken_163 rfl (lv_at hl 1 rfl) ?_
      refine lv_iload_n hx hb dX5_nextToken_164 rfl (lv_at hl 0 rfl) ?_
      refine lv_bipush (v := 97) hx hb dX5_nextToken_165 (by decide) ?_
      refine lv_bipush (v := 122) hx hb dX5_nextToken_167 (by decide) ?_
      obtain ⟨r_6, hc_169, hd⟩ := ob_s1 hd
      refine ob_Si (isC := []) (isR := [0, 1, 2, 3, 4, 5, 6, 7, 8, 9, 10, 11, 12, 13]) (is2 := [0, 1, 2, 3, 4, 5, 6, 7, 8, 9, 10, 11, 12, 13]) (wc := ([] : va_W)) (wr := (List.filterMap (fun i => (ob_w5 o_b a_b cI cZ b_3)[i]?) [0, 1, 2, 3, 4, 5, 6, 7, 8, 9, 10, 11, 12, 13])) (w1 := ([] : va_W)) (w2 := (ob_w5 o_b a_b cI cZ b_3)) (As := [.int x_4, .int 97, .int 122]) (rest := [.ref o_b]) ⟨hx, hb, hml, hown, hts⟩ (mt_X5_in l dC dI cI cZ cR cW xs _ x_4 97 122 r_6 hc_169) (va_cwS 3 hts gX5_nextToken_X5_in rfl rfl rfl (by decide +kernel) ⟨Nat.le_of_ble_eq_true rfl, Nat.le_of_ble_eq_true rfl⟩) hK hE hP hD hS hA ⟨rfl, rfl, rfl, rfl, rfl, rfl, rfl⟩ hl rfl rfl (Nat.le_of_ble_eq_true rfl) ⟨Nat.le_of_ble_eq_true rfl, Nat.le_of_ble_eq_true rfl⟩ dX5_nextToken_169 (fun H locs hP hD hS => ?_)
      refine W.widen (k := 0) (n := 0) (Nat.le_refl _) (Nat.le_refl _) ?_
      refine lv_if_ne (tgt := 187) hx hb dX5_nextToken_172 (by decide) (fun c_172 => ?_) (fun c_172 => ?_)
      · replace hd := ob_f c_172 hd
        exact L187   _ _ b_3 x_4 _ hP hD hS (lv_sub hl [1, 0] rfl) hd
      · replace hd := ob_t c_172 hd
        refine lv_iload_n hx hb dX5_nextToken_175 rfl (lv_at hl 0 rfl) ?_
        refine lv_bipush (v := 44) hx hb dX5_nextToken_176 (by decide) ?_
        refine lv_icmp_eq (tgt := 187) hx hb dX5_nextToken_178 (by decide) (fun c_178 => ?_) (fun c_178 => ?_)
        · replace hd := ob_t c_178 hd
          exact L187   _ _ b_3 x_4 _ hP hD hS (lv_sub hl [1, 0] rfl) hd
        · replace hd := ob_f c_178 hd
          refine lv_iload_n hx hb dX5_nextToken_181 rfl (lv_at hl 0 rfl) ?_
          refine lv_bipush (v := 59) hx hb dX5_nextToken_182 (by decide) ?_
          refine lv_icmp_ne (tgt := 191) hx hb dX5_nextToken_184 (by decide) (fun c_184 => ?_) (fun c_184 => ?_)
          · replace hd := ob_f c_184 hd
            refine lv_bipush (v := (-3)) hx hb dX5_nextToken_191 (by decide) ?_
            exact L193   _ _ b_3 (-3) _ hP hD hS (lv_sub hl [1] rfl) hd
          · replace hd := ob_t c_184 hd
            exact L187   _ _ b_3 x_4 _ hP hD hS (lv_sub hl [1, 0] rfl) hd
    · replace hd := ob_f c_49 hd
      exact L52  2000 _ _ b_3 _ hP hD hS (lv_sub hl [1] rfl) hd
  · replace hd := ob_t c_21 hd
    refine lv_aload_n hx hb dX5_nextToken_24 rfl (lv_at hl 0 rfl) ?_
    refine lv_bipush (v := (-2)) hx hb dX5_nextToken_25 (by decide) ?_
    refine va_put (D := (dC, dI)) (ci := 5) (v := .int (-2)) (ty := .int) (C := RX5) (T := TX5) (N := 23) hx hb hts hi_X5 tyX5 tyX5_ok nmX5 hown hK hP hD hS 0 rfl rfl 8 (by decide) kw5 (fun _ h9 => h9) rfl (by decide +kernel) rfl rfl (Nat.le_of_ble_eq_true rfl) dX5_nextToken_27 (fun H locs hP hD hS => ?_)
    obtain ⟨b_7, eb_7⟩ : ∃ z : ob_B, z = ob_I b_3 8 (-2) := ⟨_, rfl⟩
    replace hd := ob_lx eb_7 hd
    replace hP : va_P (dC, dI) vwCl (ob_w5 o_b a_b cI cZ b_7) H := by rw [eb_7]; exact hP
    replace hD : va_D A (ob_w5 o_b a_b cI cZ b_7) := by rw [eb_7]; exact hD
    clear eb_7
    have e1 := Option.some.inj hd
    subst e1
    exact ob_vret hx hb hr hlocks hP hD hS dX5_nextToken_30

def fd_X5_fails  (b : ob_B) (x1 : Int32) : Option (Int32 × ob_B) := ob_lt (ob_I b 10 x1 : ob_B) (fun b_1 => some (0, b_1))
set_option maxHeartbeats 4000000 in
set_option maxRecDepth 100000 in
theorem mt_X5_fails (l : Launch) (dC : Nat → ClassId) (dI : Nat → Nat → Nat) (cI cZ cR cW : ClassId) (xs : Nat → Nat) (sz : Nat) (o_b : Nat) (a_b : Nat → Nat) (b : ob_B) (x1 : Int32)  (rr : Int32) (b' : ob_B) (hd : fd_X5_fails b x1 = some (rr, b')) : ob_M l yX5_fails wsX5_fails ({ frames := 0, cells := 0, slots := 0, locals := 0 } : Room) (dC, dI) (ob_ty cI cZ cR cW) xs [.ref o_b, .int x1] (ob_w5 o_b a_b cI cZ b) sz (ob_Qi (dC, dI) rr (ob_w5 o_b a_b cI cZ b')) := by
  rw [fd_X5_fails] at hd
  refine ob_in (cc := cX5_fails) (maxL := 2) (ret := (some .boolean)) (own := RX5) (by decide) rfl rfl [(0, .ref o_b), (1, .int x1)] rfl (Nat.le_of_ble_eq_true rfl) ?_
  intro p e s m below meth c hx hb hr hml hown hts hlocks hnm hK A hA hE hP hD hS ls hl
  have kw0 := hts (.fieldLink RX5 90 "OathCoachModel" "faultIs" "I") (by decide +kernel)
  have hi_X5 : ∀ w ∈ u_ws RX5 TX5 23, w ∈ wsX5_fails := by decide +kernel
  refine lv_aload_n hx hb dX5_fails_0 rfl (lv_at hl 0 rfl) ?_
  refine lv_iload_n hx hb dX5_fails_1 rfl (lv_at hl 1 rfl) ?_
  refine va_put (D := (dC, dI)) (ci := 5) (v := .int x1) (ty := .int) (C := RX5) (T := TX5) (N := 23) hx hb hts hi_X5 tyX5 tyX5_ok nmX5 hown hK hP hD hS 0 rfl rfl 10 (by decide) kw0 (fun _ h9 => h9) rfl (by decide +kernel) rfl rfl (Nat.le_of_ble_eq_true rfl) dX5_fails_2 (fun H locs hP hD hS => ?_)
  obtain ⟨b_1, eb_1⟩ : ∃ z : ob_B, z = ob_I b 10 x1 := ⟨_, rfl⟩
  replace hd := ob_lx eb_1 hd
  replace hP : va_P (dC, dI) vwCl (ob_w5 o_b a_b cI cZ b_1) H := by rw [eb_1]; exact hP
  replace hD : va_D A (ob_w5 o_b a_b cI cZ b_1) := by rw [eb_1]; exact hD
  clear eb_1
  refine lv_iconst (v := 0) hx hb dX5_fails_5 (by decide) ?_
  obtain ⟨e1, e2⟩ := ob_pp hd
  subst e1
  subst e2
  exact ob_zret hx hb hr hlocks (by decide) hP hD hS dX5_fails_6
