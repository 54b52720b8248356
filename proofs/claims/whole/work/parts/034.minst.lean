def fd_X5_visits_L31  : Nat → ob_B → Int32 → Int32 → Int32 → Option (Int32 × ob_B)
  | 0, _, _, _, _ => none
  | fu + 1, b, x1, z2, z3 => if x1 < z3 then (some (z2, b)) else (if z3 < 0 ∨ 71 ≤ Int32.toNatClampNeg z3 then none else (ob_lt (z2 ||| (1 <<< (((b.2 22) (Int32.toNatClampNeg z3)) &&& 31)) : Int32) (fun x_4 => ob_lt (z3 + 1 : Int32) (fun x_5 => fd_X5_visits_L31 fu b x1 x_4 x_5))))
def fd_X5_visits  (b : ob_B) (x1 : Int32) : Option (Int32 × ob_B) := ob_b1 (fd_X5_isRoute b) (fun r_1 => if r_1 = 0 then (some ((-1000002), b)) else (ob_b1 (fd_X5_in x1 0 60) (fun r_2 => if r_2 = 0 then (some ((-1000001), b)) else (ob_b1 (fd_X5_layPlaces b) (fun b_3 => fd_X5_visits_L31 2000 b_3 x1 0 0)))))
set_option maxHeartbeats 4000000 in
set_option maxRecDepth 100000 in
theorem mt_X5_visits (l : Launch) (dC : Nat → ClassId) (dI : Nat → Nat → Nat) (cI cZ cR cW : ClassId) (xs : Nat → Nat) (sz : Nat) (o_b : Nat) (a_b : Nat → Nat) (b : ob_B) (x1 : Int32)  (rr : Int32) (b' : ob_B) (hd : fd_X5_visits b x1 = some (rr, b')) : ob_M l yX5_visits wsX5_visits ({ frames := 5, cells := 0, slots := 0, locals := 113 } : Room) (dC, dI) (ob_ty cI cZ cR cW) xs [.ref o_b, .int x1] (ob_w5 o_b a_b cI cZ b) sz (ob_Qi (dC, dI) rr (ob_w5 o_b a_b cI cZ b')) := by
  rw [fd_X5_visits] at hd
  refine ob_in (cc := cX5_visits) (maxL := 4) (ret := (some .int)) (own := RX5) (by decide) rfl rfl [(0, .ref o_b), (1, .int x1)] rfl (Nat.le_of_ble_eq_true rfl) ?_
  intro p e s m below meth c hx hb hr hml hown hts hlocks hnm hK A hA hE hP hD hS ls hl
  have kw0 := hts (.constant RX5 63 (-1000001)) (by decide +kernel)
  have kw1 := hts (.constant RX5 130 (-1000002)) (by decide +kernel)
  have kw2 := hts (.fieldLink RX5 47 "OathCoachModel" "places" "[I") (by decide +kernel)
  have hi_X5 : ∀ w ∈ u_ws RX5 TX5 23, w ∈ wsX5_visits := by decide +kernel
  have L31 : ∀  (fu : Nat), ∀ (H : Heap) (locs : List Loc) (b : ob_B) (z2 : Int32) (z3 : Int32) (ls : Array Slot), va_P (dC, dI) vwCl (ob_w5 o_b a_b cI cZ b) H → va_D A (ob_w5 o_b a_b cI cZ b) → va_S A s.heap H locs → lv_has ls 4 [(0, .ref o_b), (1, .int x1), (2, .int z2), (3, .int z3)] → fd_X5_visits_L31 fu b x1 z2 z3 = some (rr, b') → W p l e ({ frames := 5, cells := 0, slots := 0, locals := 113 } : Room) s m (List.toArray [.ref o_b, .int x1]) below meth c H locs 0 0 (MQ below ((ob_Qi (dC, dI) rr (ob_w5 o_b a_b cI cZ b')) A) (List.toArray [.ref o_b, .int x1]) s 0 0 A) (F0 m 31 ls []) := by
    intro  fu
    induction fu with
    | zero =>
      intro H locs b z2 z3 ls hP hD hS hl hd
      rw [fd_X5_visits_L31] at hd
      cases hd
    | succ fu ih =>
      intro H locs b z2 z3 ls hP hD hS hl hd
      rw [fd_X5_visits_L31] at hd
      refine lv_iload_n hx hb dX5_visits_31 rfl (lv_at hl 3 rfl) ?_
      refine lv_iload_n hx hb dX5_visits_32 rfl (lv_at hl 1 rfl) ?_
      refine lv_icmp_gt (tgt := 53) hx hb dX5_visits_33 (by decide) (fun c_33 => ?_) (fun c_33 => ?_)
      · replace hd := ob_t c_33 hd
        refine lv_iload_n hx hb dX5_visits_53 rfl (lv_at hl 2 rfl) ?_
        obtain ⟨e1, e2⟩ := ob_pp hd
        subst e1
        subst e2
        exact ob_iret hx hb hr hlocks hP hD hS dX5_visits_54
      · replace hd := ob_f c_33 hd
        refine lv_iload_n hx hb dX5_visits_36 rfl (lv_at hl 2 rfl) ?_
        refine lv_iconst (v := 1) hx hb dX5_visits_37 (by decide) ?_
        refine lv_aload_n hx hb dX5_visits_38 rfl (lv_at hl 0 rfl) ?_
        refine va_get (D := (dC, dI)) (ci := 5) (v := .ref (a_b 22)) (C := RX5) (T := TX5) (N := 23) hx hb hts hi_X5 hown hK hP 0 rfl rfl 22 (by decide) kw2 (fun _ h9 => h9) rfl dX5_visits_39 ?_
        refine lv_iload_n hx hb dX5_visits_42 rfl (lv_at hl 3 rfl) ?_
        obtain ⟨h1_43, hd⟩ := ob_nn hd
        refine va_iald hx hb hK hP 13 0 rfl rfl h1_43 dX5_visits_43 ?_
        refine lv_ishl hx hb dX5_visits_44 ?_
        refine lv_ior hx hb dX5_visits_45 ?_
        refine lv_topi (fun x_4 ex_4 => ?_)
        replace hd := ob_lx ex_4 hd
        clear ex_4
        refine lv_istore_n (lv' := [(2, .int x_4), (0, .ref o_b), (1, .int x1), (3, .int z3)]) hx hb dX5_visits_46 rfl hl (by decide) rfl (fun ls hl => ?_)
        obtain ⟨x_5, ex_5⟩ : ∃ z : Int32, z = z3 + 1 := ⟨_, rfl⟩
        replace hd := ob_lx ex_5 hd
        refine lv_iinc (v := x_5) (lv' := [(3, .int x_5), (2, .int x_4), (0, .ref o_b), (1, .int x1)]) hx hb dX5_visits_47 hl (k := 3) rfl (by rw [ex_5]; rfl) (by decide) rfl (fun ls hl => ?_)
        clear ex_5
        refine lv_goto (tgt := 31) hx hb dX5_visits_50 (by decide) ?_
        exact ih _ _ b x_4 x_5 _ hP hD hS (lv_sub hl [2, 3, 1, 0] rfl) hd
  refine lv_aload_n hx hb dX5_visits_0 rfl (lv_at hl 0 rfl) ?_
  obtain ⟨r_1, hc_1, hd⟩ := ob_s1 hd
  refine ob_Vi (isC := [0, 1, 2, 3, 4, 5, 6, 7, 8, 9, 10, 11, 12, 13]) (isR := []) (is2 := [0, 1, 2, 3, 4, 5, 6, 7, 8, 9, 10, 11, 12, 13]) (wc := (ob_w5 o_b a_b cI cZ b)) (wr := ([] : va_W)) (w1 := (ob_w5 o_b a_b cI cZ b)) (w2 := (ob_w5 o_b a_b cI cZ b)) (b := o_b) (As := []) (rest := []) ⟨hx, hb, hml, hown, hts⟩ (mt_X5_isRoute l dC dI cI cZ cR cW xs _ o_b a_b b r_1 hc_1) (cwV 0 hts gX5_visits_X5_isRoute rfl rfl rfl (by decide +kernel) ⟨Nat.le_of_ble_eq_true rfl, Nat.le_of_ble_eq_true rfl⟩) hK hE hP hD hS hA ⟨rfl, rfl, rfl, rfl, rfl, rfl, rfl⟩ 5 0 rfl rfl rfl hl rfl rfl (Nat.le_of_ble_eq_true rfl) ⟨Nat.le_of_ble_eq_true rfl, Nat.le_of_ble_eq_true rfl⟩ dX5_visits_1 (fun H locs hP hD hS => ?_)
  refine W.widen (k := 0) (n := 0) (Nat.le_refl _) (Nat.le_refl _) ?_
  refine lv_if_ne (tgt := 10) hx hb dX5_visits_4 (by decide) (fun c_4 => ?_) (fun c_4 => ?_)
  · replace hd := ob_f c_4 hd
    refine lv_iload_n hx hb dX5_visits_10 rfl (lv_at hl 1 rfl) ?_
    refine lv_iconst (v := 0) hx hb dX5_visits_11 (by decide) ?_
    refine lv_bipush (v := 60) hx hb dX5_visits_12 (by decide) ?_
    obtain ⟨r_2, hc_14, hd⟩ := ob_s1 hd
    refine ob_Si (isC := []) (isR := [0, 1, 2, 3, 4, 5, 6, 7, 8, 9, 10, 11, 12, 13]) (is2 := [0, 1, 2, 3, 4, 5, 6, 7, 8, 9, 10, 11, 12, 13]) (wc := ([] : va_W)) (wr := (List.filterMap (fun i => (ob_w5 o_b a_b cI cZ b)[i]?) [0, 1, 2, 3, 4, 5, 6, 7, 8, 9, 10, 11, 12, 13])) (w1 := ([] : va_W)) (w2 := (ob_w5 o_b a_b cI cZ b)) (As := [.int x1, .int 0, .int 60]) (rest := []) ⟨hx, hb, hml, hown, hts⟩ (mt_X5_in l dC dI cI cZ cR cW xs _ x1 0 60 r_2 hc_14) (va_cwS 3 hts gX5_visits_X5_in rfl rfl rfl (by decide +kernel) ⟨Nat.le_of_ble_eq_true rfl, Nat.le_of_ble_eq_true rfl⟩) hK hE hP hD hS hA ⟨rfl, rfl, rfl, rfl, rfl, rfl, rfl⟩ hl rfl rfl (Nat.le_of_ble_eq_true rfl) ⟨Nat.le_of_ble_eq_true rfl, Nat.le_of_ble_eq_true rfl⟩ dX5_visits_14 (fun H locs hP hD hS => ?_)
    refine W.widen (k := 0) (n := 0) (Nat.le_refl _) (Nat.le_refl _) ?_
    refine lv_if_ne (tgt := 23) hx hb dX5_visits_17 (by decide) (fun c_17 => ?_) (fun c_17 => ?_)
    · replace hd := ob_f c_17 hd
      refine lv_aload_n hx hb dX5_visits_23 rfl (lv_at hl 0 rfl) ?_
      obtain ⟨b_3, hc_24, hd⟩ := ob_s1 hd
      refine ob_Vv (isC := [0, 1, 2, 3, 4, 5, 6, 7, 8, 9, 10, 11, 12, 13]) (isR := []) (is2 := [0, 1, 2, 3, 4, 5, 6, 7, 8, 9, 10, 11, 12, 13]) (wc := (ob_w5 o_b a_b cI cZ b)) (wr := ([] : va_W)) (w1 := (ob_w5 o_b a_b cI cZ b_3)) (w2 := (ob_w5 o_b a_b cI cZ b_3)) (b := o_b) (As := []) (rest := []) ⟨hx, hb, hml, hown, hts⟩ (mt_X5_layPlaces l dC dI cI cZ cR cW xs _ o_b a_b b b_3 hc_24) (cwV 0 hts gX5_visits_X5_layPlaces rfl rfl rfl (by decide +kernel) ⟨Nat.le_of_ble_eq_true rfl, Nat.le_of_ble_eq_true rfl⟩) hK hE hP hD hS hA ⟨rfl, rfl, rfl, rfl, rfl, rfl, rfl⟩ 5 0 rfl rfl rfl hl rfl rfl (Nat.le_of_ble_eq_true rfl) ⟨Nat.le_of_ble_eq_true rfl, Nat.le_of_ble_eq_true rfl⟩ dX5_visits_24 (fun H locs hP hD hS => ?_)
      refine W.widen (k := 0) (n := 0) (Nat.le_refl _) (Nat.le_refl _) ?_
      refine lv_iconst (v := 0) hx hb dX5_visits_27 (by decide) ?_
      refine lv_istore_n (lv' := [(2, .int 0), (0, .ref o_b), (1, .int x1)]) hx hb dX5_visits_28 rfl hl (by decide) rfl (fun ls hl => ?_)
      refine lv_iconst (v := 0) hx hb dX5_visits_29 (by decide) ?_
      refine lv_istore_n (lv' := [(3, .int 0), (2, .int 0), (0, .ref o_b), (1, .int x1)]) hx hb dX5_visits_30 rfl hl (by decide) rfl (fun ls hl => ?_)
      exact L31  2000 _ _ b_3 0 0 _ hP hD hS (lv_sub hl [2, 3, 1, 0] rfl) hd
    · replace hd := ob_t c_17 hd
      refine lv_ldc hx hb hown kw0 dX5_visits_20 ?_
      obtain ⟨e1, e2⟩ := ob_pp hd
      subst e1
      subst e2
      exact ob_iret hx hb hr hlocks hP hD hS dX5_visits_22
  · replace hd := ob_t c_4 hd
    refine lv_ldc hx hb hown kw1 dX5_visits_7 ?_
    obtain ⟨e1, e2⟩ := ob_pp hd
    subst e1
    subst e2
    exact ob_iret hx hb hr hlocks hP hD hS dX5_visits_9

def fd_X5_rest_L65 (k_16 : ob_B → Int32 → Option (Int32 × ob_B)) (b : ob_B) (z1 : Int32) (z2 : Int32) : Option (Int32 × ob_B) := if z2 = 0 then (ob_lt (z1 + 1 : Int32) (fun x_6 => k_16 b x_6)) else (some (z1, b))
def fd_X5_rest_L26 (k_16 : ob_B → Int32 → Option (Int32 × ob_B)) : Nat → ob_B → Int32 → Int32 → Int32 → Option (Int32 × ob_B)
  | 0, _, _, _, _ => none
  | fu + 1, b, z1, z2, z3 => if 10 < z3 then (fd_X5_rest_L65 k_16 b z1 z2) else (if z2 = 0 then (ob_lt (z3 + 1 : Int32) (fun x_3 => fd_X5_rest_L26 k_16 fu b z1 0 x_3)) else (if (z1 + z3) < 0 ∨ 71 ≤ Int32.toNatClampNeg (z1 + z3) then none else (if z1 < 0 ∨ 71 ≤ Int32.toNatClampNeg z1 then none else (if ((b.2 22) (Int32.toNatClampNeg (z1 + z3))) = ((b.2 22) (Int32.toNatClampNeg z1)) then (ob_lt (z3 + 1 : Int32) (fun x_5 => fd_X5_rest_L26 k_16 fu b z1 1 x_5)) else (ob_lt (z3 + 1 : Int32) (fun x_4 => fd_X5_rest_L26 k_16 fu b z1 0 x_4))))))
def fd_X5_rest_L16  : Nat → ob_B → Int32 → Option (Int32 × ob_B)
  | 0, _, _ => none
  | fu + 1, b, z1 => if 60 < z1 then (some ((-1000000), b)) else (fd_X5_rest_L26 (fd_X5_rest_L16 fu) 2000 b z1 1 1)
def fd_X5_rest  (b : ob_B)  : Option (Int32 × ob_B) := ob_b1 (fd_X5_isRoute b) (fun r_1 => if r_1 = 0 then (some ((-1000002), b)) else (ob_b1 (fd_X5_layPlaces b) (fun b_2 => fd_X5_rest_L16 2000 b_2 0)))
set_option maxHeartbeats 4000000 in
set_option maxRecDepth 100000 in
theorem mt_X5_rest (l : Launch) (dC : Nat → ClassId) (dI : Nat → Nat → Nat) (cI cZ cR cW : ClassId) (xs : Nat → Nat) (sz : Nat) (o_b : Nat) (a_b : Nat → Nat) (b : ob_B)   (rr : Int32) (b' : ob_B) (hd : fd_X5_rest b = some (rr, b')) : ob_M l yX5_rest wsX5_rest ({ frames := 5, cells := 0, slots := 0, locals := 113 } : Room) (dC, dI) (ob_ty cI cZ cR cW) xs [.ref o_b] (ob_w5 o_b a_b cI cZ b) sz (ob_Qi (dC, dI) rr (ob_w5 o_b a_b cI cZ b')) := by
  rw [fd_X5_rest] at hd
  refine ob_in (cc := cX5_rest) (maxL := 4) (ret := (some .int)) (own := RX5) (by decide) rfl rfl [(0, .ref o_b)] rfl (Nat.le_of_ble_eq_true rfl) ?_
  intro p e s m below meth c hx hb hr hml hown hts hlocks hnm hK A hA hE hP hD hS ls hl
  have kw0 := hts (.constant RX5 130 (-1000002)) (by decide +kernel)
  have kw1 := hts (.constant RX5 163 (-1000000)) (by decide +kernel)
  have kw2 := hts (.fieldLink RX5 47 "OathCoachModel" "places" "[I") (by decide +kernel)
  have hi_X5 : ∀ w ∈ u_ws RX5 TX5 23, w ∈ wsX5_rest := by decide +kernel
  have L65 : ∀ (k_16 : ob_B → Int32 → Option (Int32 × ob_B)) (hk_16 : ∀ (H : Heap) (locs : List Loc) (b : ob_B) (z1 : Int32) (ls : Array Slot), va_P (dC, dI) vwCl (ob_w5 o_b a_b cI cZ b) H → va_D A (ob_w5 o_b a_b cI cZ b) → va_S A s.heap H locs → lv_has ls 4 [(0, .ref o_b), (1, .int z1)] → k_16 b z1 = some (rr, b') → W p l e ({ frames := 5, cells := 0, slots := 0, locals := 113 } : Room) s m (List.toArray [.ref o_b]) below meth c H locs 0 0 (MQ below ((ob_Qi (dC, dI) rr (ob_w5 o_b a_b cI cZ b')) A) (List.toArray [.ref o_b]) s 0 0 A) (F0 m 16 ls [])), ∀ (H : Heap) (locs : List Loc) (b : ob_B) (z1 : Int32) (z2 : Int32) (ls : Array Slot), va_P (dC, dI) vwCl (ob_w5 o_b a_b cI cZ b) H → va_D A (ob_w5 o_b a_b cI cZ b) → va_S A s.heap H locs → lv_has ls 4 [(0, .ref o_b), (1, .int z1), (2, .int z2)] → fd_X5_rest_L65 k_16 b z1 z2 = some (rr, b') → W p l e ({ frames := 5, cells := 0, slots := 0, locals := 113 } : Room) s m (List.toArray [.ref o_b]) below meth c H locs 0 0 (MQ below ((ob_Qi (dC, dI) rr (ob_w5 o_b a_b cI cZ b')) A) (List.toArray [.ref o_b]) s 0 0 A) (F0 m 65 ls []) := by
    intro k_16 hk_16 H locs b z1 z2 ls hP hD hS hl hd
    rw [fd_X5_rest_L65] at hd
    refine lv_iload_n hx hb dX5_rest_65 rfl (lv_at hl 2 rfl) ?_
    refine lv_if_eq (tgt := 71) hx hb dX5_rest_66 (by decide) (fun c_66 => ?_) (fun c_66 => ?_)
    · replace hd := ob_t c_66 hd
      obtain ⟨x_6, ex_6⟩ : ∃ z : Int32, z = z1 + 1 := ⟨_, rfl⟩
      replace hd := ob_lx ex_6 hd
      refine lv_iinc (v := x_6) (lv' := [(1, .int x_6), (0, .ref o_b), (2, .int z2)]) hx hb dX5_rest_71 hl (k := 1) rfl (by rw [ex_6]; rfl) (by decide) rfl (fun ls hl => ?_)
      clear ex_6
      refine lv_goto (tgt := 16) hx hb dX5_rest_74 (by decide) ?_
      exact hk_16 _ _ b x_6 _ hP hD hS (lv_sub hl [1, 0] rfl) hd
    · replace hd := ob_f c_66 hd
      refine lv_iload_n hx hb dX5_rest_69 rfl (lv_at hl 1 rfl) ?_
      obtain ⟨e1, e2⟩ := ob_pp hd
      subst e1
      subst e2
      exact ob_iret hx hb hr hlocks hP hD hS dX5_rest_70
  have L26 : ∀ (k_16 : ob_B → Int32 → Option (Int32 × ob_B)) (hk_16 : ∀ (H : Heap) (locs : List Loc) (b : ob_B) (z1 : Int32) (ls : Array Slot), va_P (dC, dI) vwCl (ob_w5 o_b a_b cI cZ b) H → va_D A (ob_w5 o_b a_b cI cZ b) → va_S A s.heap H locs → lv_has ls 4 [(0, .ref o_b), (1, .int z1)] → k_16 b z1 = some (rr, b') → W p l e ({ frames := 5, cells := 0, slots := 0, locals := 113 } : Room) s m (List.toArray [.ref o_b]) below meth c H locs 0 0 (MQ below ((ob_Qi (dC, dI) rr (ob_w5 o_b a_b cI cZ b')) A) (List.toArray [.ref o_b]) s 0 0 A) (F0 m 16 ls [])) (fu : Nat), ∀ (H : Heap) (locs : List Loc) (b : ob_B) (z1 : Int32) (z2 : Int32) (z3 : Int32) (ls : Array Slot), va_P (dC, dI) vwCl (ob_w5 o_b a_b cI cZ b) H → va_D A (ob_w5 o_b a_b cI cZ b) → va_S A s.heap H locs → lv_has ls 4 [(0, .ref o_b), (1, .int z1), (2, .int z2), (3, .int z3)] → fd_X5_rest_L26 k_16 fu b z1 z2 z3 = some (rr, b') → W p l e ({ frames := 5, cells := 0, slots := 0, locals := 113 } : Room) s m (List.toArray [.ref o_b]) below meth c H locs 0 0 (MQ below ((ob_Qi (dC, dI) rr (ob_w5 o_b a_b cI cZ b')) A) (List.toArray [.ref o_b]) s 0 0 A) (F0 m 26 ls []) := by
    intro k_16 hk_16 fu
    induction fu with
    | zero =>
      intro H locs b z1 z2 z3 ls hP hD hS hl hd
      rw [fd_X5_rest_L26] at hd
      cases hd
    | succ fu ih =>
      intro H locs b z1 z2 z3 ls hP hD hS hl hd
      rw [fd_X5_rest_L26] at hd
      refine lv_iload_n hx hb dX5_rest_26 rfl (lv_at hl 3 rfl) ?_
      refine lv_bipush (v := 10) hx hb dX5_rest_27 (by decide) ?_
      refine lv_icmp_gt (tgt := 65) hx hb dX5_rest_29 (by decide) (fun c_29 => ?_) (fun c_29 => ?_)
      · replace hd := ob_t c_29 hd
        exact L65 k_16 hk_16  _ _ b z1 z2 _ hP hD hS (lv_sub hl [0, 1, 2] rfl) hd
      · replace hd := ob_f c_29 hd
        refine lv_iload_n hx hb dX5_rest_32 rfl (lv_at hl 2 rfl) ?_
        refine lv_if_eq (tgt := 57) hx hb dX5_rest_33 (by decide) (fun c_33 => ?_) (fun c_33 => ?_)
        · replace hd := ob_t c_33 hd
          refine lv_iconst (v := 0) hx hb dX5_rest_57 (by decide) ?_
          refine lv_istore_n (lv' := [(2, .int 0), (0, .ref o_b), (1, .int z1), (3, .int z3)]) hx hb dX5_rest_58 rfl hl (by decide) rfl (fun ls hl => ?_)
          obtain ⟨x_3, ex_3⟩ : ∃ z : Int32, z = z3 + 1 := ⟨_, rfl⟩
          replace hd := ob_lx ex_3 hd
          refine lv_iinc (v := x_3) (lv' := [(3, .int x_3), (2, .int 0), (0, .ref o_b), (1, .int z1)]) hx hb dX5_rest_59 hl (k := 3) rfl (by rw [ex_3]; rfl) (by decide) rfl (fun ls hl => ?_)
          clear ex_3
          refine lv_goto (tgt := 26) hx hb dX5_rest_62 (by decide) ?_
          exact ih _ _ b z1 0 x_3 _ hP hD hS (lv_sub hl [2, 3, 1, 0] rfl) hd
        · replace hd := ob_f c_33 hd
          refine lv_aload_n hx hb dX5_rest_36 rfl (lv_at hl 0 rfl) ?_
          refine va_get (D := (dC, dI)) (ci := 5) (v := .ref (a_b 22)) (C := RX5) (T := TX5) (N := 23) hx hb hts hi_X5 hown hK hP 0 rfl rfl 22 (by decide) kw2 (fun _ h9 => h9) rfl dX5_rest_37 ?_
          refine lv_iload_n hx hb dX5_rest_40 rfl (lv_at hl 1 rfl) ?_
          refine lv_iload_n hx hb dX5_rest_41 rfl (lv_at hl 3 rfl) ?_
          refine lv_iadd hx hb dX5_rest_42 ?_
          obtain ⟨h1_43, hd⟩ := ob_nn hd
          refine va_iald hx hb hK hP 13 0 rfl rfl h1_43 dX5_rest_43 ?_
          refine lv_aload_n hx hb dX5_rest_44 rfl (lv_at hl 0 rfl) ?_
          refine va_get (D := (dC, dI)) (ci := 5) (v := .ref (a_b 22)) (C := RX5) (T := TX5) (N := 23) hx hb hts hi_X5 hown hK hP 0 rfl rfl 22 (by decide) kw2 (fun _ h9 => h9) rfl dX5_rest_45 ?_
          refine lv_iload_n hx hb dX5_rest_48 rfl (lv_at hl 1 rfl) ?_
          obtain ⟨h1_49, hd⟩ := ob_nn hd
          refine va_iald hx hb hK hP 13 0 rfl rfl h1_49 dX5_rest_49 ?_
          refine lv_icmp_ne (tgt := 57) hx hb dX5_rest_50 (by decide) (fun c_50 => ?_) (fun c_50 => ?_)
          · replace hd := ob_f c_50 hd
            refine lv_iconst (v := 0) hx hb dX5_rest_57 (by decide) ?_
            refine lv_istore_n (lv' := [(2, .int 0), (0, .ref o_b), (1, .int z1), (3, .int z3)]) hx hb dX5_rest_58 rfl hl (by decide) rfl (fun ls hl => ?_)
            obtain ⟨x_4, ex_4⟩ : ∃ z : Int32, z = z3 + 1 := ⟨_, rfl⟩
            replace hd := ob_lx ex_4 hd
            refine lv_iinc (v := x_4) (lv' := [(3, .int x_4), (2, .int 0), (0, .ref o_b), (1, .int z1)]) hx hb dX5_rest_59 hl (k := 3) rfl (by rw [ex_4]; rfl) (by decide) rfl (fun ls hl => ?_)
            clear ex_4
            refine lv_goto (tgt := 26) hx hb dX5_rest_62 (by decide) ?_
            exact ih _ _ b z1 0 x_4 _ hP hD hS (lv_sub hl [2, 3, 1, 0] rfl) hd
          · replace hd := ob_t c_50 hd
            refine lv_iconst (v := 1) hx hb dX5_rest_53 (by decide) ?_
            refine lv_goto (tgt := 58) hx hb dX5_rest_54 (by decide) ?_
            refine lv_istore_n (lv' := [(2, .int 1), (0, .ref o_b), (1, .int z1), (3, .int z3)]) hx hb dX5_rest_58 rfl hl (by decide) rfl (fun ls hl => ?_)
            obtain ⟨x_5, ex_5⟩ : ∃ z : Int32, z = z3 + 1 := ⟨_, rfl⟩
            replace hd := ob_lx ex_5 hd
            refine lv_iinc (v := x_5) (lv' := [(3, .int x_5), (2, .int 1), (0, .ref o_b), (1, .int z1)]) hx hb dX5_rest_59 hl (k := 3) rfl (by rw [ex_5]; rfl) (by decide) rfl (fun ls hl => ?_)
            clear ex_5
            refine lv_goto (tgt := 26) hx hb dX5_rest_62 (by decide) ?_
            exact ih _ _ b z1 1 x_5 _ hP hD hS (lv_sub hl [2, 3, 1, 0] rfl) hd
  have L16 : ∀  (fu : Nat), ∀ (H : Heap) (locs : List Loc) (b : ob_B) (z1 : Int32) (ls : Array Slot), va_P (dC, dI) vwCl (ob_w5 o_b a_b cI cZ b) H → va_D A (ob_w5 o_b a_b cI cZ b) → va_S A s.heap H locs → lv_has ls 4 [(0, .ref o_b), (1, .int z1)] → fd_X5_rest_L16 fu b z1 = some (rr, b') → W p l e ({ frames := 5, cells := 0, slots := 0, locals := 113 } : Room) s m (List.toArray [.ref o_b]) below meth c H locs 0 0 (MQ below ((ob_Qi (dC, dI) rr (ob_w5 o_b a_b cI cZ b')) A) (List.toArray [.ref o_b]) s 0 0 A) (F0 m 16 ls []) := by
    intro  fu
    induction fu with
    | zero =>
      intro H locs b z1 ls hP hD hS hl hd
      rw [fd_X5_rest_L16] at hd
      cases hd
    | succ fu ih =>
      intro H locs b z1 ls hP hD hS hl hd
      rw [fd_X5_rest_L16] at hd
      refine lv_iload_n hx hb dX5_rest_16 rfl (lv_at hl 1 rfl) ?_
      refine lv_bipush (v := 60) hx hb dX5_rest_17 (by decide) ?_
      refine lv_icmp_gt (tgt := 77) hx hb dX5_rest_19 (by decide) (fun c_19 => ?_) (fun c_19 => ?_)
      · replace hd := ob_t c_19 hd
        refine lv_ldc hx hb hown kw1 dX5_rest_77 ?_
        obtain ⟨e1, e2⟩ := ob_pp hd
        subst e1
        subst e2
        exact ob_iret hx hb hr hlocks hP hD hS dX5_rest_79
      · replace hd := ob_f c_19 hd
        refine lv_iconst (v := 1) hx hb dX5_rest_22 (by decide) ?_
        refine lv_istore_n (lv' := [(2, .int 1), (0, .ref o_b), (1, .int z1)]) hx hb dX5_rest_23 rfl hl (by decide) rfl (fun ls hl => ?_)
        refine lv_iconst (v := 1) hx hb dX5_rest_24 (by decide) ?_
        refine lv_istore_n (lv' := [(3, .int 1), (2, .int 1), (0, .ref o_b), (1, .int z1)]) hx hb dX5_rest_25 rfl hl (by decide) rfl (fun ls hl => ?_)
        exact L26 (fd_X5_rest_L16 fu) ih 2000 _ _ b z1 1 1 _ hP hD hS (lv_sub hl [2, 3, 1, 0] rfl) hd
  refine lv_aload_n hx hb dX5_rest_0 rfl (lv_at hl 0 rfl) ?_
  obtain ⟨r_1, hc_1, hd⟩ := ob_s1 hd
  refine ob_Vi (isC := [0, 1, 2, 3, 4, 5, 6, 7, 8, 9, 10, 11, 12, 13]) (isR := []) (is2 := [0, 1, 2, 3, 4, 5, 6, 7, 8, 9, 10, 11, 12, 13]) (wc := (ob_w5 o_b a_b cI cZ b)) (wr := ([] : va_W)) (w1 := (ob_w5 o_b a_b cI cZ b)) (w2 := (ob_w5 o_b a_b cI cZ b)) (b := o_b) (As := []) (rest := []) ⟨hx, hb, hml, hown, hts⟩ (mt_X5_isRoute l dC dI cI cZ cR cW xs _ o_b a_b b r_1 hc_1) (cwV 0 hts gX5_rest_X5_isRoute rfl rfl rfl (by decide +kernel) ⟨Nat.le_of_ble_eq_true rfl, Nat.le_of_ble_eq_true rfl⟩) hK hE hP hD hS hA ⟨rfl, rfl, rfl, rfl, rfl, rfl, rfl⟩ 5 0 rfl rfl rfl hl rfl rfl (Nat.le_of_ble_eq_true rfl) ⟨Nat.le_of_ble_eq_true rfl, Nat.le_of_ble_eq_true rfl⟩ dX5_rest_1 (fun H locs hP hD hS => ?_)
  refine W.widen (k := 0) (n := 0) (Nat.le_refl _) (Nat.le_refl _) ?_
  refine lv_if_ne (tgt := 10) hx hb dX5_rest_4 (by decide) (fun c_4 => ?_) (fun c_4 => ?_)
  · replace hd := ob_f c_4 hd
    refine lv_aload_n hx hb dX5_rest_10 rfl (lv_at hl 0 rfl) ?_
    obtain ⟨b_2, hc_11, hd⟩ := ob_s1 hd
    refine ob_Vv (isC := [0, 1, 2, 3, 4, 5, 6, 7, 8, 9, 10, 11, 12, 13]) (isR := []) (is2 := [0, 1, 2, 3, 4, 5, 6, 7, 8, 9, 10, 11, 12, 13]) (wc := (ob_w5 o_b a_b cI cZ b)) (wr := ([] : va_W)) (w1 := (ob_w5 o_b a_b cI cZ b_2)) (w2 := (ob_w5 o_b a_b cI cZ b_2)) (b := o_b) (As := []) (rest := []) ⟨hx, hb, hml, hown, hts⟩ (mt_X5_layPlaces l dC dI cI cZ cR cW xs _ o_b a_b b b_2 hc_11) (cwV 0 hts gX5_rest_X5_layPlaces rfl rfl rfl (by decide +kernel) ⟨Nat.le_of_ble_eq_true rfl, Nat.le_of_ble_eq_true rfl⟩) hK hE hP hD hS hA ⟨rfl, rfl, rfl, rfl, rfl, rfl, rfl⟩ 5 0 rfl rfl rfl hl rfl rfl (Nat.le_of_ble_eq_true rfl) ⟨Nat.le_of_ble_eq_true rfl, Nat.le_of_ble_eq_true rfl⟩ dX5_rest_11 (fun H locs hP hD hS => ?_)
    refine W.widen (k := 0) (n := 0) (Nat.le_refl _) (Nat.le_refl _) ?_
    refine lv_iconst (v := 0) hx hb dX5_rest_14 (by decide) ?_
    refine lv_istore_n (lv' := [(1, .int 0), (0, .ref o_b)]) hx hb dX5_rest_15 rfl hl (by decide) rfl (fun ls hl => ?_)
    exact L16  2000 _ _ b_2 0 _ hP hD hS (lv_sub hl [1, 0] rfl) hd
  · replace hd := ob_t c_4 hd
    refine lv_ldc hx hb hown kw0 dX5_rest_7 ?_
    obtain ⟨e1, e2⟩ := ob_pp hd
    subst e1
    subst e2
    exact ob_iret hx hb hr hlocks hP hD hS dX5_rest_9

def fd_X5_least_L34  : Nat → ob_B → Int32 → Int32 → Int32 → Int32 → Option (Int32 × ob_B)
  | 0, _, _, _, _, _ => none
  | fu + 1, b, x1, x2, x3, z4 => if 20 < z4 then (some ((-1000000), b)) else (ob_b1 (fd_X5_begin b) (fun b_4 => if (14 + x1) < 0 ∨ 42 ≤ Int32.toNatClampNeg (14 + x1) then none else (ob_lt (ob_A b_4 14 (upd (b_4.2 14) (Int32.toNatClampNeg (14 + x1)) x2) : ob_B) (fun b_5 => if (21 + x1) < 0 ∨ 42 ≤ Int32.toNatClampNeg (21 + x1) then none else (ob_lt (ob_A b_5 14 (upd (b_5.2 14) (Int32.toNatClampNeg (21 + x1)) z4) : ob_B) (fun b_6 => if (35 + x1) < 0 ∨ 42 ≤ Int32.toNatClampNeg (35 + x1) then none else (ob_lt (ob_A b_6 14 (upd (b_6.2 14) (Int32.toNatClampNeg (35 + x1)) 0) : ob_B) (fun b_7 => ob_b2 (fd_X5_goOn b_7 x3) (fun r_8 b_9 => if r_8 = ((b_9.2 12) (Int32.toNatClampNeg 1)) then (some (z4, b_9)) else (ob_lt (z4 + 1 : Int32) (fun x_10 => fd_X5_least_L34 fu b_9 x1 x2 x3 x_10)))))))))))
def fd_X5_least  (b : ob_B) (x1 : Int32) (x2 : Int32) (x3 : Int32) : Option (Int32 × ob_B) := ob_b1 (fd_X5_isOne b x1) (fun r_1 => if r_1 = 0 then (some ((-1000001), b)) else (ob_b1 (fd_X5_in x2 0 9) (fun r_2 => if r_2 = 0 then (some ((-1000001), b)) else (ob_b1 (fd_X5_in x3 1 24) (fun r_3 => if r_3 = 0 then (some ((-1000001), b)) else (fd_X5_least_L34 2000 b x1 x2 x3 1))))))
set_option maxHeartbeats 4000000 in
set_option maxRecDepth 100000 in
theorem mt_X5_least (l : Launch) (dC : Nat → ClassId) (dI : Nat → Nat → Nat) (cI cZ cR cW : ClassId) (xs : Nat → Nat) (sz : Nat) (o_b : Nat) (a_b : Nat → Nat) (b : ob_B) (x1 : Int32) (x2 : Int32) (x3 : Int32)  (rr : Int32) (b' : ob_B) (hd : fd_X5_least b x1 x2 x3 = some (rr, b')) : ob_M l yX5_least wsX5_least ({ frames := 5, cells := 0, slots := 0, locals := 114 } : Room) (dC, dI) (ob_ty cI cZ cR cW) xs [.ref o_b, .int x1, .int x2, .int x3] (ob_w5 o_b a_b cI cZ b) sz (ob_Qi (dC, dI) rr (ob_w5 o_b a_b cI cZ b')) := by
  rw [fd_X5_least] at hd
  refine ob_in (cc := cX5_least) (maxL := 5) (ret := (some .int)) (own := RX5) (by decide) rfl rfl [(0, .ref o_b), (1, .int x1), (2, .int x2), (3, .int x3)] rfl (Nat.le_of_ble_eq_true rfl) ?_
  intro p e s m below meth c hx hb hr hml hown hts hlocks hnm hK A hA hE hP hD hS ls hl
  have kw0 := hts (.constant RX5 63 (-1000001)) (by decide +kernel)
  have kw1 := hts (.constant RX5 163 (-1000000)) (by decide +kernel)
  have kw2 := hts (.fieldLink RX5 28 "OathCoachModel" "tried" "[I") (by decide +kernel)
  have kw3 := hts (.fieldLink RX5 22 "OathCoachModel" "now" "[I") (by decide +kernel)
  have hi_X5 : ∀ w ∈ u_ws RX5 TX5 23, w ∈ wsX5_least := by decide +kernel
  have L34 : ∀  (fu : Nat), ∀ (H : Heap) (locs : List Loc) (b : ob_B) (z4 : Int32) (ls : Array Slot), va_P (dC, dI) vwCl (ob_w5 o_b a_b cI cZ b) H → va_D A (ob_w5 o_b a_b cI cZ b) → va_S A s.heap H locs → lv_has ls 5 [(0, .ref o_b), (1, .int x1), (2, .int x2), (3, .int x3), (4, .int z4)] → fd_X5_least_L34 fu b x1 x2 x3 z4 = some (rr, b') → W p l e ({ frames := 5, cells := 0, slots := 0, locals := 114 } : Room) s m (List.toArray [.ref o_b, .int x1, .int x2, .int x3]) below meth c H locs 0 0 (MQ below ((ob_Qi (dC, dI) rr (ob_w5 o_b a_b cI cZ b')) A) (List.toArray [.ref o_b, .int x1, .int x2, .int x3]) s 0 0 A) (F0 m 34 ls []) := by
    intro  fu
    induction fu with
    | zero =>
      intro H locs b z4 ls hP hD hS hl hd
      rw [fd_X5_least_L34] at hd
      cases hd
    | succ fu ih =>
      intro H locs b z4 ls hP hD hS hl hd
      rw [fd_X5_least_L34] at hd
      refine lv_iload hx hb dX5_least_34 (lv_at hl 4 rfl) ?_
      refine lv_bipush (v := 20) hx hb dX5_least_36 (by decide) ?_
      refine lv_icmp_gt (tgt := 99) hx hb dX5_least_38 (by decide) (fun c_38 => ?_) (fun c_38 => ?_)
      · replace hd := ob_t c_38 hd
        refine lv_ldc hx hb hown kw1 dX5_least_99 ?_
        obtain ⟨e1, e2⟩ := ob_pp hd
        subst e1
        subst e2
        exact ob_iret hx hb hr hlocks hP hD hS dX5_least_101
      · replace hd := ob_f c_38 hd
        refine lv_aload_n hx hb dX5_least_41 rfl (lv_at hl 0 rfl) ?_
        obtain ⟨b_4, hc_42, hd⟩ := ob_s1 hd
        refine ob_Vv (isC := [0, 1, 2, 3, 4, 5, 6, 7, 8, 9, 10, 11, 12, 13]) (isR := []) (is2 := [0, 1, 2, 3, 4, 5, 6, 7, 8, 9, 10, 11, 12, 13]) (wc := (ob_w5 o_b a_b cI cZ b)) (wr := ([] : va_W)) (w1 := (ob_w5 o_b a_b cI cZ b_4)) (w2 := (ob_w5 o_b a_b cI cZ b_4)) (b := o_b) (As := []) (rest := []) ⟨hx, hb, hml, hown, hts⟩ (mt_X5_begin l dC dI cI cZ cR cW xs _ o_b a_b b b_4 hc_42) (cwV 0 hts gX5_least_X5_begin rfl rfl rfl (by decide +kernel) ⟨Nat.le_of_ble_eq_true rfl, Nat.le_of_ble_eq_true rfl⟩) hK hE hP hD hS hA ⟨rfl, rfl, rfl, rfl, rfl, rfl, rfl⟩ 5 0 rfl rfl rfl hl rfl rfl (Nat.le_of_ble_eq_true rfl) ⟨Nat.le_of_ble_eq_true rfl, Nat.le_of_ble_eq_true rfl⟩ dX5_least_42 (fun H locs hP hD hS => ?_)
        refine W.widen (k := 0) (n := 0) (Nat.le_refl _) (Nat.le_refl _) ?_
        refine lv_aload_n hx hb dX5_least_45 rfl (lv_at hl 0 rfl) ?_
        refine va_get (D := (dC, dI)) (ci := 5) (v := .ref (a_b 14)) (C := RX5) (T := TX5) (N := 23) hx hb hts hi_X5 hown hK hP 0 rfl rfl 14 (by decide) kw2 (fun _ h9 => h9) rfl dX5_least_46 ?_
        refine lv_bipush (v := 14) hx hb dX5_least_49 (by decide) ?_
        refine lv_iload_n hx hb dX5_least_51 rfl (lv_at hl 1 rfl) ?_
        refine lv_iadd hx hb dX5_least_52 ?_
        refine lv_iload_n hx hb dX5_least_53 rfl (lv_at hl 2 rfl) ?_
        obtain ⟨h1_54, hd⟩ := ob_nn hd
        refine va_iast hx hb hK hP hD hS 7 0 rfl rfl h1_54 dX5_least_54 (fun H locs hP hD hS => ?_)
        obtain ⟨b_5, eb_5⟩ : ∃ z : ob_B, z = ob_A b_4 14 (upd (b_4.2 14) (Int32.toNatClampNeg (14 + x1)) x2) := ⟨_, rfl⟩
        replace hd := ob_lx eb_5 hd
        replace hP : va_P (dC, dI) vwCl (ob_w5 o_b a_b cI cZ b_5) H := by rw [eb_5]; exact hP
        replace hD : va_D A (ob_w5 o_b a_b cI cZ b_5) := by rw [eb_5]; exact hD
        clear eb_5
        refine lv_aload_n hx hb dX5_least_55 rfl (lv_at hl 0 rfl) ?_
        refine va_get (D := (dC, dI)) (ci := 5) (v := .ref (a_b 14)) (C := RX5) (T := TX5) (N := 23) hx hb hts hi_X5 hown hK hP 0 rfl rfl 14 (by decide) kw2 (fun _ h9 => h9) rfl dX5_least_56 ?_
        refine lv_bipush (v := 21) hx hb dX5_least_59 (by decide) ?_
        refine lv_iload_n hx hb dX5_least_61 rfl (lv_at hl 1 rfl) ?_
        refine lv_iadd hx hb dX5_least_62 ?_
        refine lv_iload hx hb dX5_least_63 (lv_at hl 4 rfl) ?_
        obtain ⟨h1_65, hd⟩ := ob_nn hd
        refine va_iast hx hb hK hP hD hS 7 0 rfl rfl h1_65 dX5_least_65 (fun H locs hP hD hS => ?_)
        obtain ⟨b_6, eb_6⟩ : ∃ z : ob_B, z = ob_A b_5 14 (upd (b_5.2 14) (Int32.toNatClampNeg (21 + x1)) z4) := ⟨_, rfl⟩
        replace hd := ob_lx eb_6 hd
        replace hP : va_P (dC, dI) vwCl (ob_w5 o_b a_b cI cZ b_6) H := by rw [eb_6]; exact hP
        replace hD : va_D A (ob_w5 o_b a_b cI cZ b_6) := by rw [eb_6]; exact hD
        clear eb_6
        refine lv_aload_n hx hb dX5_least_66 rfl (lv_at hl 0 rfl) ?_
        refine va_get (D := (dC, dI)) (ci := 5) (v := .ref (a_b 14)) (C := RX5) (T := TX5) (N := 23) hx hb hts hi_X5 hown hK hP 0 rfl rfl 14 (by decide) kw2 (fun _ h9 => h9) rfl dX5_least_67 ?_
        refine lv_bipush (v := 35) hx hb dX5_least_70 (by decide) ?_
        refine lv_iload_n hx hb dX5_least_72 rfl (lv_at hl 1 rfl) ?_
        refine lv_iadd hx hb dX5_least_73 ?_
        refine lv_iconst (v := 0) hx hb dX5_least_74 (by decide) ?_
        obtain ⟨h1_75, hd⟩ := ob_nn hd
        refine va_iast hx hb hK hP hD hS 7 0 rfl rfl h1_75 dX5_least_75 (fun H locs hP hD hS => ?_)
        obtain ⟨b_7, eb_7⟩ : ∃ z : ob_B, z = ob_A b_6 14 (upd (b_6.2 14) (Int32.toNatClampNeg (35 + x1)) 0) := ⟨_, rfl⟩
        replace hd := ob_lx eb_7 hd
        replace hP : va_P (dC, dI) vwCl (ob_w5 o_b a_b cI cZ b_7) H := by rw [eb_7]; exact hP
        replace hD : va_D A (ob_w5 o_b a_b cI cZ b_7) := by rw [eb_7]; exact hD
        clear eb_7
        refine lv_aload_n hx hb dX5_least_76 rfl (lv_at hl 0 rfl) ?_
        refine lv_iload_n hx hb dX5_least_77 rfl (lv_at hl 3 rfl) ?_
        obtain ⟨r_8, b_9, hc_78, hd⟩ := ob_s2 hd
        refine ob_Vi (isC := [0, 1, 2, 3, 4, 5, 6, 7, 8, 9, 10, 11, 12, 13]) (isR := []) (is2 := [0, 1, 2, 3, 4, 5, 6, 7, 8, 9, 10, 11, 12, 13]) (wc := (ob_w5 o_b a_b cI cZ b_7)) (wr := ([] : va_W)) (w1 := (ob_w5 o_b a_b cI cZ b_9)) (w2 := (ob_w5 o_b a_b cI cZ b_9)) (b := o_b) (As := [.int x3]) (rest := []) ⟨hx, hb, hml, hown, hts⟩ (mt_X5_goOn l dC dI cI cZ cR cW xs _ o_b a_b b_7 x3 r_8 b_9 hc_78) (cwV 1 hts gX5_least_X5_goOn rfl rfl rfl (by decide +kernel) ⟨Nat.le_of_ble_eq_true rfl, Nat.le_of_ble_eq_true rfl⟩) hK hE hP hD hS hA ⟨rfl, rfl, rfl, rfl, rfl, rfl, rfl⟩ 5 0 rfl rfl rfl hl rfl rfl (Nat.le_of_ble_eq_true rfl) ⟨Nat.le_of_ble_eq_true rfl, Nat.le_of_ble_eq_true rfl⟩ dX5_least_78 (fun H locs hP hD hS => ?_)
        refine W.widen (k := 0) (n := 0) (Nat.le_refl _) (Nat.le_refl _) ?_
        refine lv_aload_n hx hb dX5_least_81 rfl (lv_at hl 0 rfl) ?_
        refine va_get (D := (dC, dI)) (ci := 5) (v := .ref (a_b 12)) (C := RX5) (T := TX5) (N := 23) hx hb hts hi_X5 hown hK hP 0 rfl rfl 12 (by decide) kw3 (fun _ h9 => h9) rfl dX5_least_82 ?_
        refine lv_iconst (v := 1) hx hb dX5_least_85 (by decide) ?_
        refine va_iald hx hb hK hP 5 0 rfl rfl (by unfold vp_in; decide) dX5_least_86 ?_
        refine lv_icmp_ne (tgt := 93) hx hb dX5_least_87 (by decide) (fun c_87 => ?_) (fun c_87 => ?_)
        · replace hd := ob_f c_87 hd
          obtain ⟨x_10, ex_10⟩ : ∃ z : Int32, z = z4 + 1 := ⟨_, rfl⟩
          replace hd := ob_lx ex_10 hd
          refine lv_iinc (v := x_10) (lv' := [(4, .int x_10), (0, .ref o_b), (1, .int x1), (2, .int x2), (3, .int x3)]) hx hb dX5_least_93 hl (k := 4) rfl (by rw [ex_10]; rfl) (by decide) rfl (fun ls hl => ?_)
          clear ex_10
          refine lv_goto (tgt := 34) hx hb dX5_least_96 (by decide) ?_
          exact ih _ _ b_9 x_10 _ hP hD hS (lv_sub hl [1, 2, 3, 4, 0] rfl) hd
        · replace hd := ob_t c_87 hd
          refine lv_iload hx hb dX5_least_90 (lv_at hl 4 rfl) ?_
          obtain ⟨e1, e2⟩ := ob_pp hd
          subst e1
          subst e2
          exact ob_iret hx hb hr hlocks hP hD hS dX5_least_92
  refine lv_aload_n hx hb dX5_least_0 rfl (lv_at hl 0 rfl) ?_
  refine lv_iload_n hx hb dX5_least_1 rfl (lv_at hl 1 rfl) ?_
  obtain ⟨r_1, hc_2, hd⟩ := ob_s1 hd
  refine ob_Vi (isC := [0, 1, 2, 3, 4, 5, 6, 7, 8, 9, 10, 11, 12, 13]) (isR := []) (is2 := [0, 1, 2, 3, 4, 5, 6, 7, 8, 9, 10, 11, 12, 13]) (wc := (ob_w5 o_b a_b cI cZ b)) (wr := ([] : va_W)) (w1 := (ob_w5 o_b a_b cI cZ b)) (w2 := (ob_w5 o_b a_b cI cZ b)) (b := o_b) (As := [.int x1]) (rest := []) ⟨hx, hb, hml, hown, hts⟩ (mt_X5_isOne l dC dI cI cZ cR cW xs _ o_b a_b b x1 r_1 hc_2) (cwV 1 hts gX5_least_X5_isOne rfl rfl rfl (by decide +kernel) ⟨Nat.le_of_ble_eq_true rfl, Nat.le_of_ble_eq_true rfl⟩) hK hE hP hD hS hA ⟨rfl, rfl, rfl, rfl, rfl, rfl, rfl⟩ 5 0 rfl rfl rfl hl rfl rfl (Nat.le_of_ble_eq_true rfl) ⟨Nat.le_of_ble_eq_true rfl, Nat.le_of_ble_eq_true rfl⟩ dX5_least_2 (fun H locs hP hD hS => ?_)
  refine W.widen (k := 0) (n := 0) (Nat.le_refl _) (Nat.le_refl _) ?_
  refine lv_if_eq (tgt := 28) hx hb dX5_least_5 (by decide) (fun c_5 => ?_) (fun c_5 => ?_)
  · replace hd := ob_t c_5 hd
    refine lv_ldc hx hb hown kw0 dX5_least_28 ?_
    obtain ⟨e1, e2⟩ := ob_pp hd
    subst e1
    subst e2
    exact ob_iret hx hb hr hlocks hP hD hS dX5_least_30
  · replace hd := ob_f c_5 hd
    refine lv_iload_n hx hb dX5_least_8 rfl (lv_at hl 2 rfl) ?_
    refine lv_iconst (v := 0) hx hb dX5_least_9 (by decide) ?_
    refine lv_bipush (v := 9) hx hb dX5_least_10 (by decide) ?_
    obtain ⟨r_2, hc_12, hd⟩ := ob_s1 hd
    refine ob_Si (isC := []) (isR := [0, 1, 2, 3, 4, 5, 6, 7, 8, 9, 10, 11, 12, 13]) (is2 := [0, 1, 2, 3, 4, 5, 6, 7, 8, 9, 10, 11, 12, 13]) (wc := ([] : va_W)) (wr := (List.filterMap (fun i => (ob_w5 o_b a_b cI cZ b)[i]?) [0, 1, 2, 3, 4, 5, 6, 7, 8, 9, 10, 11, 12, 13])) (w1 := ([] : va_W)) (w2 := (ob_w5 o_b a_b cI cZ b)) (As := [.int x2, .int 0, .int 9]) (rest := []) ⟨hx, hb, hml, hown, hts⟩ (mt_X5_in l dC dI cI cZ cR cW xs _ x2 0 9 r_2 hc_12) (va_cwS 3 hts gX5_least_X5_in rfl rfl rfl (by decide +kernel) ⟨Nat.le_of_ble_eq_true rfl, Nat.le_of_ble_eq_true rfl⟩) hK hE hP hD hS hA ⟨rfl, rfl, rfl, rfl, rfl, rfl, rfl⟩ hl rfl rfl (Nat.le_of_ble_eq_true rfl) ⟨Nat.le_of_ble_eq_true rfl, Nat.le_of_ble_eq_true rfl⟩ dX5_least_12 (fun H locs hP hD hS => ?_)
    refine W.widen (k := 0) (n := 0) (Nat.le_refl _) (Nat.le_refl _) ?_
    refine lv_if_eq (tgt := 28) hx hb dX5_least_15 (by decide) (fun c_15 => ?_) (fun c_15 => ?_)
    · replace hd := ob_t c_15 hd
      refine lv_ldc hx hb hown kw0 dX5_least_28 ?_
      obtain ⟨e1, e2⟩ := ob_pp hd
      subst e1
      subst e2
      exact ob_iret hx hb hr hlocks hP hD hS dX5_least_30
    · replace hd := ob_f c_15 hd
      refine lv_iload_n hx hb dX5_least_18 rfl (lv_at hl 3 rfl) ?_
      refine lv_iconst (v := 1) hx hb dX5_least_19 (by decide) ?_
      refine lv_bipush (v := 24) hx hb dX5_least_20 (by decide) ?_
      obtain ⟨r_3, hc_22, hd⟩ := ob_s1 hd
      refine ob_Si (isC := []) (isR := [0, 1, 2, 3, 4, 5, 6, 7, 8, 9, 10, 11, 12, 13]) (is2 := [0, 1, 2, 3, 4, 5, 6, 7, 8, 9, 10, 11, 12, 13]) (wc := ([] : va_W)) (wr := (List.filterMap (fun i => (ob_w5 o_b a_b cI cZ b)[i]?) [0, 1, 2, 3, 4, 5, 6, 7, 8, 9, 10, 11, 12, 13])) (w1 := ([] : va_W)) (w2 := (ob_w5 o_b a_b cI cZ b)) (As := [.int x3, .int 1, .int 24]) (rest := []) ⟨hx, hb, hml, hown, hts⟩ (mt_X5_in l dC dI cI cZ cR cW xs _ x3 1 24 r_3 hc_22) (va_cwS 3 hts gX5_least_X5_in rfl rfl rfl (by decide +kernel) ⟨Nat.le_of_ble_eq_true rfl, Nat.le_of_ble_eq_true rfl⟩) hK hE hP hD hS hA ⟨rfl, rfl, rfl, rfl, rfl, rfl, rfl⟩ hl rfl rfl (Nat.le_of_ble_eq_true rfl) ⟨Nat.le_of_ble_eq_true rfl, Nat.le_of_ble_eq_true rfl⟩ dX5_least_22 (fun H locs hP hD hS => ?_)
      refine W.widen (k := 0) (n := 0) (Nat.le_refl _) (Nat.le_refl _) ?_
      refine lv_if_ne (tgt := 31) hx hb dX5_least_25 (by decide) (fun c_25 => ?_) (fun c_25 => ?_)
      · replace hd := ob_f c_25 hd
        refine lv_iconst (v := 1) hx hb dX5_least_31 (by decide) ?_
        refine lv_istore (lv' := [(4, .int 1), (0, .ref o_b), (1, .int x1), (2, .int x2), (3, .int x3)]) hx hb dX5_least_32 hl (by decide) rfl (fun ls hl => ?_)
        exact L34  2000 _ _ b 1 _ hP hD hS (lv_sub hl [1, 2, 3, 4, 0] rfl) hd
      · replace hd := ob_t c_25 hd
        refine lv_ldc hx hb hown kw0 dX5_least_28 ?_
        obtain ⟨e1, e2⟩ := ob_pp hd
        subst e1
        subst e2
        exact ob_iret hx hb hr hlocks hP hD hS dX5_least_30

def fd_X5_beginBut_L6  : Nat → ob_B → Int32 → Int32 → Option (ob_B)
  | 0, _, _, _ => none
  | fu + 1, b, x1, z2 => if ((b.2 12) (Int32.toNatClampNeg 2)) ≤ z2 then (some (b)) else (ob_b1 (fd_X5_has x1 z2) (fun r_2 => if r_2 = 0 then (if (35 + z2) < 0 ∨ 42 ≤ Int32.toNatClampNeg (35 + z2) then none else (ob_lt ((b.2 14) (Int32.toNatClampNeg (35 + z2)) : Int32) (fun x_3 => if (35 + z2) < 0 ∨ 42 ≤ Int32.toNatClampNeg (35 + z2) then none else (ob_lt (ob_A b 14 (upd (b.2 14) (Int32.toNatClampNeg (35 + z2)) x_3) : ob_B) (fun b_4 => ob_lt (z2 + 1 : Int32) (fun x_5 => fd_X5_beginBut_L6 fu b_4 x1 x_5)))))) else (if (35 + z2) < 0 ∨ 42 ≤ Int32.toNatClampNeg (35 + z2) then none else (ob_lt (ob_A b 14 (upd (b.2 14) (Int32.toNatClampNeg (35 + z2)) 3) : ob_B) (fun b_6 => ob_lt (z2 + 1 : Int32) (fun x_7 => fd_X5_beginBut_L6 fu b_6 x1 x_7))))))
def fd_X5_beginBut  (b : ob_B) (x1 : Int32) : Option (ob_B) := ob_b1 (fd_X5_begin b) (fun b_1 => fd_X5_beginBut_L6 2000 b_1 x1 0)
set_option maxHeartbeats 4000000 in
set_option maxRecDepth 100000 in
theorem mt_X5_beginBut (l : Launch) (dC : Nat → ClassId) (dI : Nat → Nat → Nat) (cI cZ cR cW : ClassId) (xs : Nat → Nat) (sz : Nat) (o_b : Nat) (a_b : Nat → Nat) (b : ob_B) (x1 : Int32)  (b' : ob_B) (hd : fd_X5_beginBut b x1 = some (b')) : ob_M l yX5_beginBut wsX5_beginBut ({ frames := 2, cells := 0, slots := 0, locals := 44 } : Room) (dC, dI) (ob_ty cI cZ cR cW) xs [.ref o_b, .int x1] (ob_w5 o_b a_b cI cZ b) sz (ob_Qv (dC, dI) (ob_w5 o_b a_b cI cZ b')) := by
  rw [fd_X5_beginBut] at hd
  refine ob_in (cc := cX5_beginBut) (maxL := 3) (ret := none) (own := RX5) (by decide) rfl rfl [(0, .ref o_b), (1, .int x1)] rfl (Nat.le_of_ble_eq_true rfl) ?_
  intro p e s m below meth c hx hb hr hml hown hts hlocks hnm hK A hA hE hP hD hS ls hl
  have kw0 := hts (.fieldLink RX5 22 "OathCoachModel" "now" "[I") (by decide +kernel)
  have kw1 := hts (.fieldLink RX5 28 "OathCoachModel" "tried" "[I") (by decide +kernel)
  have hi_X5 : ∀ w ∈ u_ws RX5 TX5 23, w ∈ wsX5_beginBut := by decide +kernel
  have L6 : ∀  (fu : Nat), ∀ (H : Heap) (locs : List Loc) (b : ob_B) (z2 : Int32) (ls : Array Slot), va_P (dC, dI) vwCl (ob_w5 o_b a_b cI cZ b) H → va_D A (ob_w5 o_b a_b cI cZ b) → va_S A s.heap H locs → lv_has ls 3 [(0, .ref o_b), (1, .int x1), (2, .int z2)] → fd_X5_beginBut_L6 fu b x1 z2 = some (b') → W p l e ({ frames := 2, cells := 0, slots := 0, locals := 44 } : Room) s m (List.toArray [.ref o_b, .int x1]) below meth c H locs 0 0 (MQ below ((ob_Qv (dC, dI) (ob_w5 o_b a_b cI cZ b')) A) (List.toArray [.ref o_b, .int x1]) s 0 0 A) (F0 m 6 ls []) := by
    intro  fu
    induction fu with
    | zero =>
      intro H locs b z2 ls hP hD hS hl hd
      rw [fd_X5_beginBut_L6] at hd
      cases hd
    | succ fu ih =>
      intro H locs b z2 ls hP hD hS hl hd
      rw [fd_X5_beginBut_L6] at hd
      refine lv_iload_n hx hb dX5_beginBut_6 rfl (lv_at hl 2 rfl) ?_
      refine lv_aload_n hx hb dX5_beginBut_7 rfl (lv_at hl 0 rfl) ?_
      refine va_get (D := (dC, dI)) (ci := 5) (v := .ref (a_b 12)) (C := RX5) (T := TX5) (N := 23) hx hb hts hi_X5 hown hK hP 0 rfl rfl 12 (by decide) kw0 (fun _ h9 => h9) rfl dX5_beginBut_8 ?_
      refine lv_iconst (v := 2) hx hb dX5_beginBut_11 (by decide) ?_
      refine va_iald hx hb hK hP 5 0 rfl rfl (by unfold vp_in; decide) dX5_beginBut_12 ?_
      refine lv_icmp_ge (tgt := 52) hx hb dX5_beginBut_13 (by decide) (fun c_13 => ?_) (fun c_13 => ?_)
      · replace hd := ob_t c_13 hd
        have e1 := Option.some.inj hd
        subst e1
        exact ob_vret hx hb hr hlocks hP hD hS dX5_beginBut_52
      · replace hd := ob_f c_13 hd
        refine lv_aload_n hx hb dX5_beginBut_16 rfl (lv_at hl 0 rfl) ?_
        refine va_get (D := (dC, dI)) (ci := 5) (v := .ref (a_b 14)) (C := RX5) (T := TX5) (N := 23) hx hb hts hi_X5 hown hK hP 0 rfl rfl 14 (by decide) kw1 (fun _ h9 => h9) rfl dX5_beginBut_17 ?_
        refine lv_bipush (v := 35) hx hb dX5_beginBut_20 (by decide) ?_
        refine lv_iload_n hx hb dX5_beginBut_22 rfl (lv_at hl 2 rfl) ?_
        refine lv_iadd hx hb dX5_beginBut_23 ?_
        refine lv_iload_n hx hb dX5_beginBut_24 rfl (lv_at hl 1 rfl) ?_
        refine lv_iload_n hx hb dX5_beginBut_25 rfl (lv_at hl 2 rfl) ?_
        obtain ⟨r_2, hc_26, hd⟩ := ob_s1 hd
        refine ob_Si (isC := []) (isR := [0, 1, 2, 3, 4, 5, 6, 7, 8, 9, 10, 11, 12, 13]) (is2 := [0, 1, 2, 3, 4, 5, 6, 7, 8, 9, 10, 11, 12, 13]) (wc := ([] : va_W)) (wr := (List.filterMap (fun i => (ob_w5 o_b a_b cI cZ b)[i]?) [0, 1, 2, 3, 4, 5, 6, 7, 8, 9, 10, 11, 12, 13])) (w1 := ([] : va_W)) (w2 := (ob_w5 o_b a_b cI cZ b)) (As := [.int x1, .int z2]) (rest := [.int (35 + z2), .ref (a_b 14)]) ⟨hx, hb, hml, hown, hts⟩ (mt_X5_has l dC dI cI cZ cR cW xs _ x1 z2 r_2 hc_26) (va_cwS 2 hts gX5_beginBut_X5_has rfl rfl rfl (by decide +kernel) ⟨Nat.le_of_ble_eq_true rfl, Nat.le_of_ble_eq_true rfl⟩) hK hE hP hD hS hA ⟨rfl, rfl, rfl, rfl, rfl, rfl, rfl⟩ hl rfl rfl (Nat.le_of_ble_eq_true rfl) ⟨Nat.le_of_ble_eq_true rfl, Nat.le_of_ble_eq_true rfl⟩ dX5_beginBut_26 (fun H locs hP hD hS => ?_)
        refine W.widen (k := 0) (n := 0) (Nat.le_refl _) (Nat.le_refl _) ?_
        refine lv_if_eq (tgt := 36) hx hb dX5_beginBut_29 (by decide) (fun c_29 => ?_) (fun c_29 => ?_)
        · replace hd := ob_t c_29 hd
          refine lv_aload_n hx hb dX5_beginBut_36 rfl (lv_at hl 0 rfl) ?_
          refine va_get (D := (dC, dI)) (ci := 5) (v := .ref (a_b 14)) (C := RX5) (T := TX5) (N := 23) hx hb hts hi_X5 hown hK hP 0 rfl rfl 14 (by decide) kw1 (fun _ h9 => h9) rfl dX5_beginBut_37 ?_
          refine lv_bipush (v := 35) hx hb dX5_beginBut_40 (by decide) ?_
          refine lv_iload_n hx hb dX5_beginBut_42 rfl (lv_at hl 2 rfl) ?_
          refine lv_iadd hx hb dX5_beginBut_43 ?_
          obtain ⟨h1_44, hd⟩ := ob_nn hd
          refine va_iald hx hb hK hP 7 0 rfl rfl h1_44 dX5_beginBut_44 ?_
          refine lv_topi (fun x_3 ex_3 => ?_)
          replace hd := ob_lx ex_3 hd
          clear ex_3
          obtain ⟨h1_45, hd⟩ := ob_nn hd
          refine va_iast hx hb hK hP hD hS 7 0 rfl rfl h1_45 dX5_beginBut_45 (fun H locs hP hD hS => ?_)
          obtain ⟨b_4, eb_4⟩ : ∃ z : ob_B, z = ob_A b 14 (upd (b.2 14) (Int32.toNatClampNeg (35 + z2)) x_3) := ⟨_, rfl⟩
          replace hd := ob_lx eb_4 hd
          replace hP : va_P (dC, dI) vwCl (ob_w5 o_b a_b cI cZ b_4) H := by rw [eb_4]; exact hP
          replace hD : va_D A (ob_w5 o_b a_b cI cZ b_4) := by rw [eb_4]; exact hD
          clear eb_4
          obtain ⟨x_5, ex_5⟩ : ∃ z : Int32, z = z2 + 1 := ⟨_, rfl⟩
          replace hd := ob_lx ex_5 hd
          refine lv_iinc (v := x_5) (lv' := [(2, .int x_5), (0, .ref o_b), (1, .int x1)]) hx hb dX5_beginBut_46 hl (k := 2) rfl (by rw [ex_5]; rfl) (by decide) rfl (fun ls hl => ?_)
          clear ex_5
          refine lv_goto (tgt := 6) hx hb dX5_beginBut_49 (by decide) ?_
          exact ih _ _ b_4 x_5 _ hP hD hS (lv_sub hl [1, 2, 0] rfl) hd
        · replace hd := ob_f c_29 hd
          refine lv_iconst (v := 3) hx hb dX5_beginBut_32 (by decide) ?_
          refine lv_goto (tgt := 45) hx hb dX5_beginBut_33 (by decide) ?_
          obtain ⟨h1_45, hd⟩ := ob_nn hd
          refine va_iast hx hb hK hP hD hS 7 0 rfl rfl h1_45 dX5_beginBut_45 (fun H locs hP hD hS => ?_)
          obtain ⟨b_6, eb_6⟩ : ∃ z : ob_B, z = ob_A b 14 (upd (b.2 14) (Int32.toNatClampNeg (35 + z2)) 3) := ⟨_, rfl⟩
          replace hd := ob_lx eb_6 hd
          replace hP : va_P (dC, dI) vwCl (ob_w5 o_b a_b cI cZ b_6) H := by rw [eb_6]; exact hP
          replace hD : va_D A (ob_w5 o_b a_b cI cZ b_6) := by rw [eb_6]; exact hD
          clear eb_6
          obtain ⟨x_7, ex_7⟩ : ∃ z : Int32, z = z2 + 1 := ⟨_, rfl⟩
          replace hd := ob_lx ex_7 hd
          refine lv_iinc (v := x_7) (lv' := [(2, .int x_7), (0, .ref o_b), (1, .int x1)]) hx hb dX5_beginBut_46 hl (k := 2) rfl (by rw [ex_7]; rfl) (by decide) rfl (fun ls hl => ?_)
          clear ex_7
          refine lv_goto (tgt := 6) hx hb dX5_beginBut_49 (by decide) ?_
          exact ih _ _ b_6 x_7 _ hP hD hS (lv_sub hl [1, 2, 0] rfl) hd
  refine lv_aload_n hx hb dX5_beginBut_0 rfl (lv_at hl 0 rfl) ?_
  obtain ⟨b_1, hc_1, hd⟩ := ob_s1 hd
  refine ob_Vv (isC := [0, 1, 2, 3, 4, 5, 6, 7, 8, 9, 10, 11, 12, 13]) (isR := []) (is2 := [0, 1, 2, 3, 4, 5, 6, 7, 8, 9, 10, 11, 12, 13]) (wc := (ob_w5 o_b a_b cI cZ b)) (wr := ([] : va_W)) (w1 := (ob_w5 o_b a_b cI cZ b_1)) (w2 := (ob_w5 o_b a_b cI cZ b_1)) (b := o_b) (As := []) (rest := []) ⟨hx, hb, hml, hown, hts⟩ (mt_X5_begin l dC dI cI cZ cR cW xs _ o_b a_b b b_1 hc_1) (cwV 0 hts gX5_beginBut_X5_begin rfl rfl rfl (by decide +kernel) ⟨Nat.le_of_ble_eq_true rfl, Nat.le_of_ble_eq_true rfl⟩) hK hE hP hD hS hA ⟨rfl, rfl, rfl, rfl, rfl, rfl, rfl⟩ 5 0 rfl rfl rfl hl rfl rfl (Nat.le_of_ble_eq_true rfl) ⟨Nat.le_of_ble_eq_true rfl, Nat.le_of_ble_eq_true rfl⟩ dX5_beginBut_1 (fun H locs hP hD hS => ?_)
  refine W.widen (k := 0) (n := 0) (Nat.le_refl _) (Nat.le_refl _) ?_
  refine lv_iconst (v := 0) hx hb dX5_beginBut_4 (by decide) ?_
  refine lv_istore_n (lv' := [(2, .int 0), (0, .ref o_b), (1, .int x1)]) hx hb dX5_beginBut_5 rfl hl (by decide) rfl (fun ls hl => ?_)
  exact L6  2000 _ _ b_1 0 _ hP hD hS (lv_sub hl [1, 2, 0] rfl) hd

def fd_X5_buyOff_L122  (b : ob_B) (x3 : Int32) (z5 : Int32) : Option (Int32 × ob_B) := if 0 ≤ z5 then (if x3 = 0 then (ob_b1 (fd_X5_bits z5) (fun r_16 => some (r_16, b))) else (some (z5, b))) else (some ((-1000000), b))
def fd_X5_buyOff_L57  : Nat → ob_B → Int32 → Int32 → Int32 → Int32 → Int32 → Int32 → Option (Int32 × ob_B)
  | 0, _, _, _, _, _, _, _ => none
  | fu + 1, b, x1, x2, x3, z4, z5, z6 => if z4 < z6 then (fd_X5_buyOff_L122 b x3 z5) else (if (z6 &&& (z4 ^^^ (-1))) = 0 then (ob_b1 (fd_X5_beginBut b z6) (fun b_7 => ob_b2 (fd_X5_goOn b_7 x2) (fun r_8 b_9 => if r_8 = x1 then (if z5 < 0 then (ob_lt (z6 + 1 : Int32) (fun x_11 => fd_X5_buyOff_L57 fu b_9 x1 x2 x3 z4 z6 x_11)) else (ob_b1 (fd_X5_bits z6) (fun r_12 => ob_b1 (fd_X5_bits z5) (fun r_13 => if r_13 ≤ r_12 then (ob_lt (z6 + 1 : Int32) (fun x_14 => fd_X5_buyOff_L57 fu b_9 x1 x2 x3 z4 z5 x_14)) else (ob_lt (z6 + 1 : Int32) (fun x_15 => fd_X5_buyOff_L57 fu b_9 x1 x2 x3 z4 z6 x_15)))))) else (ob_lt (z6 + 1 : Int32) (fun x_10 => fd_X5_buyOff_L57 fu b_9 x1 x2 x3 z4 z5 x_10))))) else (ob_lt (z6 + 1 : Int32) (fun x_6 => fd_X5_buyOff_L57 fu b x1 x2 x3 z4 z5 x_6)))
def fd_X5_buyOff  (b : ob_B) (x1 : Int32) (x2 : Int32) (x3 : Int32) : Option (Int32 × ob_B) := ob_b1 (fd_X5_isRoute b) (fun r_1 => if r_1 = 0 then (some ((-1000002), b)) else (ob_b1 (fd_X5_in x1 0 9) (fun r_2 => if r_2 = 0 then (some ((-1000001), b)) else (ob_b1 (fd_X5_in x2 1 24) (fun r_3 => if r_3 = 0 then (some ((-1000001), b)) else (ob_b1 (fd_X5_in x3 0 1) (fun r_4 => if r_4 = 0 then (some ((-1000001), b)) else (ob_b1 (fd_X5_openOf ((b.2 12))) (fun r_5 => fd_X5_buyOff_L57 2000 b x1 x2 x3 r_5 (-1) 0)))))))))
set_option maxHeartbeats 4000000 in
set_option maxRecDepth 100000 in
theorem mt_X5_buyOff (l : Launch) (dC : Nat → ClassId) (dI : Nat → Nat → Nat) (cI cZ cR cW : ClassId) (xs : Nat → Nat) (sz : Nat) (o_b : Nat) (a_b : Nat → Nat) (b : ob_B) (x1 : Int32) (x2 : Int32) (x3 : Int32)  (rr : Int32) (b' : ob_B) (hd : fd_X5_buyOff b x1 x2 x3 = some (rr, b')) : ob_M l yX5_buyOff wsX5_buyOff ({ frames := 5, cells := 0, slots := 0, locals := 114 } : Room) (dC, dI) (ob_ty cI cZ cR cW) xs [.ref o_b, .int x1, .int x2, .int x3] (ob_w5 o_b a_b cI cZ b) sz (ob_Qi (dC, dI) rr (ob_w5 o_b a_b cI cZ b')) := by
  rw [fd_X5_buyOff] at hd
  refine ob_in (cc := cX5_buyOff) (maxL := 7) (ret := (some .int)) (own := RX5) (by decide) rfl rfl [(0, .ref o_b), (1, .int x1), (2, .int x2), (3, .int x3)] rfl (Nat.le_of_ble_eq_true rfl) ?_
  intro p e s m below meth c hx hb hr hml hown hts hlocks hnm hK A hA hE hP hD hS ls hl
  have kw0 := hts (.constant RX5 63 (-1000001)) (by decide +kernel)
  have kw1 := hts (.fieldLink RX5 22 "OathCoachModel" "now" "[I") (by decide +kernel)
  have kw2 := hts (.constant RX5 130 (-1000002)) (by decide +kernel)
  have kw3 := hts (.constant RX5 163 (-1000000)) (by decide +kernel)
  have hi_X5 : ∀ w ∈ u_ws RX5 TX5 23, w ∈ wsX5_buyOff := by decide +kernel
  have L122 : ∀ (H : Heap) (locs : List Loc) (b : ob_B) (z5 : Int32) (ls : Array Slot), va_P (dC, dI) vwCl (ob_w5 o_b a_b cI cZ b) H → va_D A (ob_w5 o_b a_b cI cZ b) → va_S A s.heap H locs → lv_has ls 7 [(3, .int x3), (5, .int z5)] → fd_X5_buyOff_L122 b x3 z5 = some (rr, b') → W p l e ({ frames := 5, cells := 0, slots := 0, locals := 114 } : Room) s m (List.toArray [.ref o_b, .int x1, .int x2, .int x3]) below meth c H locs 0 0 (MQ below ((ob_Qi (dC, dI) rr (ob_w5 o_b a_b cI cZ b')) A) (List.toArray [.ref o_b, .int x1, .int x2, .int x3]) s 0 0 A) (F0 m 122 ls []) := by
    intro  H locs b z5 ls hP hD hS hl hd
    rw [fd_X5_buyOff_L122] at hd
    refine lv_iload hx hb dX5_buyOff_122 (lv_at hl 1 rfl) ?_
    refine lv_if_ge (tgt := 132) hx hb dX5_buyOff_124 (by decide) (fun c_124 => ?_) (fun c_124 => ?_)
    · replace hd := ob_t c_124 hd
      refine lv_iload_n hx hb dX5_buyOff_132 rfl (lv_at hl 0 rfl) ?_
      refine lv_if_ne (tgt := 144) hx hb dX5_buyOff_133 (by decide) (fun c_133 => ?_) (fun c_133 => ?_)
      · replace hd := ob_f c_133 hd
        refine lv_iload hx hb dX5_buyOff_144 (lv_at hl 1 rfl) ?_
        obtain ⟨e1, e2⟩ := ob_pp hd
        subst e1
        subst e2
        exact ob_iret hx hb hr hlocks hP hD hS dX5_buyOff_146
      · replace hd := ob_t c_133 hd
        refine lv_iload hx hb dX5_buyOff_136 (lv_at hl 1 rfl) ?_
        obtain ⟨r_16, hc_138, hd⟩ := ob_s1 hd
        refine ob_Si (isC := []) (isR := [0, 1, 2, 3, 4, 5, 6, 7, 8, 9, 10, 11, 12, 13]) (is2 := [0, 1, 2, 3, 4, 5, 6, 7, 8, 9, 10, 11, 12, 13]) (wc := ([] : va_W)) (wr := (List.filterMap (fun i => (ob_w5 o_b a_b cI cZ b)[i]?) [0, 1, 2, 3, 4, 5, 6, 7, 8, 9, 10, 11, 12, 13])) (w1 := ([] : va_W)) (w2 := (ob_w5 o_b a_b cI cZ b)) (As := [.int z5]) (rest := []) ⟨hx, hb, hml, hown, hts⟩ (mt_X5_bits l dC dI cI cZ cR cW xs _ z5 r_16 hc_138) (va_cwS 1 hts gX5_buyOff_X5_bits rfl rfl rfl (by decide +kernel) ⟨Nat.le_of_ble_eq_true rfl, Nat.le_of_ble_eq_true rfl⟩) hK hE hP hD hS hA ⟨rfl, rfl, rfl, rfl, rfl, rfl, rfl⟩ hl rfl rfl (Nat.le_of_ble_eq_true rfl) ⟨Nat.le_of_ble_eq_true rfl, Nat.le_of_ble_eq_true rfl⟩ dX5_buyOff_138 (fun H locs hP hD hS => ?_)
        refine W.widen (k := 0) (n := 0) (Nat.le_refl _) (Nat.le_refl _) ?_
        refine lv_goto (tgt := 146) hx hb dX5_buyOff_141 (by decide) ?_
        obtain ⟨e1, e2⟩ := ob_pp hd
        subst e1
        subst e2
        exact ob_iret hx hb hr hlocks hP hD hS dX5_buyOff_146
    · replace hd := ob_f c_124 hd
      refine lv_ldc hx hb hown kw3 dX5_buyOff_127 ?_
      refine lv_goto (tgt := 146) hx hb dX5_buyOff_129 (by decide) ?_
      obtain ⟨e1, e2⟩ := ob_pp hd
      subst e1
      subst e2
      exact ob_iret hx hb hr hlocks hP hD hS dX5_buyOff_146
  have L57 : ∀  (fu : Nat), ∀ (H : Heap) (locs : List Loc) (b : ob_B) (z4 : Int32) (z5 : Int32) (z6 : Int32) (ls : Array Slot), va_P (dC, dI) vwCl (ob_w5 o_b a_b cI cZ b) H → va_D A (ob_w5 o_b a_b cI cZ b) → va_S A s.heap H locs → lv_has ls 7 [(0, .ref o_b), (1, .int x1), (2, .int x2), (3, .int x3), (4, .int z4), (5, .int z5), (6, .int z6)] → fd_X5_buyOff_L57 fu b x1 x2 x3 z4 z5 z6 = some (rr, b') → W p l e ({ frames := 5, cells := 0, slots := 0, locals := 114 } : Room) s m (List.toArray [.ref o_b, .int x1, .int x2, .int x3]) below meth c H locs 0 0 (MQ below ((ob_Qi (dC, dI) rr (ob_w5 o_b a_b cI cZ b')) A) (List.toArray [.ref o_b, .int x1, .int x2, .int x3]) s 0 0 A) (F0 m 57 ls []) := by
    intro  fu
    induction fu with
    | zero =>
      intro H locs b z4 z5 z6 ls hP hD hS hl hd
      rw [fd_X5_buyOff_L57] at hd
      cases hd
    | succ fu ih =>
      intro H locs b z4 z5 z6 ls hP hD hS hl hd
      rw [fd_X5_buyOff_L57] at hd
      refine lv_iload hx hb dX5_buyOff_57 (lv_at hl 6 rfl) ?_
      refine lv_iload hx hb dX5_buyOff_59 (lv_at hl 4 rfl) ?_
      refine lv_icmp_gt (tgt := 122) hx hb dX5_buyOff_61 (by decide) (fun c_61 => ?_) (fun c_61 => ?_)
      · replace hd := ob_t c_61 hd
        exact L122   _ _ b z5 _ hP hD hS (lv_sub hl [3, 5] rfl) hd
      · replace hd := ob_f c_61 hd
        refine lv_iload hx hb dX5_buyOff_64 (lv_at hl 6 rfl) ?_
        refine lv_iload hx hb dX5_buyOff_66 (lv_at hl 4 rfl) ?_
        refine lv_iconst (v := (-1)) hx hb dX5_buyOff_68 (by decide) ?_
        refine lv_ixor hx hb dX5_buyOff_69 ?_
        refine lv_iand hx hb dX5_buyOff_70 ?_
        refine lv_if_ne (tgt := 116) hx hb dX5_buyOff_71 (by decide) (fun c_71 => ?_) (fun c_71 => ?_)
        · replace hd := ob_f c_71 hd
          obtain ⟨x_6, ex_6⟩ : ∃ z : Int32, z = z6 + 1 := ⟨_, rfl⟩
          replace hd := ob_lx ex_6 hd
          refine lv_iinc (v := x_6) (lv' := [(6, .int x_6), (0, .ref o_b), (1, .int x1), (2, .int x2), (3, .int x3), (4, .int z4), (5, .int z5)]) hx hb dX5_buyOff_116 hl (k := 6) rfl (by rw [ex_6]; rfl) (by decide) rfl (fun ls hl => ?_)
          clear ex_6
          refine lv_goto (tgt := 57) hx hb dX5_buyOff_119 (by decide) ?_
          exact ih _ _ b z4 z5 x_6 _ hP hD hS (lv_sub hl [1, 2, 3, 4, 5, 6, 0] rfl) hd
        · replace hd := ob_t c_71 hd
          refine lv_aload_n hx hb dX5_buyOff_74 rfl (lv_at hl 0 rfl) ?_
          refine lv_iload hx hb dX5_buyOff_75 (lv_at hl 6 rfl) ?_
          obtain ⟨b_7, hc_77, hd⟩ := ob_s1 hd
          refine ob_Vv (isC := [0, 1, 2, 3, 4, 5, 6, 7, 8, 9, 10, 11, 12, 13]) (isR := []) (is2 := [0, 1, 2, 3, 4, 5, 6, 7, 8, 9, 10, 11, 12, 13]) (wc := (ob_w5 o_b a_b cI cZ b)) (wr := ([] : va_W)) (w1 := (ob_w5 o_b a_b cI cZ b_7)) (w2 := (ob_w5 o_b a_b cI cZ b_7)) (b := o_b) (As := [.int z6]) (rest := []) ⟨hx, hb, hml, hown, hts⟩ (mt_X5_beginBut l dC dI cI cZ cR cW xs _ o_b a_b b z6 b_7 hc_77) (cwV 1 hts gX5_buyOff_X5_beginBut rfl rfl rfl (by decide +kernel) ⟨Nat.le_of_ble_eq_true rfl, Nat.le_of_ble_eq_true rfl⟩) hK hE hP hD hS hA ⟨rfl, rfl, rfl, rfl, rfl, rfl, rfl⟩ 5 0 rfl rfl rfl hl rfl rfl (Nat.le_of_ble_eq_true rfl) ⟨Nat.le_of_ble_eq_true rfl, Nat.le_of_ble_eq_true rfl⟩ dX5_buyOff_77 (fun H locs hP hD hS => ?_)
          refine W.widen (k := 0) (n := 0) (Nat.le_refl _) (Nat.le_refl _) ?_
          refine lv_aload_n hx hb dX5_buyOff_80 rfl (lv_at hl 0 rfl) ?_
          refine lv_iload_n hx hb dX5_buyOff_81 rfl (lv_at hl 2 rfl) ?_
          obtain ⟨r_8, b_9, hc_82, hd⟩ := ob_s2 hd
          refine ob_Vi (isC := [0, 1, 2, 3, 4, 5, 6, 7, 8, 9, 10, 11, 12, 13]) (isR := []) (is2 := [0, 1, 2, 3, 4, 5, 6, 7, 8, 9, 10, 11, 12, 13]) (wc := (ob_w5 o_b a_b cI cZ b_7)) (wr := ([] : va_W)) (w1 := (ob_w5 o_b a_b cI cZ b_9)) (w2 := (ob_w5 o_b a_b cI cZ b_9)) (b := o_b) (As := [.int x2]) (rest := []) ⟨hx, hb, hml, hown, hts⟩ (mt_X5_goOn l dC dI cI cZ cR cW xs _ o_b a_b b_7 x2 r_8 b_9 hc_82) (cwV 1 hts gX5_buyOff_X5_goOn rfl rfl rfl (by decide +kernel) ⟨Nat.le_of_ble_eq_true rfl, Nat.le_of_ble_eq_true rfl⟩) hK hE hP hD hS hA ⟨rfl, rfl, rfl, rfl, rfl, rfl, rfl⟩ 5 0 rfl rfl rfl hl rfl rfl (Nat.le_of_ble_eq_true rfl) ⟨Nat.le_of_ble_eq_true rfl, Nat.le_of_ble_eq_true rfl⟩ dX5_buyOff_82 (fun H locs hP hD hS => ?_)
          refine W.widen (k := 0) (n := 0) (Nat.le_refl _) (Nat.le_refl _) ?_
          refine lv_iload_n hx hb dX5_buyOff_85 rfl (lv_at hl 1 rfl) ?_
          refine lv_icmp_ne (tgt := 112) hx hb dX5_buyOff_86 (by decide) (fun c_86 => ?_) (fun c_86 => ?_)
          · replace hd := ob_f c_86 hd
            refine lv_iload hx hb dX5_buyOff_112 (lv_at hl 5 rfl) ?_
            refine lv_istore (lv' := [(5, .int z5), (0, .ref o_b), (1, .int x1), (2, .int x2), (3, .int x3), (4, .int z4), (6, .int z6)]) hx hb dX5_buyOff_114 hl (by decide) rfl (fun ls hl => ?_)
            obtain ⟨x_10, ex_10⟩ : ∃ z : Int32, z = z6 + 1 := ⟨_, rfl⟩
            replace hd := ob_lx ex_10 hd
            refine lv_iinc (v := x_10) (lv' := [(6, .int x_10), (5, .int z5), (0, .ref o_b), (1, .int x1), (2, .int x2), (3, .int x3), (4, .int z4)]) hx hb dX5_buyOff_116 hl (k := 6) rfl (by rw [ex_10]; rfl) (by decide) rfl (fun ls hl => ?_)
            clear ex_10
            refine lv_goto (tgt := 57) hx hb dX5_buyOff_119 (by decide) ?_
            exact ih _ _ b_9 z4 z5 x_10 _ hP hD hS (lv_sub hl [2, 3, 4, 5, 6, 1, 0] rfl) hd
          · replace hd := ob_t c_86 hd
            refine lv_iload hx hb dX5_buyOff_89 (lv_at hl 5 rfl) ?_
            refine lv_if_lt (tgt := 107) hx hb dX5_buyOff_91 (by decide) (fun c_91 => ?_) (fun c_91 => ?_)
            · replace hd := ob_t c_91 hd
              refine lv_iload hx hb dX5_buyOff_107 (lv_at hl 6 rfl) ?_
              refine lv_goto (tgt := 114) hx hb dX5_buyOff_109 (by decide) ?_
              refine lv_istore (lv' := [(5, .int z6), (0, .ref o_b), (1, .int x1), (2, .int x2), (3, .int x3), (4, .int z4), (6, .int z6)]) hx hb dX5_buyOff_114 hl (by decide) rfl (fun ls hl => ?_)
              obtain ⟨x_11, ex_11⟩ : ∃ z : Int32, z = z6 + 1 := ⟨_, rfl⟩
              replace hd := ob_lx ex_11 hd
              refine lv_iinc (v := x_11) (lv' := [(6, .int x_11), (5, .int z6), (0, .ref o_b), (1, .int x1), (2, .int x2), (3, .int x3), (4, .int z4)]) hx hb dX5_buyOff_116 hl (k := 6) rfl (by rw [ex_11]; rfl) (by decide) rfl (fun ls hl => ?_)
              clear ex_11
              refine lv_goto (tgt := 57) hx hb dX5_buyOff_119 (by decide) ?_
              exact ih _ _ b_9 z4 z6 x_11 _ hP hD hS (lv_sub hl [2, 3, 4, 5, 6, 1, 0] rfl) hd
            · replace hd := ob_f c_91 hd
              refine lv_iload hx hb dX5_buyOff_94 (lv_at hl 6 rfl) ?_
              obtain ⟨r_12, hc_96, hd⟩ := ob_s1 hd
              refine ob_Si (isC := []) (isR := [0, 1, 2, 3, 4, 5, 6, 7, 8, 9, 10, 11, 12, 13]) (is2 := [0, 1, 2, 3, 4, 5, 6, 7, 8, 9, 10, 11, 12, 13]) (wc := ([] : va_W)) (wr := (List.filterMap (fun i => (ob_w5 o_b a_b cI cZ b_9)[i]?) [0, 1, 2, 3, 4, 5, 6, 7, 8, 9, 10, 11, 12, 13])) (w1 := ([] : va_W)) (w2 := (ob_w5 o_b a_b cI cZ b_9)) (As := [.int z6]) (rest := []) ⟨hx, hb, hml, hown, hts⟩ (mt_X5_bits l dC dI cI cZ cR cW xs _ z6 r_12 hc_96) (va_cwS 1 hts gX5_buyOff_X5_bits rfl rfl rfl (by decide +kernel) ⟨Nat.le_of_ble_eq_true rfl, Nat.le_of_ble_eq_true rfl⟩) hK hE hP hD hS hA ⟨rfl, rfl, rfl, rfl, rfl, rfl, rfl⟩ hl rfl rfl (Nat.le_of_ble_eq_true rfl) ⟨Nat.le_of_ble_eq_true rfl, Nat.le_of_ble_eq_true rfl⟩ dX5_buyOff_96 (fun H locs hP hD hS => ?_)
              refine W.widen (k := 0) (n := 0) (Nat.le_refl _) (Nat.le_refl _) ?_
              refine lv_iload hx hb dX5_buyOff_99 (lv_at hl 5 rfl) ?_
              obtain ⟨r_13, hc_101, hd⟩ := ob_s1 hd
              refine ob_Si (isC := []) (isR := [0, 1, 2, 3, 4, 5, 6, 7, 8, 9, 10, 11, 12, 13]) (is2 := [0, 1, 2, 3, 4, 5, 6, 7, 8, 9, 10, 11, 12, 13]) (wc := ([] : va_W)) (wr := (List.filterMap (fun i => (ob_w5 o_b a_b cI cZ b_9)[i]?) [0, 1, 2, 3, 4, 5, 6, 7, 8, 9, 10, 11, 12, 13])) (w1 := ([] : va_W)) (w2 := (ob_w5 o_b a_b cI cZ b_9)) (As := [.int z5]) (rest := [.int r_12]) ⟨hx, hb, hml, hown, hts⟩ (mt_X5_bits l dC dI cI cZ cR cW xs _ z5 r_13 hc_101) (va_cwS 1 hts gX5_buyOff_X5_bits rfl rfl rfl (by decide +kernel) ⟨Nat.le_of_ble_eq_true rfl, Nat.le_of_ble_eq_true rfl⟩) hK hE hP hD hS hA ⟨rfl, rfl, rfl, rfl, rfl, rfl, rfl⟩ hl rfl rfl (Nat.le_of_ble_eq_true rfl) ⟨Nat.le_of_ble_eq_true rfl, Nat.le_of_ble_eq_true rfl⟩ dX5_buyOff_101 (fun H locs hP hD hS => ?_)
              refine W.widen (k := 0) (n := 0) (Nat.le_refl _) (Nat.le_refl _) ?_
              refine lv_icmp_ge (tgt := 112) hx hb dX5_buyOff_104 (by decide) (fun c_104 => ?_) (fun c_104 => ?_)
              · replace hd := ob_t c_104 hd
                refine lv_iload hx hb dX5_buyOff_112 (lv_at hl 5 rfl) ?_
                refine lv_istore (lv' := [(5, .int z5), (0, .ref o_b), (1, .int x1), (2, .int x2), (3, .int x3), (4, .int z4), (6, .int z6)]) hx hb dX5_buyOff_114 hl (by decide) rfl (fun ls hl => ?_)
                obtain ⟨x_14, ex_14⟩ : ∃ z : Int32, z = z6 + 1 := ⟨_, rfl⟩
                replace hd := ob_lx ex_14 hd
                refine lv_iinc (v := x_14) (lv' := [(6, .int x_14), (5, .int z5), (0, .ref o_b), (1, .int x1), (2, .int x2), (3, .int x3), (4, .int z4)]) hx hb dX5_buyOff_116 hl (k := 6) rfl (by rw [ex_14]; rfl) (by decide) rfl (fun ls hl => ?_)
                clear ex_14
                refine lv_goto (tgt := 57) hx hb dX5_buyOff_119 (by decide) ?_
                exact ih _ _ b_9 z4 z5 x_14 _ hP hD hS (lv_sub hl [2, 3, 4, 5, 6, 1, 0] rfl) hd
              · replace hd := ob_f c_104 hd
                refine lv_iload hx hb dX5_buyOff_107 (lv_at hl 6 rfl) ?_
                refine lv_goto (tgt := 114) hx hb dX5_buyOff_109 (by decide) ?_
                refine lv_istore (lv' := [(5, .int z6), (0, .ref o_b), (1, .int x1), (2, .int x2), (3, .int x3), (4, .int z4), (6, .int z6)]) hx hb dX5_buyOff_114 hl (by decide) rfl (fun ls hl => ?_)
                obtain ⟨x_15, ex_15⟩ : ∃ z : Int32, z = z6 + 1 := ⟨_, rfl⟩
                replace hd := ob_lx ex_15 hd
                refine lv_iinc (v := x_15) (lv' := [(6, .int x_15), (5, .int z6), (0, .ref o_b), (1, .int x1), (2, .int x2), (3, .int x3), (4, .int z4)]) hx hb dX5_buyOff_116 hl (k := 6) rfl (by rw [ex_15]; rfl) (by decide) rfl (fun ls hl => ?_)
                clear ex_15
                refine lv_goto (tgt := 57) hx hb dX5_buyOff_119 (by decide) ?_
                exact ih _ _ b_9 z4 z6 x_15 _ hP hD hS (lv_sub hl [2, 3, 4, 5, 6, 1, 0] rfl) hd
  refine lv_aload_n hx hb dX5_buyOff_0 rfl (lv_at hl 0 rfl) ?_
  obtain ⟨r_1, hc_1, hd⟩ := ob_s1 hd
  refine ob_Vi (isC := [0, 1, 2, 3, 4, 5, 6, 7, 8, 9, 10, 11, 12, 13]) (isR := []) (is2 := [0, 1, 2, 3, 4, 5, 6, 7, 8, 9, 10, 11, 12, 13]) (wc := (ob_w5 o_b a_b cI cZ b)) (wr := ([] : va_W)) (w1 := (ob_w5 o_b a_b cI cZ b)) (w2 := (ob_w5 o_b a_b cI cZ b)) (b := o_b) (As := []) (rest := []) ⟨hx, hb, hml, hown, hts⟩ (mt_X5_isRoute l dC dI cI cZ cR cW xs _ o_b a_b b r_1 hc_1) (cwV 0 hts gX5_buyOff_X5_isRoute rfl rfl rfl (by decide +kernel) ⟨Nat.le_of_ble_eq_true rfl, Nat.le_of_ble_eq_true rfl⟩) hK hE hP hD hS hA ⟨rfl, rfl, rfl, rfl, rfl, rfl, rfl⟩ 5 0 rfl rfl rfl hl rfl rfl (Nat.le_of_ble_eq_true rfl) ⟨Nat.le_of_ble_eq_true rfl, Nat.le_of_ble_eq_true rfl⟩ dX5_buyOff_1 (fun H locs hP hD hS => ?_)
  refine W.widen (k := 0) (n := 0) (Nat.le_refl _) (Nat.le_refl _) ?_
  refine lv_if_ne (tgt := 10) hx hb dX5_buyOff_4 (by decide) (fun c_4 => ?_) (fun c_4 => ?_)
  · replace hd := ob_f c_4 hd
    refine lv_iload_n hx hb dX5_buyOff_10 rfl (lv_at hl 1 rfl) ?_
    refine lv_iconst (v := 0) hx hb dX5_buyOff_11 (by decide) ?_
    refine lv_bipush (v := 9) hx hb dX5_buyOff_12 (by decide) ?_
    obtain ⟨r_2, hc_14, hd⟩ := ob_s1 hd
    refine ob_Si (isC := []) (isR := [0, 1, 2, 3, 4, 5, 6, 7, 8, 9, 10, 11, 12, 13]) (is2 := [0, 1, 2, 3, 4, 5, 6, 7, 8, 9, 10, 11, 12, 13]) (wc := ([] : va_W)) (wr := (List.filterMap (fun i => (ob_w5 o_b a_b cI cZ b)[i]?) [0, 1, 2, 3, 4, 5, 6, 7, 8, 9, 10, 11, 12, 13])) (w1 := ([] : va_W)) (w2 := (ob_w5 o_b a_b cI cZ b)) (As := [.int x1, .int 0, .int 9]) (rest := []) ⟨hx, hb, hml, hown, hts⟩ (mt_X5_in l dC dI cI cZ cR cW xs _ x1 0 9 r_2 hc_14) (va_cwS 3 hts gX5_buyOff_X5_in rfl rfl rfl (by decide +kernel) ⟨Nat.le_of_ble_eq_true rfl, Nat.le_of_ble_eq_true rfl⟩) hK hE hP hD hS hA ⟨rfl, rfl, rfl, rfl, rfl, rfl, rfl⟩ hl rfl rfl (Nat.le_of_ble_eq_true rfl) ⟨Nat.le_of_ble_eq_true rfl, Nat.le_of_ble_eq_true rfl⟩ dX5_buyOff_14 (fun H locs hP hD hS => ?_)
    refine W.widen (k := 0) (n := 0) (Nat.le_refl _) (Nat.le_refl _) ?_
    refine lv_if_eq (tgt := 39) hx hb dX5_buyOff_17 (by decide) (fun c_17 => ?_) (fun c_17 => ?_)
    · replace hd := ob_t c_17 hd
      refine lv_ldc hx hb hown kw0 dX5_buyOff_39 ?_
      obtain ⟨e1, e2⟩ := ob_pp hd
      subst e1
      subst e2
      exact ob_iret hx hb hr hlocks hP hD hS dX5_buyOff_41
    · replace hd := ob_f c_17 hd
      refine lv_iload_n hx hb dX5_buyOff_20 rfl (lv_at hl 2 rfl) ?_
      refine lv_iconst (v := 1) hx hb dX5_buyOff_21 (by decide) ?_
      refine lv_bipush (v := 24) hx hb dX5_buyOff_22 (by decide) ?_
      obtain ⟨r_3, hc_24, hd⟩ := ob_s1 hd
      refine ob_Si (isC := []) (isR := [0, 1, 2, 3, 4, 5, 6, 7, 8, 9, 10, 11, 12, 13]) (is2 := [0, 1, 2, 3, 4, 5, 6, 7, 8, 9, 10, 11, 12, 13]) (wc := ([] : va_W)) (wr := (List.filterMap (fun i => (ob_w5 o_b a_b cI cZ b)[i]?) [0, 1, 2, 3, 4, 5, 6, 7, 8, 9, 10, 11, 12, 13])) (w1 := ([] : va_W)) (w2 := (ob_w5 o_b a_b cI cZ b)) (As := [.int x2, .int 1, .int 24]) (rest := []) ⟨hx, hb, hml, hown, hts⟩ (mt_X5_in l dC dI cI cZ cR cW xs _ x2 1 24 r_3 hc_24) (va_cwS 3 hts gX5_buyOff_X5_in rfl rfl rfl (by decide +kernel) ⟨Nat.le_of_ble_eq_true rfl, Nat.le_of_ble_eq_true rfl⟩) hK hE hP hD hS hA ⟨rfl, rfl, rfl, rfl, rfl, rfl, rfl⟩ hl rfl rfl (Nat.le_of_ble_eq_true rfl) ⟨Nat.le_of_ble_eq_true rfl, Nat.le_of_ble_eq_true rfl⟩ dX5_buyOff_24 (fun H locs hP hD hS => ?_)
      refine W.widen (k := 0) (n := 0) (Nat.le_refl _) (Nat.le_refl _) ?_
      refine lv_if_eq (tgt := 39) hx hb dX5_buyOff_27 (by decide) (fun c_27 => ?_) (fun c_27 => ?_)
      · replace hd := ob_t c_27 hd
        refine lv_ldc hx hb hown kw0 dX5_buyOff_39 ?_
        obtain ⟨e1, e2⟩ := ob_pp hd
        subst e1
        subst e2
        exact ob_iret hx hb hr hlocks hP hD hS dX5_buyOff_41
      · replace hd := ob_f c_27 hd
        refine lv_iload_n hx hb dX5_buyOff_30 rfl (lv_at hl 3 rfl) ?_
        refine lv_iconst (v := 0) hx hb dX5_buyOff_31 (by decide) ?_
        refine lv_iconst (v := 1) hx hb dX5_buyOff_32 (by decide) ?_
        obtain ⟨r_4, hc_33, hd⟩ := ob_s1 hd
        refine ob_Si (isC := []) (isR := [0, 1, 2, 3, 4, 5, 6, 7, 8, 9, 10, 11, 12, 13]) (is2 := [0, 1, 2, 3, 4, 5, 6, 7, 8, 9, 10, 11, 12, 13]) (wc := ([] : va_W)) (wr := (List.filterMap (fun i => (ob_w5 o_b a_b cI cZ b)[i]?) [0, 1, 2, 3, 4, 5, 6, 7, 8, 9, 10, 11, 12, 13])) (w1 := ([] : va_W)) (w2 := (ob_w5 o_b a_b cI cZ b)) (As := [.int x3, .int 0, .int 1]) (rest := []) ⟨hx, hb, hml, hown, hts⟩ (mt_X5_in l dC dI cI cZ cR cW xs _ x3 0 1 r_4 hc_33) (va_cwS 3 hts gX5_buyOff_X5_in rfl rfl rfl (by decide +kernel) ⟨Nat.le_of_ble_eq_true rfl, Nat.le_of_ble_eq_true rfl⟩) hK hE hP hD hS hA ⟨rfl, rfl, rfl, rfl, rfl, rfl, rfl⟩ hl rfl rfl (Nat.le_of_ble_eq_true rfl) ⟨Nat.le_of_ble_eq_true rfl, Nat.le_of_ble_eq_true rfl⟩ dX5_buyOff_33 (fun H locs hP hD hS => ?_)
        refine W.widen (k := 0) (n := 0) (Nat.le_refl _) (Nat.le_refl _) ?_
        refine lv_if_ne (tgt := 42) hx hb dX5_buyOff_36 (by decide) (fun c_36 => ?_) (fun c_36 => ?_)
        · replace hd := ob_f c_36 hd
          refine lv_aload_n hx hb dX5_buyOff_42 rfl (lv_at hl 0 rfl) ?_
          refine va_get (D := (dC, dI)) (ci := 5) (v := .ref (a_b 12)) (C := RX5) (T := TX5) (N := 23) hx hb hts hi_X5 hown hK hP 0 rfl rfl 12 (by decide) kw1 (fun _ h9 => h9) rfl dX5_buyOff_43 ?_
          obtain ⟨r_5, hc_46, hd⟩ := ob_s1 hd
          refine ob_Si (isC := [5]) (isR := [0, 1, 2, 3, 4, 6, 7, 8, 9, 10, 11, 12, 13]) (is2 := [0, 1, 2, 3, 4, 13, 5, 6, 7, 8, 9, 10, 11, 12]) (wc := (ob_wa (a_b 12) cI 42 (b.2 12))) (wr := (List.filterMap (fun i => (ob_w5 o_b a_b cI cZ b)[i]?) [0, 1, 2, 3, 4, 6, 7, 8, 9, 10, 11, 12, 13])) (w1 := (ob_wa (a_b 12) cI 42 (b.2 12))) (w2 := (ob_w5 o_b a_b cI cZ b)) (As := [.ref (a_b 12)]) (rest := []) ⟨hx, hb, hml, hown, hts⟩ (mt_X5_openOf l dC dI cI cZ cR cW xs _ ((a_b 12)) ((b.2 12)) r_5 hc_46) (va_cwS 1 hts gX5_buyOff_X5_openOf rfl rfl rfl (by decide +kernel) ⟨Nat.le_of_ble_eq_true rfl, Nat.le_of_ble_eq_true rfl⟩) hK hE hP hD hS hA ⟨rfl, rfl, rfl, rfl, rfl, rfl, rfl⟩ hl rfl rfl (Nat.le_of_ble_eq_true rfl) ⟨Nat.le_of_ble_eq_true rfl, Nat.le_of_ble_eq_true rfl⟩ dX5_buyOff_46 (fun H locs hP hD hS => ?_)
          refine W.widen (k := 0) (n := 0) (Nat.le_refl _) (Nat.le_refl _) ?_
          refine lv_istore (lv' := [(4, .int r_5), (0, .ref o_b), (1, .int x1), (2, .int x2), (3, .int x3)]) hx hb dX5_buyOff_49 hl (by decide) rfl (fun ls hl => ?_)
          refine lv_iconst (v := (-1)) hx hb dX5_buyOff_51 (by decide) ?_
          refine lv_istore (lv' := [(5, .int (-1)), (4, .int r_5), (0, .ref o_b), (1, .int x1), (2, .int x2), (3, .int x3)]) hx hb dX5_buyOff_52 hl (by decide) rfl (fun ls hl => ?_)
          refine lv_iconst (v := 0) hx hb dX5_buyOff_54 (by decide) ?_
          refine lv_istore (lv' := [(6, .int 0), (5, .int (-1)), (4, .int r_5), (0, .ref o_b), (1, .int x1), (2, .int x2), (3, .int x3)]) hx hb dX5_buyOff_55 hl (by decide) rfl (fun ls hl => ?_)
          exact L57  2000 _ _ b r_5 (-1) 0 _ hP hD hS (lv_sub hl [3, 4, 5, 6, 2, 1, 0] rfl) hd
        · replace hd := ob_t c_36 hd
          refine lv_ldc hx hb hown kw0 dX5_buyOff_39 ?_
          obtain ⟨e1, e2⟩ := ob_pp hd
          subst e1
          subst e2
          exact ob_iret hx hb hr hlocks hP hD hS dX5_buyOff_41
  · replace hd := ob_t c_4 hd
    refine lv_ldc hx hb hown kw2 dX5_buyOff_7 ?_
    obtain ⟨e1, e2⟩ := ob_pp hd
    subst e1
    subst e2
    exact ob_iret hx hb hr hlocks hP hD hS dX5_buyOff_9

def fd_X5_holds_L38  : Nat → ob_B → Int32 → Int32 → Int32 → Int32 → Option (Int32 × ob_B)
  | 0, _, _, _, _, _ => none
  | fu + 1, b, x1, z2, z3, z4 => if ((b.2 12) (Int32.toNatClampNeg 2)) ≤ z4 then (some (z3, b)) else (if (35 + z4) < 0 ∨ 42 ≤ Int32.toNatClampNeg (35 + z4) then none else (if ((b.2 12) (Int32.toNatClampNeg (35 + z4))) = 0 then (ob_b1 (fd_X5_beginBut b (1 <<< (z4 &&& 31))) (fun b_7 => ob_b2 (fd_X5_goOn b_7 x1) (fun r_8 b_9 => if r_8 = z2 then (ob_lt (z3 ||| 0 : Int32) (fun x_12 => ob_lt (z4 + 1 : Int32) (fun x_13 => fd_X5_holds_L38 fu b_9 x1 z2 x_12 x_13))) else (ob_lt (z3 ||| (1 <<< (z4 &&& 31)) : Int32) (fun x_10 => ob_lt (z4 + 1 : Int32) (fun x_11 => fd_X5_holds_L38 fu b_9 x1 z2 x_10 x_11)))))) else (ob_lt (z4 + 1 : Int32) (fun x_6 => fd_X5_holds_L38 fu b x1 z2 z3 x_6))))
def fd_X5_holds  (b : ob_B) (x1 : Int32) : Option (Int32 × ob_B) := ob_b1 (fd_X5_isRoute b) (fun r_1 => if r_1 = 0 then (some ((-1000002), b)) else (ob_b1 (fd_X5_in x1 1 60) (fun r_2 => if r_2 = 0 then (some ((-1000001), b)) else (ob_b1 (fd_X5_begin b) (fun b_3 => ob_b2 (fd_X5_goOn b_3 x1) (fun r_4 b_5 => fd_X5_holds_L38 2000 b_5 x1 r_4 0 0))))))
set_option maxHeartbeats 4000000 in
set_option maxRecDepth 100000 in
theorem mt_X5_holds (l : Launch) (dC : Nat → ClassId) (dI : Nat → Nat → Nat) (cI cZ cR cW : ClassId) (xs : Nat → Nat) (sz : Nat) (o_b : Nat) (a_b : Nat → Nat) (b : ob_B) (x1 : Int32)  (rr : Int32) (b' : ob_B) (hd : fd_X5_holds b x1 = some (rr, b')) : ob_M l yX5_holds wsX5_holds ({ frames := 5, cells := 0, slots := 0, locals := 114 } : Room) (dC, dI) (ob_ty cI cZ cR cW) xs [.ref o_b, .int x1] (ob_w5 o_b a_b cI cZ b) sz (ob_Qi (dC, dI) rr (ob_w5 o_b a_b cI cZ b')) := by
  rw [fd_X5_holds] at hd
  refine ob_in (cc := cX5_holds) (maxL := 5) (ret := (some .int)) (own := RX5) (by decide) rfl rfl [(0, .ref o_b), (1, .int x1)] rfl (Nat.le_of_ble_eq_true rfl) ?_
  intro p e s m below meth c hx hb hr hml hown hts hlocks hnm hK A hA hE hP hD hS ls hl
  have kw0 := hts (.constant RX5 63 (-1000001)) (by decide +kernel)
  have kw1 := hts (.constant RX5 130 (-1000002)) (by decide +kernel)
  have kw2 := hts (.fieldLink RX5 22 "OathCoachModel" "now" "[I") (by decide +kernel)
  have hi_X5 : ∀ w ∈ u_ws RX5 TX5 23, w ∈ wsX5_holds := by decide +kernel
  have L38 : ∀  (fu : Nat), ∀ (H : Heap) (locs : List Loc) (b : ob_B) (z2 : Int32) (z3 : Int32) (z4 : Int32) (ls : Array Slot), va_P (dC, dI) vwCl (ob_w5 o_b a_b cI cZ b) H → va_D A (ob_w5 o_b a_b cI cZ b) → va_S A s.heap H locs → lv_has ls 5 [(0, .ref o_b), (1, .int x1), (2, .int z2), (3, .int z3), (4, .int z4)] → fd_X5_holds_L38 fu b x1 z2 z3 z4 = some (rr, b') → W p l e ({ frames := 5, cells := 0, slots := 0, locals := 114 } : Room) s m (List.toArray [.ref o_b, .int x1]) below meth c H locs 0 0 (MQ below ((ob_Qi (dC, dI) rr (ob_w5 o_b a_b cI cZ b')) A) (List.toArray [.ref o_b, .int x1]) s 0 0 A) (F0 m 38 ls []) := by
    intro  fu
    induction fu with
    | zero =>
      intro H locs b z2 z3 z4 ls hP hD hS hl hd
      rw [fd_X5_holds_L38] at hd
      cases hd
    | succ fu ih =>
      intro H locs b z2 z3 z4 ls hP hD hS hl hd
      rw [fd_X5_holds_L38] at hd
      refine lv_iload hx hb dX5_holds_38 (lv_at hl 4 rfl) ?_
      refine lv_aload_n hx hb dX5_holds_40 rfl (lv_at hl 0 rfl) ?_
      refine va_get (D := (dC, dI)) (ci := 5) (v := .ref (a_b 12)) (C := RX5) (T := TX5) (N := 23) hx hb hts hi_X5 hown hK hP 0 rfl rfl 12 (by decide) kw2 (fun _ h9 => h9) rfl dX5_holds_41 ?_
      refine lv_iconst (v := 2) hx hb dX5_holds_44 (by decide) ?_
      refine va_iald hx hb hK hP 5 0 rfl rfl (by unfold vp_in; decide) dX5_holds_45 ?_
      refine lv_icmp_ge (tgt := 96) hx hb dX5_holds_46 (by decide) (fun c_46 => ?_) (fun c_46 => ?_)
      · replace hd := ob_t c_46 hd
        refine lv_iload_n hx hb dX5_holds_96 rfl (lv_at hl 3 rfl) ?_
        obtain ⟨e1, e2⟩ := ob_pp hd
        subst e1
        subst e2
        exact ob_iret hx hb hr hlocks hP hD hS dX5_holds_97
      · replace hd := ob_f c_46 hd
        refine lv_aload_n hx hb dX5_holds_49 rfl (lv_at hl 0 rfl) ?_
        refine va_get (D := (dC, dI)) (ci := 5) (v := .ref (a_b 12)) (C := RX5) (T := TX5) (N := 23) hx hb hts hi_X5 hown hK hP 0 rfl rfl 12 (by decide) kw2 (fun _ h9 => h9) rfl dX5_holds_50 ?_
        refine lv_bipush (v := 35) hx hb dX5_holds_53 (by decide) ?_
        refine lv_iload hx hb dX5_holds_55 (lv_at hl 4 rfl) ?_
        refine lv_iadd hx hb dX5_holds_57 ?_
        obtain ⟨h1_58, hd⟩ := ob_nn hd
        refine va_iald hx hb hK hP 5 0 rfl rfl h1_58 dX5_holds_58 ?_
        refine lv_if_ne (tgt := 90) hx hb dX5_holds_59 (by decide) (fun c_59 => ?_) (fun c_59 => ?_)
        · replace hd := ob_f c_59 hd
          obtain ⟨x_6, ex_6⟩ : ∃ z : Int32, z = z4 + 1 := ⟨_, rfl⟩
          replace hd := ob_lx ex_6 hd
          refine lv_iinc (v := x_6) (lv' := [(4, .int x_6), (0, .ref o_b), (1, .int x1), (2, .int z2), (3, .int z3)]) hx hb dX5_holds_90 hl (k := 4) rfl (by rw [ex_6]; rfl) (by decide) rfl (fun ls hl => ?_)
          clear ex_6
          refine lv_goto (tgt := 38) hx hb dX5_holds_93 (by decide) ?_
          exact ih _ _ b z2 z3 x_6 _ hP hD hS (lv_sub hl [1, 2, 3, 4, 0] rfl) hd
        · replace hd := ob_t c_59 hd
          refine lv_aload_n hx hb dX5_holds_62 rfl (lv_at hl 0 rfl) ?_
          refine lv_iconst (v := 1) hx hb dX5_holds_63 (by decide) ?_
          refine lv_iload hx hb dX5_holds_64 (lv_at hl 4 rfl) ?_
          refine lv_ishl hx hb dX5_holds_66 ?_
          obtain ⟨b_7, hc_67, hd⟩ := ob_s1 hd
          refine ob_Vv (isC := [0, 1, 2, 3, 4, 5, 6, 7, 8, 9, 10, 11, 12, 13]) (isR := []) (is2 := [0, 1, 2, 3, 4, 5, 6, 7, 8, 9, 10, 11, 12, 13]) (wc := (ob_w5 o_b a_b cI cZ b)) (wr := ([] : va_W)) (w1 := (ob_w5 o_b a_b cI cZ b_7)) (w2 := (ob_w5 o_b a_b cI cZ b_7)) (b := o_b) (As := [.int (1 <<< (z4 &&& 31))]) (rest := []) ⟨hx, hb, hml, hown, hts⟩ (mt_X5_beginBut l dC dI cI cZ cR cW xs _ o_b a_b b (1 <<< (z4 &&& 31)) b_7 hc_67) (cwV 1 hts gX5_holds_X5_beginBut rfl rfl rfl (by decide +kernel) ⟨Nat.le_of_ble_eq_true rfl, Nat.le_of_ble_eq_true rfl⟩) hK hE hP hD hS hA ⟨rfl, rfl, rfl, rfl, rfl, rfl, rfl⟩ 5 0 rfl rfl rfl hl rfl rfl (Nat.le_of_ble_eq_true rfl) ⟨Nat.le_of_ble_eq_true rfl, Nat.le_of_ble_eq_true rfl⟩ dX5_holds_67 (fun H locs hP hD hS => ?_)
          refine W.widen (k := 0) (n := 0) (Nat.le_refl _) (Nat.le_refl _) ?_
          refine lv_iload_n hx hb dX5_holds_70 rfl (lv_at hl 3 rfl) ?_
          refine lv_aload_n hx hb dX5_holds_71 rfl (lv_at hl 0 rfl) ?_
          refine lv_iload_n hx hb dX5_holds_72 rfl (lv_at hl 1 rfl) ?_
          obtain ⟨r_8, b_9, hc_73, hd⟩ := ob_s2 hd
          refine ob_Vi (isC := [0, 1, 2, 3, 4, 5, 6, 7, 8, 9, 10, 11, 12, 13]) (isR := []) (is2 := [0, 1, 2, 3, 4, 5, 6, 7, 8, 9, 10, 11, 12, 13]) (wc := (ob_w5 o_b a_b cI cZ b_7)) (wr := ([] : va_W)) (w1 := (ob_w5 o_b a_b cI cZ b_9)) (w2 := (ob_w5 o_b a_b cI cZ b_9)) (b := o_b) (As := [.int x1]) (rest := [.int z3]) ⟨hx, hb, hml, hown, hts⟩ (mt_X5_goOn l dC dI cI cZ cR cW xs _ o_b a_b b_7 x1 r_8 b_9 hc_73) (cwV 1 hts gX5_holds_X5_goOn rfl rfl rfl (by decide +kernel) ⟨Nat.le_of_ble_eq_true rfl, Nat.le_of_ble_eq_true rfl⟩) hK hE hP hD hS hA ⟨rfl, rfl, rfl, rfl, rfl, rfl, rfl⟩ 5 0 rfl rfl rfl hl rfl rfl (Nat.le_of_ble_eq_true rfl) ⟨Nat.le_of_ble_eq_true rfl, Nat.le_of_ble_eq_true rfl⟩ dX5_holds_73 (fun H locs hP hD hS => ?_)
          refine W.widen (k := 0) (n := 0) (Nat.le_refl _) (Nat.le_refl _) ?_
          refine lv_iload_n hx hb dX5_holds_76 rfl (lv_at hl 2 rfl) ?_
          refine lv_icmp_ne (tgt := 84) hx hb dX5_holds_77 (by decide) (fun c_77 => ?_) (fun c_77 => ?_)
          · replace hd := ob_f c_77 hd
            refine lv_iconst (v := 1) hx hb dX5_holds_84 (by decide) ?_
            refine lv_iload hx hb dX5_holds_85 (lv_at hl 4 rfl) ?_
            refine lv_ishl hx hb dX5_holds_87 ?_
            refine lv_ior hx hb dX5_holds_88 ?_
            refine lv_topi (fun x_10 ex_10 => ?_)
            replace hd := ob_lx ex_10 hd
            clear ex_10
            refine lv_istore_n (lv' := [(3, .int x_10), (0, .ref o_b), (1, .int x1), (2, .int z2), (4, .int z4)]) hx hb dX5_holds_89 rfl hl (by decide) rfl (fun ls hl => ?_)
            obtain ⟨x_11, ex_11⟩ : ∃ z : Int32, z = z4 + 1 := ⟨_, rfl⟩
            replace hd := ob_lx ex_11 hd
            refine lv_iinc (v := x_11) (lv' := [(4, .int x_11), (3, .int x_10), (0, .ref o_b), (1, .int x1), (2, .int z2)]) hx hb dX5_holds_90 hl (k := 4) rfl (by rw [ex_11]; rfl) (by decide) rfl (fun ls hl => ?_)
            clear ex_11
            refine lv_goto (tgt := 38) hx hb dX5_holds_93 (by decide) ?_
            exact ih _ _ b_9 z2 x_10 x_11 _ hP hD hS (lv_sub hl [2, 3, 4, 1, 0] rfl) hd
          · replace hd := ob_t c_77 hd
            refine lv_iconst (v := 0) hx hb dX5_holds_80 (by decide) ?_
            refine lv_goto (tgt := 88) hx hb dX5_holds_81 (by decide) ?_
            refine lv_ior hx hb dX5_holds_88 ?_
            refine lv_topi (fun x_12 ex_12 => ?_)
            replace hd := ob_lx ex_12 hd
            clear ex_12
            refine lv_istore_n (lv' := [(3, .int x_12), (0, .ref o_b), (1, .int x1), (2, .int z2), (4, .int z4)]) hx hb dX5_holds_89 rfl hl (by decide) rfl (fun ls hl => ?_)
            obtain ⟨x_13, ex_13⟩ : ∃ z : Int32, z = z4 + 1 := ⟨_, rfl⟩
            replace hd := ob_lx ex_13 hd
            refine lv_iinc (v := x_13) (lv' := [(4, .int x_13), (3, .int x_12), (0, .ref o_b), (1, .int x1), (2, .int z2)]) hx hb dX5_holds_90 hl (k := 4) rfl (by rw [ex_13]; rfl) (by decide) rfl (fun ls hl => ?_)
            clear ex_13
            refine lv_goto (tgt := 38) hx hb dX5_holds_93 (by decide) ?_
            exact ih _ _ b_9 z2 x_12 x_13 _ hP hD hS (lv_sub hl [2, 3, 4, 1, 0] rfl) hd
  refine lv_aload_n hx hb dX5_holds_0 rfl (lv_at hl 0 rfl) ?_
  obtain ⟨r_1, hc_1, hd⟩ := ob_s1 hd
  refine ob_Vi (isC := [0, 1, 2, 3, 4, 5, 6, 7, 8, 9, 10, 11, 12, 13]) (isR := []) (is2 := [0, 1, 2, 3, 4, 5, 6, 7, 8, 9, 10, 11, 12, 13]) (wc := (ob_w5 o_b a_b cI cZ b)) (wr := ([] : va_W)) (w1 := (ob_w5 o_b a_b cI cZ b)) (w2 := (ob_w5 o_b a_b cI cZ b)) (b := o_b) (As := []) (rest := []) ⟨hx, hb, hml, hown, hts⟩ (mt_X5_isRoute l dC dI cI cZ cR cW xs _ o_b a_b b r_1 hc_1) (cwV 0 hts gX5_holds_X5_isRoute rfl rfl rfl (by decide +kernel) ⟨Nat.le_of_ble_eq_true rfl, Nat.le_of_ble_eq_true rfl⟩) hK hE hP hD hS hA ⟨rfl, rfl, rfl, rfl, rfl, rfl, rfl⟩ 5 0 rfl rfl rfl hl rfl rfl (Nat.le_of_ble_eq_true rfl) ⟨Nat.le_of_ble_eq_true rfl, Nat.le_of_ble_eq_true rfl⟩ dX5_holds_1 (fun H locs hP hD hS => ?_)
  refine W.widen (k := 0) (n := 0) (Nat.le_refl _) (Nat.le_refl _) ?_
  refine lv_if_ne (tgt := 10) hx hb dX5_holds_4 (by decide) (fun c_4 => ?_) (fun c_4 => ?_)
  · replace hd := ob_f c_4 hd
    refine lv_iload_n hx hb dX5_holds_10 rfl (lv_at hl 1 rfl) ?_
    refine lv_iconst (v := 1) hx hb dX5_holds_11 (by decide) ?_
    refine lv_bipush (v := 60) hx hb dX5_holds_12 (by decide) ?_
    obtain ⟨r_2, hc_14, hd⟩ := ob_s1 hd
    refine ob_Si (isC := []) (isR := [0, 1, 2, 3, 4, 5, 6, 7, 8, 9, 10, 11, 12, 13]) (is2 := [0, 1, 2, 3, 4, 5, 6, 7, 8, 9, 10, 11, 12, 13]) (wc := ([] : va_W)) (wr := (List.filterMap (fun i => (ob_w5 o_b a_b cI cZ b)[i]?) [0, 1, 2, 3, 4, 5, 6, 7, 8, 9, 10, 11, 12, 13])) (w1 := ([] : va_W)) (w2 := (ob_w5 o_b a_b cI cZ b)) (As := [.int x1, .int 1, .int 60]) (rest := []) ⟨hx, hb, hml, hown, hts⟩ (mt_X5_in l dC dI cI cZ cR cW xs _ x1 1 60 r_2 hc_14) (va_cwS 3 hts gX5_holds_X5_in rfl rfl rfl (by decide +kernel) ⟨Nat.le_of_ble_eq_true rfl, Nat.le_of_ble_eq_true rfl⟩) hK hE hP hD hS hA ⟨rfl, rfl, rfl, rfl, rfl, rfl, rfl⟩ hl rfl rfl (Nat.le_of_ble_eq_true rfl) ⟨Nat.le_of_ble_eq_true rfl, Nat.le_of_ble_eq_true rfl⟩ dX5_holds_14 (fun H locs hP hD hS => ?_)
    refine W.widen (k := 0) (n := 0) (Nat.le_refl _) (Nat.le_refl _) ?_
    refine lv_if_ne (tgt := 23) hx hb dX5_holds_17 (by decide) (fun c_17 => ?_) (fun c_17 => ?_)
    · replace hd := ob_f c_17 hd
      refine lv_aload_n hx hb dX5_holds_23 rfl (lv_at hl 0 rfl) ?_
      obtain ⟨b_3, hc_24, hd⟩ := ob_s1 hd
      refine ob_Vv (isC := [0, 1, 2, 3, 4, 5, 6, 7, 8, 9, 10, 11, 12, 13]) (isR := []) (is2 := [0, 1, 2, 3, 4, 5, 6, 7, 8, 9, 10, 11, 12, 13]) (wc := (ob_w5 o_b a_b cI cZ b)) (wr := ([] : va_W)) (w1 := (ob_w5 o_b a_b cI cZ b_3)) (w2 := (ob_w5 o_b a_b cI cZ b_3)) (b := o_b) (As := []) (rest := []) ⟨hx, hb, hml, hown, hts⟩ (mt_X5_begin l dC dI cI cZ cR cW xs _ o_b a_b b b_3 hc_24) (cwV 0 hts gX5_holds_X5_begin rfl rfl rfl (by decide +kernel) ⟨Nat.le_of_ble_eq_true rfl, Nat.le_of_ble_eq_true rfl⟩) hK hE hP hD hS hA ⟨rfl, rfl, rfl, rfl, rfl, rfl, rfl⟩ 5 0 rfl rfl rfl hl rfl rfl (Nat.le_of_ble_eq_true rfl) ⟨Nat.le_of_ble_eq_true rfl, Nat.le_of_ble_eq_true rfl⟩ dX5_holds_24 (fun H locs hP hD hS => ?_)
      refine W.widen (k := 0) (n := 0) (Nat.le_refl _) (Nat.le_refl _) ?_
      refine lv_aload_n hx hb dX5_holds_27 rfl (lv_at hl 0 rfl) ?_
      refine lv_iload_n hx hb dX5_holds_28 rfl (lv_at hl 1 rfl) ?_
      obtain ⟨r_4, b_5, hc_29, hd⟩ := ob_s2 hd
      refine ob_Vi (isC := [0, 1, 2, 3, 4, 5, 6, 7, 8, 9, 10, 11, 12, 13]) (isR := []) (is2 := [0, 1, 2, 3, 4, 5, 6, 7, 8, 9, 10, 11, 12, 13]) (wc := (ob_w5 o_b a_b cI cZ b_3)) (wr := ([] : va_W)) (w1 := (ob_w5 o_b a_b cI cZ b_5)) (w2 := (ob_w5 o_b a_b cI cZ b_5)) (b := o_b) (As := [.int x1]) (rest := []) ⟨hx, hb, hml, hown, hts⟩ (mt_X5_goOn l dC dI cI cZ cR cW xs _ o_b a_b b_3 x1 r_4 b_5 hc_29) (cwV 1 hts gX5_holds_X5_goOn rfl rfl rfl (by decide +kernel) ⟨Nat.le_of_ble_eq_true rfl, Nat.le_of_ble_eq_true rfl⟩) hK hE hP hD hS hA ⟨rfl, rfl, rfl, rfl, rfl, rfl, rfl⟩ 5 0 rfl rfl rfl hl rfl rfl (Nat.le_of_ble_eq_true rfl) ⟨Nat.le_of_ble_eq_true rfl, Nat.le_of_ble_eq_true rfl⟩ dX5_holds_29 (fun H locs hP hD hS => ?_)
      refine W.widen (k := 0) (n := 0) (Nat.le_refl _) (Nat.le_refl _) ?_
      refine lv_istore_n (lv' := [(2, .int r_4), (0, .ref o_b), (1, .int x1)]) hx hb dX5_holds_32 rfl hl (by decide) rfl (fun ls hl => ?_)
      refine lv_iconst (v := 0) hx hb dX5_holds_33 (by decide) ?_
      refine lv_istore_n (lv' := [(3, .int 0), (2, .int r_4), (0, .ref o_b), (1, .int x1)]) hx hb dX5_holds_34 rfl hl (by decide) rfl (fun ls hl => ?_)
      refine lv_iconst (v := 0) hx hb dX5_holds_35 (by decide) ?_
      refine lv_istore (lv' := [(4, .int 0), (3, .int 0), (2, .int r_4), (0, .ref o_b), (1, .int x1)]) hx hb dX5_holds_36 hl (by decide) rfl (fun ls hl => ?_)
      exact L38  2000 _ _ b_5 r_4 0 0 _ hP hD hS (lv_sub hl [3, 4, 2, 1, 0] rfl) hd
    · replace hd := ob_t c_17 hd
      refine lv_ldc hx hb hown kw0 dX5_holds_20 ?_
      obtain ⟨e1, e2⟩ := ob_pp hd
      subst e1
      subst e2
      exact ob_iret hx hb hr hlocks hP hD hS dX5_holds_22
  · replace hd := ob_t c_4 hd
    refine lv_ldc hx hb hown kw1 dX5_holds_7 ?_
    obtain ⟨e1, e2⟩ := ob_pp hd
    subst e1
    subst e2
    exact ob_iret hx hb hr hlocks hP hD hS dX5_holds_9

def fd_X5_takeOut_L38  : Nat → ob_B → Int32 → Int32 → Int32 → Int32 → Option (Int32 × ob_B)
  | 0, _, _, _, _, _ => none
  | fu + 1, b, x1, x2, x3, z4 => if x3 ≤ z4 then (some (0, b)) else (if (((40 * x1) + x2) + z4) < 0 ∨ 320 ≤ Int32.toNatClampNeg (((40 * x1) + x2) + z4) then none else (ob_lt ((b.2 2) (Int32.toNatClampNeg (((40 * x1) + x2) + z4)) : Int32) (fun x_6 => if z4 < 0 ∨ 12 ≤ Int32.toNatClampNeg z4 then none else (ob_lt (ob_A b 21 (upd (b.2 21) (Int32.toNatClampNeg z4) x_6) : ob_B) (fun b_7 => ob_lt (z4 + 1 : Int32) (fun x_8 => fd_X5_takeOut_L38 fu b_7 x1 x2 x3 x_8))))))
def fd_X5_takeOut  (b : ob_B) (x1 : Int32) (x2 : Int32) (x3 : Int32) : Option (Int32 × ob_B) := if x1 < 0 ∨ 8 ≤ Int32.toNatClampNeg x1 then none else (if 0 ≤ ((b.2 0) (Int32.toNatClampNeg x1)) then (if x1 < 0 ∨ 8 ≤ Int32.toNatClampNeg x1 then none else (ob_b1 (fd_X5_isPart x2 x3 ((b.2 1) (Int32.toNatClampNeg x1))) (fun r_1 => if r_1 = 0 then (ob_b2 (fd_X5_finds b 2) (fun r_2 b_3 => some (r_2, b_3))) else (fd_X5_takeOut_L38 2000 b x1 x2 x3 0)))) else (ob_b2 (fd_X5_finds b 1) (fun r_4 b_5 => some (r_4, b_5))))
set_option maxHeartbeats 4000000 in
set_option maxRecDepth 100000 in
theorem mt_X5_takeOut (l : Launch) (dC : Nat → ClassId) (dI : Nat → Nat → Nat) (cI cZ cR cW : ClassId) (xs : Nat → Nat) (sz : Nat) (o_b : Nat) (a_b : Nat → Nat) (b : ob_B) (x1 : Int32) (x2 : Int32) (x3 : Int32)  (rr : Int32) (b' : ob_B) (hd : fd_X5_takeOut b x1 x2 x3 = some (rr, b')) : ob_M l yX5_takeOut wsX5_takeOut ({ frames := 1, cells := 0, slots := 0, locals := 22 } : Room) (dC, dI) (ob_ty cI cZ cR cW) xs [.ref o_b, .int x1, .int x2, .int x3] (ob_w5 o_b a_b cI cZ b) sz (ob_Qi (dC, dI) rr (ob_w5 o_b a_b cI cZ b')) := by
  rw [fd_X5_takeOut] at hd
  refine ob_in (cc := cX5_takeOut) (maxL := 5) (ret := (some .int)) (own := RX5) (by decide) rfl rfl [(0, .ref o_b), (1, .int x1), (2, .int x2), (3, .int x3)] rfl (Nat.le_of_ble_eq_true rfl) ?_
  intro p e s m below meth c hx hb hr hml hown hts hlocks hnm hK A hA hE hP hD hS ls hl
  have kw0 := hts (.fieldLink RX5 7 "OathCoachModel" "lane" "[I") (by decide +kernel)
  have kw1 := hts (.fieldLink RX5 13 "OathCoachModel" "size" "[I") (by decide +kernel)
  have kw2 := hts (.fieldLink RX5 44 "OathCoachModel" "told" "[I") (by decide +kernel)
  have kw3 := hts (.fieldLink RX5 16 "OathCoachModel" "items" "[I") (by decide +kernel)
  have hi_X5 : ∀ w ∈ u_ws RX5 TX5 23, w ∈ wsX5_takeOut := by decide +kernel
  have L38 : ∀  (fu : Nat), ∀ (H : Heap) (locs : List Loc) (b : ob_B) (z4 : Int32) (ls : Array Slot), va_P (dC, dI) vwCl (ob_w5 o_b a_b cI cZ b) H → va_D A (ob_w5 o_b a_b cI cZ b) → va_S A s.heap H locs → lv_has ls 5 [(0, .ref o_b), (1, .int x1), (2, .int x2), (3, .int x3), (4, .int z4)] → fd_X5_takeOut_L38 fu b x1 x2 x3 z4 = some (rr, b') → W p l e ({ frames := 1, cells := 0, slots := 0, locals := 22 } : Room) s m (List.toArray [.ref o_b, .int x1, .int x2, .int x3]) below meth c H locs 0 0 (MQ below ((ob_Qi (dC, dI) rr (ob_w5 o_b a_b cI cZ b')) A) (List.toArray [.ref o_b, .int x1, .int x2, .int x3]) s 0 0 A) (F0 m 38 ls []) := by
    intro  fu
    induction fu with
    | zero =>
      intro H locs b z4 ls hP hD hS hl hd
      rw [fd_X5_takeOut_L38] at hd
      cases hd
    | succ fu ih =>
      intro H locs b z4 ls hP hD hS hl hd
      rw [fd_X5_takeOut_L38] at hd
      refine lv_iload hx hb dX5_takeOut_38 (lv_at hl 4 rfl) ?_
      refine lv_iload_n hx hb dX5_takeOut_40 rfl (lv_at hl 3 rfl) ?_
      refine lv_icmp_ge (tgt := 71) hx hb dX5_takeOut_41 (by decide) (fun c_41 => ?_) (fun c_41 => ?_)
      · replace hd := ob_t c_41 hd
        refine lv_iconst (v := 0) hx hb dX5_takeOut_71 (by decide) ?_
        obtain ⟨e1, e2⟩ := ob_pp hd
        subst e1
        subst e2
        exact ob_iret hx hb hr hlocks hP hD hS dX5_takeOut_72
      · replace hd := ob_f c_41 hd
        refine lv_aload_n hx hb dX5_takeOut_44 rfl (lv_at hl 0 rfl) ?_
        refine va_get (D := (dC, dI)) (ci := 5) (v := .ref (a_b 21)) (C := RX5) (T := TX5) (N := 23) hx hb hts hi_X5 hown hK hP 0 rfl rfl 21 (by decide) kw2 (fun _ h9 => h9) rfl dX5_takeOut_45 ?_
        refine lv_iload hx hb dX5_takeOut_48 (lv_at hl 4 rfl) ?_
        refine lv_aload_n hx hb dX5_takeOut_50 rfl (lv_at hl 0 rfl) ?_
        refine va_get (D := (dC, dI)) (ci := 5) (v := .ref (a_b 2)) (C := RX5) (T := TX5) (N := 23) hx hb hts hi_X5 hown hK hP 0 rfl rfl 2 (by decide) kw3 (fun _ h9 => h9) rfl dX5_takeOut_51 ?_
        refine lv_bipush (v := 40) hx hb dX5_takeOut_54 (by decide) ?_
        refine lv_iload_n hx hb dX5_takeOut_56 rfl (lv_at hl 1 rfl) ?_
        refine lv_imul hx hb dX5_takeOut_57 ?_
        refine lv_iload_n hx hb dX5_takeOut_58 rfl (lv_at hl 2 rfl) ?_
        refine lv_iadd hx hb dX5_takeOut_59 ?_
        refine lv_iload hx hb dX5_takeOut_60 (lv_at hl 4 rfl) ?_
        refine lv_iadd hx hb dX5_takeOut_62 ?_
        obtain ⟨h1_63, hd⟩ := ob_nn hd
        refine va_iald hx hb hK hP 3 0 rfl rfl h1_63 dX5_takeOut_63 ?_
        refine lv_topi (fun x_6 ex_6 => ?_)
        replace hd := ob_lx ex_6 hd
        clear ex_6
        obtain ⟨h1_64, hd⟩ := ob_nn hd
        refine va_iast hx hb hK hP hD hS 12 0 rfl rfl h1_64 dX5_takeOut_64 (fun H locs hP hD hS => ?_)
        obtain ⟨b_7, eb_7⟩ : ∃ z : ob_B, z = ob_A b 21 (upd (b.2 21) (Int32.toNatClampNeg z4) x_6) := ⟨_, rfl⟩
        replace hd := ob_lx eb_7 hd
        replace hP : va_P (dC, dI) vwCl (ob_w5 o_b a_b cI cZ b_7) H := by rw [eb_7]; exact hP
        replace hD : va_D A (ob_w5 o_b a_b cI cZ b_7) := by rw [eb_7]; exact hD
        clear eb_7
        obtain ⟨x_8, ex_8⟩ : ∃ z : Int32, z = z4 + 1 := ⟨_, rfl⟩
        replace hd := ob_lx ex_8 hd
        refine lv_iinc (v := x_8) (lv' := [(4, .int x_8), (0, .ref o_b), (1, .int x1), (2, .int x2), (3, .int x3)]) hx hb dX5_takeOut_65 hl (k := 4) rfl (by rw [ex_8]; rfl) (by decide) rfl (fun ls hl => ?_)
        clear ex_8
        refine lv_goto (tgt := 38) hx hb dX5_takeOut_68 (by decide) ?_
        exact ih _ _ b_7 x_8 _ hP hD hS (lv_sub hl [1, 2, 3, 4, 0] rfl) hd
  refine lv_aload_n hx hb dX5_takeOut_0 rfl (lv_at hl 0 rfl) ?_
  refine va_get (D := (dC, dI)) (ci := 5) (v := .ref (a_b 0)) (C := RX5) (T := TX5) (N := 23) hx hb hts hi_X5 hown hK hP 0 rfl rfl 0 (by decide) kw0 (fun _ h9 => h9) rfl dX5_takeOut_1 ?_
  refine lv_iload_n hx hb dX5_takeOut_4 rfl (lv_at hl 1 rfl) ?_
  obtain ⟨h1_5, hd⟩ := ob_nn hd
  refine va_iald hx hb hK hP 1 0 rfl rfl h1_5 dX5_takeOut_5 ?_
  refine lv_if_ge (tgt := 15) hx hb dX5_takeOut_6 (by decide) (fun c_6 => ?_) (fun c_6 => ?_)
  · replace hd := ob_t c_6 hd
    refine lv_iload_n hx hb dX5_takeOut_15 rfl (lv_at hl 2 rfl) ?_
    refine lv_iload_n hx hb dX5_takeOut_16 rfl (lv_at hl 3 rfl) ?_
    refine lv_aload_n hx hb dX5_takeOut_17 rfl (lv_at hl 0 rfl) ?_
    refine va_get (D := (dC, dI)) (ci := 5) (v := .ref (a_b 1)) (C := RX5) (T := TX5) (N := 23) hx hb hts hi_X5 hown hK hP 0 rfl rfl 1 (by decide) kw1 (fun _ h9 => h9) rfl dX5_takeOut_18 ?_
    refine lv_iload_n hx hb dX5_takeOut_21 rfl (lv_at hl 1 rfl) ?_
    obtain ⟨h1_22, hd⟩ := ob_nn hd
    refine va_iald hx hb hK hP 2 0 rfl rfl h1_22 dX5_takeOut_22 ?_
    obtain ⟨r_1, hc_23, hd⟩ := ob_s1 hd
    refine ob_Si (isC := []) (isR := [0, 1, 2, 3, 4, 5, 6, 7, 8, 9, 10, 11, 12, 13]) (is2 := [0, 1, 2, 3, 4, 5, 6, 7, 8, 9, 10, 11, 12, 13]) (wc := ([] : va_W)) (wr := (List.filterMap (fun i => (ob_w5 o_b a_b cI cZ b)[i]?) [0, 1, 2, 3, 4, 5, 6, 7, 8, 9, 10, 11, 12, 13])) (w1 := ([] : va_W)) (w2 := (ob_w5 o_b a_b cI cZ b)) (As := [.int x2, .int x3, .int ((b.2 1) (Int32.toNatClampNeg x1))]) (rest := []) ⟨hx, hb, hml, hown, hts⟩ (mt_X5_isPart l dC dI cI cZ cR cW xs _ x2 x3 ((b.2 1) (Int32.toNatClampNeg x1)) r_1 hc_23) (va_cwS 3 hts gX5_takeOut_X5_isPart rfl rfl rfl (by decide +kernel) ⟨Nat.le_of_ble_eq_true rfl, Nat.le_of_ble_eq_true rfl⟩) hK hE hP hD hS hA ⟨rfl, rfl, rfl, rfl, rfl, rfl, rfl⟩ hl rfl rfl (Nat.le_of_ble_eq_true rfl) ⟨Nat.le_of_ble_eq_true rfl, Nat.le_of_ble_eq_true rfl⟩ dX5_takeOut_23 (fun H locs hP hD hS => ?_)
    refine W.widen (k := 0) (n := 0) (Nat.le_refl _) (Nat.le_refl _) ?_
    refine lv_if_ne (tgt := 35) hx hb dX5_takeOut_26 (by decide) (fun c_26 => ?_) (fun c_26 => ?_)
    · replace hd := ob_f c_26 hd
      refine lv_iconst (v := 0) hx hb dX5_takeOut_35 (by decide) ?_
      refine lv_istore (lv' := [(4, .int 0), (0, .ref o_b), (1, .int x1), (2, .int x2), (3, .int x3)]) hx hb dX5_takeOut_36 hl (by decide) rfl (fun ls hl => ?_)
      exact L38  2000 _ _ b 0 _ hP hD hS (lv_sub hl [1, 2, 3, 4, 0] rfl) hd
    · replace hd := ob_t c_26 hd
      refine lv_aload_n hx hb dX5_takeOut_29 rfl (lv_at hl 0 rfl) ?_
      refine lv_iconst (v := 2) hx hb dX5_takeOut_30 (by decide) ?_
      obtain ⟨r_2, b_3, hc_31, hd⟩ := ob_s2 hd
      refine ob_Vi (isC := [0, 1, 2, 3, 4, 5, 6, 7, 8, 9, 10, 11, 12, 13]) (isR := []) (is2 := [0, 1, 2, 3, 4, 5, 6, 7, 8, 9, 10, 11, 12, 13]) (wc := (ob_w5 o_b a_b cI cZ b)) (wr := ([] : va_W)) (w1 := (ob_w5 o_b a_b cI cZ b_3)) (w2 := (ob_w5 o_b a_b cI cZ b_3)) (b := o_b) (As := [.int 2]) (rest := []) ⟨hx, hb, hml, hown, hts⟩ (mt_X5_finds l dC dI cI cZ cR cW xs _ o_b a_b b 2 r_2 b_3 hc_31) (cwV 1 hts gX5_takeOut_X5_finds rfl rfl rfl (by decide +kernel) ⟨Nat.le_of_ble_eq_true rfl, Nat.le_of_ble_eq_true rfl⟩) hK hE hP hD hS hA ⟨rfl, rfl, rfl, rfl, rfl, rfl, rfl⟩ 5 0 rfl rfl rfl hl rfl rfl (Nat.le_of_ble_eq_true rfl) ⟨Nat.le_of_ble_eq_true rfl, Nat.le_of_ble_eq_true rfl⟩ dX5_takeOut_31 (fun H locs hP hD hS => ?_)
      refine W.widen (k := 0) (n := 0) (Nat.le_refl _) (Nat.le_refl _) ?_
      obtain ⟨e1, e2⟩ := ob_pp hd
      subst e1
      subst e2
      exact ob_iret hx hb hr hlocks hP hD hS dX5_takeOut_34
  · replace hd := ob_f c_6 hd
    refine lv_aload_n hx hb dX5_takeOut_9 rfl (lv_at hl 0 rfl) ?_
    refine lv_iconst (v := 1) hx hb dX5_takeOut_10 (by decide) ?_
    obtain ⟨r_4, b_5, hc_11, hd⟩ := ob_s2 hd
    refine ob_Vi (isC := [0, 1, 2, 3, 4, 5, 6, 7, 8, 9, 10, 11, 12, 13]) (isR := []) (is2 := [0, 1, 2, 3, 4, 5, 6, 7, 8, 9, 10, 11, 12, 13]) (wc := (ob_w5 o_b a_b cI cZ b)) (wr := ([] : va_W)) (w1 := (ob_w5 o_b a_b cI cZ b_5)) (w2 := (ob_w5 o_b a_b cI cZ b_5)) (b := o_b) (As := [.int 1]) (rest := []) ⟨hx, hb, hml, hown, hts⟩ (mt_X5_finds l dC dI cI cZ cR cW xs _ o_b a_b b 1 r_4 b_5 hc_11) (cwV 1 hts gX5_takeOut_X5_finds rfl rfl rfl (by decide +kernel) ⟨Nat.le_of_ble_eq_true rfl, Nat.le_of_ble_eq_true rfl⟩) hK hE hP hD hS hA ⟨rfl, rfl, rfl, rfl, rfl, rfl, rfl⟩ 5 0 rfl rfl rfl hl rfl rfl (Nat.le_of_ble_eq_true rfl) ⟨Nat.le_of_ble_eq_true rfl, Nat.le_of_ble_eq_true rfl⟩ dX5_takeOut_11 (fun H locs hP hD hS => ?_)
    refine W.widen (k := 0) (n := 0) (Nat.le_refl _) (Nat.le_refl _) ?_
    obtain ⟨e1, e2⟩ := ob_pp hd
    subst e1
    subst e2
    exact ob_iret hx hb hr hlocks hP hD hS dX5_takeOut_14

def fd_X5_isSo_L4  : Nat → ob_B → Int32 → Int32 → Int32 → Option (Int32 × ob_B)
  | 0, _, _, _, _ => none
  | fu + 1, b, x1, z2, z3 => if x1 ≤ z3 then (if ¬ (z2 &&& 1 = z2) then none else (some (z2, b))) else (ob_b2 (fd_X5_pass ((b.2 14))) (fun r_1 f_2 => ob_lt (ob_A b 14 f_2 : ob_B) (fun b_3 => if z2 = 0 then (ob_lt (z3 + 1 : Int32) (fun x_4 => fd_X5_isSo_L4 fu b_3 x1 0 x_4)) else (if z3 < 0 ∨ 12 ≤ Int32.toNatClampNeg z3 then none else (if ((b_3.2 14) (Int32.toNatClampNeg 0)) = ((b_3.2 21) (Int32.toNatClampNeg z3)) then (ob_lt (z3 + 1 : Int32) (fun x_6 => fd_X5_isSo_L4 fu b_3 x1 1 x_6)) else (ob_lt (z3 + 1 : Int32) (fun x_5 => fd_X5_isSo_L4 fu b_3 x1 0 x_5)))))))
def fd_X5_isSo  (b : ob_B) (x1 : Int32) : Option (Int32 × ob_B) := fd_X5_isSo_L4 2000 b x1 1 0
set_option maxHeartbeats 4000000 in
set_option maxRecDepth 100000 in
theorem mt_X5_isSo (l : Launch) (dC : Nat → ClassId) (dI : Nat → Nat → Nat) (cI cZ cR cW : ClassId) (xs : Nat → Nat) (sz : Nat) (o_b : Nat) (a_b : Nat → Nat) (b : ob_B) (x1 : Int32)  (rr : Int32) (b' : ob_B) (hd : fd_X5_isSo b x1 = some (rr, b')) : ob_M l yX5_isSo wsX5_isSo ({ frames := 4, cells := 0, slots := 0, locals := 92 } : Room) (dC, dI) (ob_ty cI cZ cR cW) xs [.ref o_b, .int x1] (ob_w5 o_b a_b cI cZ b) sz (ob_Qi (dC, dI) rr (ob_w5 o_b a_b cI cZ b')) := by
  rw [fd_X5_isSo] at hd
  refine ob_in (cc := cX5_isSo) (maxL := 4) (ret := (some .boolean)) (own := RX5) (by decide) rfl rfl [(0, .ref o_b), (1, .int x1)] rfl (Nat.le_of_ble_eq_true rfl) ?_
  intro p e s m below meth c hx hb hr hml hown hts hlocks hnm hK A hA hE hP hD hS ls hl
  have kw0 := hts (.fieldLink RX5 28 "OathCoachModel" "tried" "[I") (by decide +kernel)
  have kw1 := hts (.fieldLink RX5 44 "OathCoachModel" "told" "[I") (by decide +kernel)
  have hi_X5 : ∀ w ∈ u_ws RX5 TX5 23, w ∈ wsX5_isSo := by decide +kernel
  have L4 : ∀  (fu : Nat), ∀ (H : Heap) (locs : List Loc) (b : ob_B) (z2 : Int32) (z3 : Int32) (ls : Array Slot), va_P (dC, dI) vwCl (ob_w5 o_b a_b cI cZ b) H → va_D A (ob_w5 o_b a_b cI cZ b) → va_S A s.heap H locs → lv_has ls 4 [(0, .ref o_b), (1, .int x1), (2, .int z2), (3, .int z3)] → fd_X5_isSo_L4 fu b x1 z2 z3 = some (rr, b') → W p l e ({ frames := 4, cells := 0, slots := 0, locals := 92 } : Room) s m (List.toArray [.ref o_b, .int x1]) below meth c H locs 0 0 (MQ below ((ob_Qi (dC, dI) rr (ob_w5 o_b a_b cI cZ b')) A) (List.toArray [.ref o_b, .int x1]) s 0 0 A) (F0 m 4 ls []) := by
    intro  fu
    induction fu with
    | zero =>
      intro H locs b z2 z3 ls hP hD hS hl hd
      rw [fd_X5_isSo_L4] at hd
      cases hd
    | succ fu ih =>
      intro H locs b z2 z3 ls hP hD hS hl hd
      rw [fd_X5_isSo_L4] at hd
      refine lv_iload_n hx hb dX5_isSo_4 rfl (lv_at hl 3 rfl) ?_
      refine lv_iload_n hx hb dX5_isSo_5 rfl (lv_at hl 1 rfl) ?_
      refine lv_icmp_ge (tgt := 48) hx hb dX5_isSo_6 (by decide) (fun c_6 => ?_) (fun c_6 => ?_)
      · replace hd := ob_t c_6 hd
        refine lv_iload_n hx hb dX5_isSo_48 rfl (lv_at hl 2 rfl) ?_
        obtain ⟨hn, hd⟩ := ob_nn hd
        obtain ⟨e1, e2⟩ := ob_pp hd
        subst e1
        subst e2
        exact ob_zret hx hb hr hlocks (ob_nb hn) hP hD hS dX5_isSo_49
      · replace hd := ob_f c_6 hd
        refine lv_aload_n hx hb dX5_isSo_9 rfl (lv_at hl 0 rfl) ?_
        refine va_get (D := (dC, dI)) (ci := 5) (v := .ref (a_b 14)) (C := RX5) (T := TX5) (N := 23) hx hb hts hi_X5 hown hK hP 0 rfl rfl 14 (by decide) kw0 (fun _ h9 => h9) rfl dX5_isSo_10 ?_
        obtain ⟨r_1, f_2, hc_13, hd⟩ := ob_s2 hd
        refine ob_Si (isC := [7]) (isR := [0, 1, 2, 3, 4, 5, 6, 8, 9, 10, 11, 12, 13]) (is2 := [0, 1, 2, 3, 4, 5, 6, 13, 7, 8, 9, 10, 11, 12]) (wc := (ob_wa (a_b 14) cI 42 (b.2 14))) (wr := (List.filterMap (fun i => (ob_w5 o_b a_b cI cZ b)[i]?) [0, 1, 2, 3, 4, 5, 6, 8, 9, 10, 11, 12, 13])) (w1 := (ob_wa (a_b 14) cI 42 f_2)) (w2 := (ob_w5 o_b a_b cI cZ (ob_A b 14 f_2))) (As := [.ref (a_b 14)]) (rest := []) ⟨hx, hb, hml, hown, hts⟩ (mt_X5_pass l dC dI cI cZ cR cW xs _ ((a_b 14)) ((b.2 14)) r_1 f_2 hc_13) (va_cwS 1 hts gX5_isSo_X5_pass rfl rfl rfl (by decide +kernel) ⟨Nat.le_of_ble_eq_true rfl, Nat.le_of_ble_eq_true rfl⟩) hK hE hP hD hS hA ⟨rfl, rfl, rfl, rfl, rfl, rfl, rfl⟩ hl rfl rfl (Nat.le_of_ble_eq_true rfl) ⟨Nat.le_of_ble_eq_true rfl, Nat.le_of_ble_eq_true rfl⟩ dX5_isSo_13 (fun H locs hP hD hS => ?_)
        refine W.widen (k := 0) (n := 0) (Nat.le_refl _) (Nat.le_refl _) ?_
        obtain ⟨b_3, eb_3⟩ : ∃ z : ob_B, z = ob_A b 14 f_2 := ⟨_, rfl⟩
        replace hd := ob_lx eb_3 hd
        replace hP : va_P (dC, dI) vwCl (ob_w5 o_b a_b cI cZ b_3) H := by rw [eb_3]; exact hP
        replace hD : va_D A (ob_w5 o_b a_b cI cZ b_3) := by rw [eb_3]; exact hD
        clear eb_3
        refine lv_pop hx hb dX5_isSo_16 rfl ?_
        refine lv_iload_n hx hb dX5_isSo_17 rfl (lv_at hl 2 rfl) ?_
        refine lv_if_eq (tgt := 40) hx hb dX5_isSo_18 (by decide) (fun c_18 => ?_) (fun c_18 => ?_)
        · replace hd := ob_t c_18 hd
          refine lv_iconst (v := 0) hx hb dX5_isSo_40 (by decide) ?_
          refine lv_istore_n (lv' := [(2, .int 0), (0, .ref o_b), (1, .int x1), (3, .int z3)]) hx hb dX5_isSo_41 rfl hl (by decide) rfl (fun ls hl => ?_)
          obtain ⟨x_4, ex_4⟩ : ∃ z : Int32, z = z3 + 1 := ⟨_, rfl⟩
          replace hd := ob_lx ex_4 hd
          refine lv_iinc (v := x_4) (lv' := [(3, .int x_4), (2, .int 0), (0, .ref o_b), (1, .int x1)]) hx hb dX5_isSo_42 hl (k := 3) rfl (by rw [ex_4]; rfl) (by decide) rfl (fun ls hl => ?_)
          clear ex_4
          refine lv_goto (tgt := 4) hx hb dX5_isSo_45 (by decide) ?_
          exact ih _ _ b_3 0 x_4 _ hP hD hS (lv_sub hl [2, 3, 1, 0] rfl) hd
        · replace hd := ob_f c_18 hd
          refine lv_aload_n hx hb dX5_isSo_21 rfl (lv_at hl 0 rfl) ?_
          refine va_get (D := (dC, dI)) (ci := 5) (v := .ref (a_b 14)) (C := RX5) (T := TX5) (N := 23) hx hb hts hi_X5 hown hK hP 0 rfl rfl 14 (by decide) kw0 (fun _ h9 => h9) rfl dX5_isSo_22 ?_
          refine lv_iconst (v := 0) hx hb dX5_isSo_25 (by decide) ?_
          refine va_iald hx hb hK hP 7 0 rfl rfl (by unfold vp_in; decide) dX5_isSo_26 ?_
          refine lv_aload_n hx hb dX5_isSo_27 rfl (lv_at hl 0 rfl) ?_
          refine va_get (D := (dC, dI)) (ci := 5) (v := .ref (a_b 21)) (C := RX5) (T := TX5) (N := 23) hx hb hts hi_X5 hown hK hP 0 rfl rfl 21 (by decide) kw1 (fun _ h9 => h9) rfl dX5_isSo_28 ?_
          refine lv_iload_n hx hb dX5_isSo_31 rfl (lv_at hl 3 rfl) ?_
          obtain ⟨h1_32, hd⟩ := ob_nn hd
          refine va_iald hx hb hK hP 12 0 rfl rfl h1_32 dX5_isSo_32 ?_
          refine lv_icmp_ne (tgt := 40) hx hb dX5_isSo_33 (by decide) (fun c_33 => ?_) (fun c_33 => ?_)
          · replace hd := ob_f c_33 hd
            refine lv_iconst (v := 0) hx hb dX5_isSo_40 (by decide) ?_
            refine lv_istore_n (lv' := [(2, .int 0), (0, .ref o_b), (1, .int x1), (3, .int z3)]) hx hb dX5_isSo_41 rfl hl (by decide) rfl (fun ls hl => ?_)
            obtain ⟨x_5, ex_5⟩ : ∃ z : Int32, z = z3 + 1 := ⟨_, rfl⟩
            replace hd := ob_lx ex_5 hd
            refine lv_iinc (v := x_5) (lv' := [(3, .int x_5), (2, .int 0), (0, .ref o_b), (1, .int x1)]) hx hb dX5_isSo_42 hl (k := 3) rfl (by rw [ex_5]; rfl) (by decide) rfl (fun ls hl => ?_)
            clear ex_5
            refine lv_goto (tgt := 4) hx hb dX5_isSo_45 (by decide) ?_
            exact ih _ _ b_3 0 x_5 _ hP hD hS (lv_sub hl [2, 3, 1, 0] rfl) hd
          · replace hd := ob_t c_33 hd
            refine lv_iconst (v := 1) hx hb dX5_isSo_36 (by decide) ?_
            refine lv_goto (tgt := 41) hx hb dX5_isSo_37 (by decide) ?_
            refine lv_istore_n (lv' := [(2, .int 1), (0, .ref o_b), (1, .int x1), (3, .int z3)]) hx hb dX5_isSo_41 rfl hl (by decide) rfl (fun ls hl => ?_)
            obtain ⟨x_6, ex_6⟩ : ∃ z : Int32, z = z3 + 1 := ⟨_, rfl⟩
            replace hd := ob_lx ex_6 hd
            refine lv_iinc (v := x_6) (lv' := [(3, .int x_6), (2, .int 1), (0, .ref o_b), (1, .int x1)]) hx hb dX5_isSo_42 hl (k := 3) rfl (by rw [ex_6]; rfl) (by decide) rfl (fun ls hl => ?_)
            clear ex_6
            refine lv_goto (tgt := 4) hx hb dX5_isSo_45 (by decide) ?_
            exact ih _ _ b_3 1 x_6 _ hP hD hS (lv_sub hl [2, 3, 1, 0] rfl) hd
  refine lv_iconst (v := 1) hx hb dX5_isSo_0 (by decide) ?_
  refine lv_istore_n (lv' := [(2, .int 1), (0, .ref o_b), (1, .int x1)]) hx hb dX5_isSo_1 rfl hl (by decide) rfl (fun ls hl => ?_)
  refine lv_iconst (v := 0) hx hb dX5_isSo_2 (by decide) ?_
  refine lv_istore_n (lv' := [(3, .int 0), (2, .int 1), (0, .ref o_b), (1, .int x1)]) hx hb dX5_isSo_3 rfl hl (by decide) rfl (fun ls hl => ?_)
  exact L4  2000 _ _ b 1 0 _ hP hD hS (lv_sub hl [2, 3, 1, 0] rfl) hd

def fd_X5_broke_L130  (b : ob_B) (z5 : Int32) : Option (Int32 × ob_B) := ob_b2 (fd_X5_done b z5) (fun r_17 b_18 => some (r_17, b_18))
def fd_X5_broke_L71  : Nat → ob_B → Int32 → Int32 → Int32 → Option (Int32 × ob_B)
  | 0, _, _, _, _ => none
  | fu + 1, b, x3, z5, z6 => if ((b.2 12) (Int32.toNatClampNeg 2)) ≤ z6 then (fd_X5_broke_L130 b z5) else (if (35 + z6) < 0 ∨ 42 ≤ Int32.toNatClampNeg (35 + z6) then none else (if ((b.2 12) (Int32.toNatClampNeg (35 + z6))) = 0 then (ob_b1 (fd_X5_beginBut b (1 <<< (z6 &&& 31))) (fun b_10 => ob_b2 (fd_X5_isSo b_10 x3) (fun r_11 b_12 => if r_11 = 0 then (ob_lt (z5 ||| 0 : Int32) (fun x_13 => ob_lt (z6 + 1 : Int32) (fun x_14 => fd_X5_broke_L71 fu b_12 x3 x_13 x_14))) else (ob_lt (z5 ||| (1 <<< (z6 &&& 31)) : Int32) (fun x_15 => ob_lt (z6 + 1 : Int32) (fun x_16 => fd_X5_broke_L71 fu b_12 x3 x_15 x_16)))))) else (ob_lt (z6 + 1 : Int32) (fun x_9 => fd_X5_broke_L71 fu b x3 z5 x_9))))
def fd_X5_broke  (b : ob_B) (x1 : Int32) (x2 : Int32) (x3 : Int32) : Option (Int32 × ob_B) := ob_b1 (fd_X5_isRoute b) (fun r_1 => if r_1 = 0 then (some ((-1000002), b)) else (ob_b1 (fd_X5_isRow x1) (fun r_2 => if r_2 = 0 then (some ((-1000001), b)) else (ob_b1 (fd_X5_in x3 1 12) (fun r_3 => if r_3 = 0 then (some ((-1000001), b)) else (ob_b2 (fd_X5_takeOut b x1 x2 x3) (fun r_4 b_5 => if 0 ≤ r_4 then (ob_b1 (fd_X5_begin b_5) (fun b_6 => ob_b2 (fd_X5_isSo b_6 x3) (fun r_7 b_8 => if r_7 = 0 then (fd_X5_broke_L71 2000 b_8 x3 0 0) else (fd_X5_broke_L71 2000 b_8 x3 128 0)))) else (some (r_4, b_5)))))))))
set_option maxHeartbeats 4000000 in
set_option maxRecDepth 100000 in
theorem mt_X5_broke (l : Launch) (dC : Nat → ClassId) (dI : Nat → Nat → Nat) (cI cZ cR cW : ClassId) (xs : Nat → Nat) (sz : Nat) (o_b : Nat) (a_b : Nat → Nat) (b : ob_B) (x1 : Int32) (x2 : Int32) (x3 : Int32)  (rr : Int32) (b' : ob_B) (hd : fd_X5_broke b x1 x2 x3 = some (rr, b')) : ob_M l yX5_broke wsX5_broke ({ frames := 5, cells := 0, slots := 0, locals := 115 } : Room) (dC, dI) (ob_ty cI cZ cR cW) xs [.ref o_b, .int x1, .int x2, .int x3] (ob_w5 o_b a_b cI cZ b) sz (ob_Qi (dC, dI) rr (ob_w5 o_b a_b cI cZ b')) := by
  rw [fd_X5_broke] at hd
  refine ob_in (cc := cX5_broke) (maxL := 7) (ret := (some .int)) (own := RX5) (by decide) rfl rfl [(0, .ref o_b), (1, .int x1), (2, .int x2), (3, .int x3)] rfl (Nat.le_of_ble_eq_true rfl) ?_
  intro p e s m below meth c hx hb hr hml hown hts hlocks hnm hK A hA hE hP hD hS ls hl
  have kw0 := hts (.constant RX5 63 (-1000001)) (by decide +kernel)
  have kw1 := hts (.constant RX5 130 (-1000002)) (by decide +kernel)
  have kw2 := hts (.fieldLink RX5 22 "OathCoachModel" "now" "[I") (by decide +kernel)
  have hi_X5 : ∀ w ∈ u_ws RX5 TX5 23, w ∈ wsX5_broke := by decide +kernel
  have L130 : ∀ (H : Heap) (locs : List Loc) (b : ob_B) (z5 : Int32) (ls : Array Slot), va_P (dC, dI) vwCl (ob_w5 o_b a_b cI cZ b) H → va_D A (ob_w5 o_b a_b cI cZ b) → va_S A s.heap H locs → lv_has ls 7 [(0, .ref o_b), (5, .int z5)] → fd_X5_broke_L130 b z5 = some (rr, b') → W p l e ({ frames := 5, cells := 0, slots := 0, locals := 115 } : Room) s m (List.toArray [.ref o_b, .int x1, .int x2, .int x3]) below meth c H locs 0 0 (MQ below ((ob_Qi (dC, dI) rr (ob_w5 o_b a_b cI cZ b')) A) (List.toArray [.ref o_b, .int x1, .int x2, .int x3]) s 0 0 A) (F0 m 130 ls []) := by
    intro  H locs b z5 ls hP hD hS hl hd
    rw [fd_X5_broke_L130] at hd
    refine lv_aload_n hx hb dX5_broke_130 rfl (lv_at hl 0 rfl) ?_
    refine lv_iload hx hb dX5_broke_131 (lv_at hl 1 rfl) ?_
    obtain ⟨r_17, b_18, hc_133, hd⟩ := ob_s2 hd
    refine ob_Vi (isC := [0, 1, 2, 3, 4, 5, 6, 7, 8, 9, 10, 11, 12, 13]) (isR := []) (is2 := [0, 1, 2, 3, 4, 5, 6, 7, 8, 9, 10, 11, 12, 13]) (wc := (ob_w5 o_b a_b cI cZ b)) (wr := ([] : va_W)) (w1 := (ob_w5 o_b a_b cI cZ b_18)) (w2 := (ob_w5 o_b a_b cI cZ b_18)) (b := o_b) (As := [.int z5]) (rest := []) ⟨hx, hb, hml, hown, hts⟩ (mt_X5_done l dC dI cI cZ cR cW xs _ o_b a_b b z5 r_17 b_18 hc_133) (cwV 1 hts gX5_broke_X5_done rfl rfl rfl (by decide +kernel) ⟨Nat.le_of_ble_eq_true rfl, Nat.le_of_ble_eq_true rfl⟩) hK hE hP hD hS hA ⟨rfl, rfl, rfl, rfl, rfl, rfl, rfl⟩ 5 0 rfl rfl rfl hl rfl rfl (Nat.le_of_ble_eq_true rfl) ⟨Nat.le_of_ble_eq_true rfl, Nat.le_of_ble_eq_true rfl⟩ dX5_broke_133 (fun H locs hP hD hS => ?_)
    refine W.widen (k := 0) (n := 0) (Nat.le_refl _) (Nat.le_refl _) ?_
    obtain ⟨e1, e2⟩ := ob_pp hd
    subst e1
    subst e2
    exact ob_iret hx hb hr hlocks hP hD hS dX5_broke_136
  have L71 : ∀  (fu : Nat), ∀ (H : Heap) (locs : List Loc) (b : ob_B) (z5 : Int32) (z6 : Int32) (ls : Array Slot), va_P (dC, dI) vwCl (ob_w5 o_b a_b cI cZ b) H → va_D A (ob_w5 o_b a_b cI cZ b) → va_S A s.heap H locs → lv_has ls 7 [(0, .ref o_b), (3, .int x3), (5, .int z5), (6, .int z6)] → fd_X5_broke_L71 fu b x3 z5 z6 = some (rr, b') → W p l e ({ frames := 5, cells := 0, slots := 0, locals := 115 } : Room) s m (List.toArray [.ref o_b, .int x1, .int x2, .int x3]) below meth c H locs 0 0 (MQ below ((ob_Qi (dC, dI) rr (ob_w5 o_b a_b cI cZ b')) A) (List.toArray [.ref o_b, .int x1, .int x2, .int x3]) s 0 0 A) (F0 m 71 ls []) := by
    intro  fu
    induction fu with
    | zero =>
      intro H locs b z5 z6 ls hP hD hS hl hd
      rw [fd_X5_broke_L71] at hd
      cases hd
    | succ fu ih =>
      intro H locs b z5 z6 ls hP hD hS hl hd
      rw [fd_X5_broke_L71] at hd
      refine lv_iload hx hb dX5_broke_71 (lv_at hl 3 rfl) ?_
      refine lv_aload_n hx hb dX5_broke_73 rfl (lv_at hl 0 rfl) ?_
      refine va_get (D := (dC, dI)) (ci := 5) (v := .ref (a_b 12)) (C := RX5) (T := TX5) (N := 23) hx hb hts hi_X5 hown hK hP 0 rfl rfl 12 (by decide) kw2 (fun _ h9 => h9) rfl dX5_broke_74 ?_
      refine lv_iconst (v := 2) hx hb dX5_broke_77 (by decide) ?_
      refine va_iald hx hb hK hP 5 0 rfl rfl (by unfold vp_in; decide) dX5_broke_78 ?_
      refine lv_icmp_ge (tgt := 130) hx hb dX5_broke_79 (by decide) (fun c_79 => ?_) (fun c_79 => ?_)
      · replace hd := ob_t c_79 hd
        exact L130   _ _ b z5 _ hP hD hS (lv_sub hl [0, 2] rfl) hd
      · replace hd := ob_f c_79 hd
        refine lv_aload_n hx hb dX5_broke_82 rfl (lv_at hl 0 rfl) ?_
        refine va_get (D := (dC, dI)) (ci := 5) (v := .ref (a_b 12)) (C := RX5) (T := TX5) (N := 23) hx hb hts hi_X5 hown hK hP 0 rfl rfl 12 (by decide) kw2 (fun _ h9 => h9) rfl dX5_broke_83 ?_
        refine lv_bipush (v := 35) hx hb dX5_broke_86 (by decide) ?_
        refine lv_iload hx hb dX5_broke_88 (lv_at hl 3 rfl) ?_
        refine lv_iadd hx hb dX5_broke_90 ?_
        obtain ⟨h1_91, hd⟩ := ob_nn hd
        refine va_iald hx hb hK hP 5 0 rfl rfl h1_91 dX5_broke_91 ?_
        refine lv_if_ne (tgt := 124) hx hb dX5_broke_92 (by decide) (fun c_92 => ?_) (fun c_92 => ?_)
        · replace hd := ob_f c_92 hd
          obtain ⟨x_9, ex_9⟩ : ∃ z : Int32, z = z6 + 1 := ⟨_, rfl⟩
          replace hd := ob_lx ex_9 hd
          refine lv_iinc (v := x_9) (lv' := [(6, .int x_9), (0, .ref o_b), (3, .int x3), (5, .int z5)]) hx hb dX5_broke_124 hl (k := 3) rfl (by rw [ex_9]; rfl) (by decide) rfl (fun ls hl => ?_)
          clear ex_9
          refine lv_goto (tgt := 71) hx hb dX5_broke_127 (by decide) ?_
          exact ih _ _ b z5 x_9 _ hP hD hS (lv_sub hl [1, 2, 3, 0] rfl) hd
        · replace hd := ob_t c_92 hd
          refine lv_aload_n hx hb dX5_broke_95 rfl (lv_at hl 0 rfl) ?_
          refine lv_iconst (v := 1) hx hb dX5_broke_96 (by decide) ?_
          refine lv_iload hx hb dX5_broke_97 (lv_at hl 3 rfl) ?_
          refine lv_ishl hx hb dX5_broke_99 ?_
          obtain ⟨b_10, hc_100, hd⟩ := ob_s1 hd
          refine ob_Vv (isC := [0, 1, 2, 3, 4, 5, 6, 7, 8, 9, 10, 11, 12, 13]) (isR := []) (is2 := [0, 1, 2, 3, 4, 5, 6, 7, 8, 9, 10, 11, 12, 13]) (wc := (ob_w5 o_b a_b cI cZ b)) (wr := ([] : va_W)) (w1 := (ob_w5 o_b a_b cI cZ b_10)) (w2 := (ob_w5 o_b a_b cI cZ b_10)) (b := o_b) (As := [.int (1 <<< (z6 &&& 31))]) (rest := []) ⟨hx, hb, hml, hown, hts⟩ (mt_X5_beginBut l dC dI cI cZ cR cW xs _ o_b a_b b (1 <<< (z6 &&& 31)) b_10 hc_100) (cwV 1 hts gX5_broke_X5_beginBut rfl rfl rfl (by decide +kernel) ⟨Nat.le_of_ble_eq_true rfl, Nat.le_of_ble_eq_true rfl⟩) hK hE hP hD hS hA ⟨rfl, rfl, rfl, rfl, rfl, rfl, rfl⟩ 5 0 rfl rfl rfl hl rfl rfl (Nat.le_of_ble_eq_true rfl) ⟨Nat.le_of_ble_eq_true rfl, Nat.le_of_ble_eq_true rfl⟩ dX5_broke_100 (fun H locs hP hD hS => ?_)
          refine W.widen (k := 0) (n := 0) (Nat.le_refl _) (Nat.le_refl _) ?_
          refine lv_iload hx hb dX5_broke_103 (lv_at hl 2 rfl) ?_
          refine lv_aload_n hx hb dX5_broke_105 rfl (lv_at hl 0 rfl) ?_
          refine lv_iload_n hx hb dX5_broke_106 rfl (lv_at hl 1 rfl) ?_
          obtain ⟨r_11, b_12, hc_107, hd⟩ := ob_s2 hd
          refine ob_Vi (isC := [0, 1, 2, 3, 4, 5, 6, 7, 8, 9, 10, 11, 12, 13]) (isR := []) (is2 := [0, 1, 2, 3, 4, 5, 6, 7, 8, 9, 10, 11, 12, 13]) (wc := (ob_w5 o_b a_b cI cZ b_10)) (wr := ([] : va_W)) (w1 := (ob_w5 o_b a_b cI cZ b_12)) (w2 := (ob_w5 o_b a_b cI cZ b_12)) (b := o_b) (As := [.int x3]) (rest := [.int z5]) ⟨hx, hb, hml, hown, hts⟩ (mt_X5_isSo l dC dI cI cZ cR cW xs _ o_b a_b b_10 x3 r_11 b_12 hc_107) (cwV 1 hts gX5_broke_X5_isSo rfl rfl rfl (by decide +kernel) ⟨Nat.le_of_ble_eq_true rfl, Nat.le_of_ble_eq_true rfl⟩) hK hE hP hD hS hA ⟨rfl, rfl, rfl, rfl, rfl, rfl, rfl⟩ 5 0 rfl rfl rfl hl rfl rfl (Nat.le_of_ble_eq_true rfl) ⟨Nat.le_of_ble_eq_true rfl, Nat.le_of_ble_eq_true rfl⟩ dX5_broke_107 (fun H locs hP hD hS => ?_)
          refine W.widen (k := 0) (n := 0) (Nat.le_refl _) (Nat.le_refl _) ?_
          refine lv_if_eq (tgt := 120) hx hb dX5_broke_110 (by decide) (fun c_110 => ?_) (fun c_110 => ?_)
          · replace hd := ob_t c_110 hd
            refine lv_iconst (v := 0) hx hb dX5_broke_120 (by decide) ?_
            refine lv_ior hx hb dX5_broke_121 ?_
            refine lv_topi (fun x_13 ex_13 => ?_)
            replace hd := ob_lx ex_13 hd
            clear ex_13
            refine lv_istore (lv' := [(5, .int x_13), (0, .ref o_b), (3, .int x3), (6, .int z6)]) hx hb dX5_broke_122 hl (by decide) rfl (fun ls hl => ?_)
            obtain ⟨x_14, ex_14⟩ : ∃ z : Int32, z = z6 + 1 := ⟨_, rfl⟩
            replace hd := ob_lx ex_14 hd
            refine lv_iinc (v := x_14) (lv' := [(6, .int x_14), (5, .int x_13), (0, .ref o_b), (3, .int x3)]) hx hb dX5_broke_124 hl (k := 3) rfl (by rw [ex_14]; rfl) (by decide) rfl (fun ls hl => ?_)
            clear ex_14
            refine lv_goto (tgt := 71) hx hb dX5_broke_127 (by decide) ?_
            exact ih _ _ b_12 x_13 x_14 _ hP hD hS (lv_sub hl [2, 3, 1, 0] rfl) hd
          · replace hd := ob_f c_110 hd
            refine lv_iconst (v := 1) hx hb dX5_broke_113 (by decide) ?_
            refine lv_iload hx hb dX5_broke_114 (lv_at hl 3 rfl) ?_
            refine lv_ishl hx hb dX5_broke_116 ?_
            refine lv_goto (tgt := 121) hx hb dX5_broke_117 (by decide) ?_
            refine lv_ior hx hb dX5_broke_121 ?_
            refine lv_topi (fun x_15 ex_15 => ?_)
            replace hd := ob_lx ex_15 hd
            clear ex_15
            refine lv_istore (lv' := [(5, .int x_15), (0, .ref o_b), (3, .int x3), (6, .int z6)]) hx hb dX5_broke_122 hl (by decide) rfl (fun ls hl => ?_)
            obtain ⟨x_16, ex_16⟩ : ∃ z : Int32, z = z6 + 1 := ⟨_, rfl⟩
            replace hd := ob_lx ex_16 hd
            refine lv_iinc (v := x_16) (lv' := [(6, .int x_16), (5, .int x_15), (0, .ref o_b), (3, .int x3)]) hx hb dX5_broke_124 hl (k := 3) rfl (by rw [ex_16]; rfl) (by decide) rfl (fun ls hl => ?_)
            clear ex_16
            refine lv_goto (tgt := 71) hx hb dX5_broke_127 (by decide) ?_
            exact ih _ _ b_12 x_15 x_16 _ hP hD hS (lv_sub hl [2, 3, 1, 0] rfl) hd
  refine lv_aload_n hx hb dX5_broke_0 rfl (lv_at hl 0 rfl) ?_
  obtain ⟨r_1, hc_1, hd⟩ := ob_s1 hd
  refine ob_Vi (isC := [0, 1, 2, 3, 4, 5, 6, 7, 8, 9, 10, 11, 12, 13]) (isR := []) (is2 := [0, 1, 2, 3, 4, 5, 6, 7, 8, 9, 10, 11, 12, 13]) (wc := (ob_w5 o_b a_b cI cZ b)) (wr := ([] : va_W)) (w1 := (ob_w5 o_b a_b cI cZ b)) (w2 := (ob_w5 o_b a_b cI cZ b)) (b := o_b) (As := []) (rest := []) ⟨hx, hb, hml, hown, hts⟩ (mt_X5_isRoute l dC dI cI cZ cR cW xs _ o_b a_b b r_1 hc_1) (cwV 0 hts gX5_broke_X5_isRoute rfl rfl rfl (by decide +kernel) ⟨Nat.le_of_ble_eq_true rfl, Nat.le_of_ble_eq_true rfl⟩) hK hE hP hD hS hA ⟨rfl, rfl, rfl, rfl, rfl, rfl, rfl⟩ 5 0 rfl rfl rfl hl rfl rfl (Nat.le_of_ble_eq_true rfl) ⟨Nat.le_of_ble_eq_true rfl, Nat.le_of_ble_eq_true rfl⟩ dX5_broke_1 (fun H locs hP hD hS => ?_)
  refine W.widen (k := 0) (n := 0) (Nat.le_refl _) (Nat.le_refl _) ?_
  refine lv_if_ne (tgt := 10) hx hb dX5_broke_4 (by decide) (fun c_4 => ?_) (fun c_4 => ?_)
  · replace hd := ob_f c_4 hd
    refine lv_iload_n hx hb dX5_broke_10 rfl (lv_at hl 1 rfl) ?_
    obtain ⟨r_2, hc_11, hd⟩ := ob_s1 hd
    refine ob_Si (isC := []) (isR := [0, 1, 2, 3, 4, 5, 6, 7, 8, 9, 10, 11, 12, 13]) (is2 := [0, 1, 2, 3, 4, 5, 6, 7, 8, 9, 10, 11, 12, 13]) (wc := ([] : va_W)) (wr := (List.filterMap (fun i => (ob_w5 o_b a_b cI cZ b)[i]?) [0, 1, 2, 3, 4, 5, 6, 7, 8, 9, 10, 11, 12, 13])) (w1 := ([] : va_W)) (w2 := (ob_w5 o_b a_b cI cZ b)) (As := [.int x1]) (rest := []) ⟨hx, hb, hml, hown, hts⟩ (mt_X5_isRow l dC dI cI cZ cR cW xs _ x1 r_2 hc_11) (va_cwS 1 hts gX5_broke_X5_isRow rfl rfl rfl (by decide +kernel) ⟨Nat.le_of_ble_eq_true rfl, Nat.le_of_ble_eq_true rfl⟩) hK hE hP hD hS hA ⟨rfl, rfl, rfl, rfl, rfl, rfl, rfl⟩ hl rfl rfl (Nat.le_of_ble_eq_true rfl) ⟨Nat.le_of_ble_eq_true rfl, Nat.le_of_ble_eq_true rfl⟩ dX5_broke_11 (fun H locs hP hD hS => ?_)
    refine W.widen (k := 0) (n := 0) (Nat.le_refl _) (Nat.le_refl _) ?_
    refine lv_if_eq (tgt := 27) hx hb dX5_broke_14 (by decide) (fun c_14 => ?_) (fun c_14 => ?_)
    · replace hd := ob_t c_14 hd
      refine lv_ldc hx hb hown kw0 dX5_broke_27 ?_
      obtain ⟨e1, e2⟩ := ob_pp hd
      subst e1
      subst e2
      exact ob_iret hx hb hr hlocks hP hD hS dX5_broke_29
    · replace hd := ob_f c_14 hd
      refine lv_iload_n hx hb dX5_broke_17 rfl (lv_at hl 3 rfl) ?_
      refine lv_iconst (v := 1) hx hb dX5_broke_18 (by decide) ?_
      refine lv_bipush (v := 12) hx hb dX5_broke_19 (by decide) ?_
      obtain ⟨r_3, hc_21, hd⟩ := ob_s1 hd
      refine ob_Si (isC := []) (isR := [0, 1, 2, 3, 4, 5, 6, 7, 8, 9, 10, 11, 12, 13]) (is2 := [0, 1, 2, 3, 4, 5, 6, 7, 8, 9, 10, 11, 12, 13]) (wc := ([] : va_W)) (wr := (List.filterMap (fun i => (ob_w5 o_b a_b cI cZ b)[i]?) [0, 1, 2, 3, 4, 5, 6, 7, 8, 9, 10, 11, 12, 13])) (w1 := ([] : va_W)) (w2 := (ob_w5 o_b a_b cI cZ b)) (As := [.int x3, .int 1, .int 12]) (rest := []) ⟨hx, hb, hml, hown, hts⟩ (mt_X5_in l dC dI cI cZ cR cW xs _ x3 1 12 r_3 hc_21) (va_cwS 3 hts gX5_broke_X5_in rfl rfl rfl (by decide +kernel) ⟨Nat.le_of_ble_eq_true rfl, Nat.le_of_ble_eq_true rfl⟩) hK hE hP hD hS hA ⟨rfl, rfl, rfl, rfl, rfl, rfl, rfl⟩ hl rfl rfl (Nat.le_of_ble_eq_true rfl) ⟨Nat.le_of_ble_eq_true rfl, Nat.le_of_ble_eq_true rfl⟩ dX5_broke_21 (fun H locs hP hD hS => ?_)
      refine W.widen (k := 0) (n := 0) (Nat.le_refl _) (Nat.le_refl _) ?_
      refine lv_if_ne (tgt := 30) hx hb dX5_broke_24 (by decide) (fun c_24 => ?_) (fun c_24 => ?_)
      · replace hd := ob_f c_24 hd
        refine lv_aload_n hx hb dX5_broke_30 rfl (lv_at hl 0 rfl) ?_
        refine lv_iload_n hx hb dX5_broke_31 rfl (lv_at hl 1 rfl) ?_
        refine lv_iload_n hx hb dX5_broke_32 rfl (lv_at hl 2 rfl) ?_
        refine lv_iload_n hx hb dX5_broke_33 rfl (lv_at hl 3 rfl) ?_
        obtain ⟨r_4, b_5, hc_34, hd⟩ := ob_s2 hd
        refine ob_Vi (isC := [0, 1, 2, 3, 4, 5, 6, 7, 8, 9, 10, 11, 12, 13]) (isR := []) (is2 := [0, 1, 2, 3, 4, 5, 6, 7, 8, 9, 10, 11, 12, 13]) (wc := (ob_w5 o_b a_b cI cZ b)) (wr := ([] : va_W)) (w1 := (ob_w5 o_b a_b cI cZ b_5)) (w2 := (ob_w5 o_b a_b cI cZ b_5)) (b := o_b) (As := [.int x1, .int x2, .int x3]) (rest := []) ⟨hx, hb, hml, hown, hts⟩ (mt_X5_takeOut l dC dI cI cZ cR cW xs _ o_b a_b b x1 x2 x3 r_4 b_5 hc_34) (cwV 3 hts gX5_broke_X5_takeOut rfl rfl rfl (by decide +kernel) ⟨Nat.le_of_ble_eq_true rfl, Nat.le_of_ble_eq_true rfl⟩) hK hE hP hD hS hA ⟨rfl, rfl, rfl, rfl, rfl, rfl, rfl⟩ 5 0 rfl rfl rfl hl rfl rfl (Nat.le_of_ble_eq_true rfl) ⟨Nat.le_of_ble_eq_true rfl, Nat.le_of_ble_eq_true rfl⟩ dX5_broke_34 (fun H locs hP hD hS => ?_)
        refine W.widen (k := 0) (n := 0) (Nat.le_refl _) (Nat.le_refl _) ?_
        refine lv_istore (lv' := [(4, .int r_4), (0, .ref o_b), (1, .int x1), (2, .int x2), (3, .int x3)]) hx hb dX5_broke_37 hl (by decide) rfl (fun ls hl => ?_)
        refine lv_iload hx hb dX5_broke_39 (lv_at hl 0 rfl) ?_
        refine lv_if_ge (tgt := 47) hx hb dX5_broke_41 (by decide) (fun c_41 => ?_) (fun c_41 => ?_)
        · replace hd := ob_t c_41 hd
          refine lv_aload_n hx hb dX5_broke_47 rfl (lv_at hl 1 rfl) ?_
          obtain ⟨b_6, hc_48, hd⟩ := ob_s1 hd
          refine ob_Vv (isC := [0, 1, 2, 3, 4, 5, 6, 7, 8, 9, 10, 11, 12, 13]) (isR := []) (is2 := [0, 1, 2, 3, 4, 5, 6, 7, 8, 9, 10, 11, 12, 13]) (wc := (ob_w5 o_b a_b cI cZ b_5)) (wr := ([] : va_W)) (w1 := (ob_w5 o_b a_b cI cZ b_6)) (w2 := (ob_w5 o_b a_b cI cZ b_6)) (b := o_b) (As := []) (rest := []) ⟨hx, hb, hml, hown, hts⟩ (mt_X5_begin l dC dI cI cZ cR cW xs _ o_b a_b b_5 b_6 hc_48) (cwV 0 hts gX5_broke_X5_begin rfl rfl rfl (by decide +kernel) ⟨Nat.le_of_ble_eq_true rfl, Nat.le_of_ble_eq_true rfl⟩) hK hE hP hD hS hA ⟨rfl, rfl, rfl, rfl, rfl, rfl, rfl⟩ 5 0 rfl rfl rfl hl rfl rfl (Nat.le_of_ble_eq_true rfl) ⟨Nat.le_of_ble_eq_true rfl, Nat.le_of_ble_eq_true rfl⟩ dX5_broke_48 (fun H locs hP hD hS => ?_)
          refine W.widen (k := 0) (n := 0) (Nat.le_refl _) (Nat.le_refl _) ?_
          refine lv_aload_n hx hb dX5_broke_51 rfl (lv_at hl 1 rfl) ?_
          refine lv_iload_n hx hb dX5_broke_52 rfl (lv_at hl 4 rfl) ?_
          obtain ⟨r_7, b_8, hc_53, hd⟩ := ob_s2 hd
          refine ob_Vi (isC := [0, 1, 2, 3, 4, 5, 6, 7, 8, 9, 10, 11, 12, 13]) (isR := []) (is2 := [0, 1, 2, 3, 4, 5, 6, 7, 8, 9, 10, 11, 12, 13]) (wc := (ob_w5 o_b a_b cI cZ b_6)) (wr := ([] : va_W)) (w1 := (ob_w5 o_b a_b cI cZ b_8)) (w2 := (ob_w5 o_b a_b cI cZ b_8)) (b := o_b) (As := [.int x3]) (rest := []) ⟨hx, hb, hml, hown, hts⟩ (mt_X5_isSo l dC dI cI cZ cR cW xs _ o_b a_b b_6 x3 r_7 b_8 hc_53) (cwV 1 hts gX5_broke_X5_isSo rfl rfl rfl (by decide +kernel) ⟨Nat.le_of_ble_eq_true rfl, Nat.le_of_ble_eq_true rfl⟩) hK hE hP hD hS hA ⟨rfl, rfl, rfl, rfl, rfl, rfl, rfl⟩ 5 0 rfl rfl rfl hl rfl rfl (Nat.le_of_ble_eq_true rfl) ⟨Nat.le_of_ble_eq_true rfl, Nat.le_of_ble_eq_true rfl⟩ dX5_broke_53 (fun H locs hP hD hS => ?_)
          refine W.widen (k := 0) (n := 0) (Nat.le_refl _) (Nat.le_refl _) ?_
          refine lv_if_eq (tgt := 65) hx hb dX5_broke_56 (by decide) (fun c_56 => ?_) (fun c_56 => ?_)
          · replace hd := ob_t c_56 hd
            refine lv_iconst (v := 0) hx hb dX5_broke_65 (by decide) ?_
            refine lv_istore (lv' := [(5, .int 0), (4, .int r_4), (0, .ref o_b), (1, .int x1), (2, .int x2), (3, .int x3)]) hx hb dX5_broke_66 hl (by decide) rfl (fun ls hl => ?_)
            refine lv_iconst (v := 0) hx hb dX5_broke_68 (by decide) ?_
            refine lv_istore (lv' := [(6, .int 0), (5, .int 0), (4, .int r_4), (0, .ref o_b), (1, .int x1), (2, .int x2), (3, .int x3)]) hx hb dX5_broke_69 hl (by decide) rfl (fun ls hl => ?_)
            exact L71  2000 _ _ b_8 0 0 _ hP hD hS (lv_sub hl [3, 6, 1, 0] rfl) hd
          · replace hd := ob_f c_56 hd
            refine lv_sipush (v := 128) hx hb dX5_broke_59 (by decide) ?_
            refine lv_goto (tgt := 66) hx hb dX5_broke_62 (by decide) ?_
            refine lv_istore (lv' := [(5, .int 128), (4, .int r_4), (0, .ref o_b), (1, .int x1), (2, .int x2), (3, .int x3)]) hx hb dX5_broke_66 hl (by decide) rfl (fun ls hl => ?_)
            refine lv_iconst (v := 0) hx hb dX5_broke_68 (by decide) ?_
            refine lv_istore (lv' := [(6, .int 0), (5, .int 128), (4, .int r_4), (0, .ref o_b), (1, .int x1), (2, .int x2), (3, .int x3)]) hx hb dX5_broke_69 hl (by decide) rfl (fun ls hl => ?_)
            exact L71  2000 _ _ b_8 128 0 _ hP hD hS (lv_sub hl [3, 6, 1, 0] rfl) hd
        · replace hd := ob_f c_41 hd
          refine lv_iload hx hb dX5_broke_44 (lv_at hl 0 rfl) ?_
          obtain ⟨e1, e2⟩ := ob_pp hd
          subst e1
          subst e2
          exact ob_iret hx hb hr hlocks hP hD hS dX5_broke_46
      · replace hd := ob_t c_24 hd
        refine lv_ldc hx hb hown kw0 dX5_broke_27 ?_
        obtain ⟨e1, e2⟩ := ob_pp hd
        subst e1
        subst e2
        exact ob_iret hx hb hr hlocks hP hD hS dX5_broke_29
  · replace hd := ob_t c_4 hd
    refine lv_ldc hx hb hown kw1 dX5_broke_7 ?_
    obtain ⟨e1, e2⟩ := ob_pp hd
    subst e1
    subst e2
    exact ob_iret hx hb hr hlocks hP hD hS dX5_broke_9

def fd_X5_sworn_L118  (b : ob_B) (z6 : Int32) : Option (Int32 × ob_B) := ob_b2 (fd_X5_done b z6) (fun r_14 b_15 => some (r_14, b_15))
def fd_X5_sworn_L68  : Nat → ob_B → Int32 → Int32 → Int32 → Int32 → Option (Int32 × ob_B)
  | 0, _, _, _, _, _ => none
  | fu + 1, b, x1, x4, z6, z7 => if 10 ≤ z7 then (fd_X5_sworn_L118 b z6) else (ob_b1 (fd_X5_begin b) (fun b_6 => if (14 + x1) < 0 ∨ 42 ≤ Int32.toNatClampNeg (14 + x1) then none else (ob_lt (ob_A b_6 14 (upd (b_6.2 14) (Int32.toNatClampNeg (14 + x1)) z7) : ob_B) (fun b_7 => ob_b2 (fd_X5_isSo b_7 x4) (fun r_8 b_9 => if r_8 = 0 then (ob_lt (z6 ||| 0 : Int32) (fun x_10 => ob_lt (z7 + 1 : Int32) (fun x_11 => fd_X5_sworn_L68 fu b_9 x1 x4 x_10 x_11))) else (ob_lt (z6 ||| (1 <<< (z7 &&& 31)) : Int32) (fun x_12 => ob_lt (z7 + 1 : Int32) (fun x_13 => fd_X5_sworn_L68 fu b_9 x1 x4 x_12 x_13))))))))
def fd_X5_sworn  (b : ob_B) (x1 : Int32) (x2 : Int32) (x3 : Int32) (x4 : Int32) : Option (Int32 × ob_B) := ob_b1 (fd_X5_isOne b x1) (fun r_1 => if r_1 = 0 then (some ((-1000001), b)) else (ob_b1 (fd_X5_isRow x2) (fun r_2 => if r_2 = 0 then (some ((-1000001), b)) else (ob_b1 (fd_X5_in x4 1 12) (fun r_3 => if r_3 = 0 then (some ((-1000001), b)) else (ob_b2 (fd_X5_takeOut b x2 x3 x4) (fun r_4 b_5 => if 0 ≤ r_4 then (if (35 + x1) < 0 ∨ 42 ≤ Int32.toNatClampNeg (35 + x1) then none else (if ((b_5.2 12) (Int32.toNatClampNeg (35 + x1))) = 0 then (fd_X5_sworn_L68 2000 b_5 x1 x4 0 0) else (some ((-1000002), b_5)))) else (some (r_4, b_5)))))))))
set_option maxHeartbeats 4000000 in
set_option maxRecDepth 100000 in
theorem mt_X5_sworn (l : Launch) (dC : Nat → ClassId) (dI : Nat → Nat → Nat) (cI cZ cR cW : ClassId) (xs : Nat → Nat) (sz : Nat) (o_b : Nat) (a_b : Nat → Nat) (b : ob_B) (x1 : Int32) (x2 : Int32) (x3 : Int32) (x4 : Int32)  (rr : Int32) (b' : ob_B) (hd : fd_X5_sworn b x1 x2 x3 x4 = some (rr, b')) : ob_M l yX5_sworn wsX5_sworn ({ frames := 5, cells := 0, slots := 0, locals := 115 } : Room) (dC, dI) (ob_ty cI cZ cR cW) xs [.ref o_b, .int x1, .int x2, .int x3, .int x4] (ob_w5 o_b a_b cI cZ b) sz (ob_Qi (dC, dI) rr (ob_w5 o_b a_b cI cZ b')) := by
  rw [fd_X5_sworn] at hd
  refine ob_in (cc := cX5_sworn) (maxL := 8) (ret := (some .int)) (own := RX5) (by decide) rfl rfl [(0, .ref o_b), (1, .int x1), (2, .int x2), (3, .int x3), (4, .int x4)] rfl (Nat.le_of_ble_eq_true rfl) ?_
  intro p e s m below meth c hx hb hr hml hown hts hlocks hnm hK A hA hE hP hD hS ls hl
  have kw0 := hts (.constant RX5 63 (-1000001)) (by decide +kernel)
  have kw1 := hts (.fieldLink RX5 22 "OathCoachModel" "now" "[I") (by decide +kernel)
  have kw2 := hts (.constant RX5 130 (-1000002)) (by decide +kernel)
  have kw3 := hts (.fieldLink RX5 28 "OathCoachModel" "tried" "[I") (by decide +kernel)
  have hi_X5 : ∀ w ∈ u_ws RX5 TX5 23, w ∈ wsX5_sworn := by decide +kernel
  have L118 : ∀ (H : Heap) (locs : List Loc) (b : ob_B) (z6 : Int32) (ls : Array Slot), va_P (dC, dI) vwCl (ob_w5 o_b a_b cI cZ b) H → va_D A (ob_w5 o_b a_b cI cZ b) → va_S A s.heap H locs → lv_has ls 8 [(0, .ref o_b), (6, .int z6)] → fd_X5_sworn_L118 b z6 = some (rr, b') → W p l e ({ frames := 5, cells := 0, slots := 0, locals := 115 } : Room) s m (List.toArray [.ref o_b, .int x1, .int x2, .int x3, .int x4]) below meth c H locs 0 0 (MQ below ((ob_Qi (dC, dI) rr (ob_w5 o_b a_b cI cZ b')) A) (List.toArray [.ref o_b, .int x1, .int x2, .int x3, .int x4]) s 0 0 A) (F0 m 118 ls []) := by
    intro  H locs b z6 ls hP hD hS hl hd
    rw [fd_X5_sworn_L118] at hd
    refine lv_aload_n hx hb dX5_sworn_118 rfl (lv_at hl 0 rfl) ?_
    refine lv_iload hx hb dX5_sworn_119 (lv_at hl 1 rfl) ?_
    obtain ⟨r_14, b_15, hc_121, hd⟩ := ob_s2 hd
    refine ob_Vi (isC := [0, 1, 2, 3, 4, 5, 6, 7, 8, 9, 10, 11, 12, 13]) (isR := []) (is2 := [0, 1, 2, 3, 4, 5, 6, 7, 8, 9, 10, 11, 12, 13]) (wc := (ob_w5 o_b a_b cI cZ b)) (wr := ([] : va_W)) (w1 := (ob_w5 o_b a_b cI cZ b_15)) (w2 := (ob_w5 o_b a_b cI cZ b_15)) (b := o_b) (As := [.int z6]) (rest := []) ⟨hx, hb, hml, hown, hts⟩ (mt_X5_done l dC dI cI cZ cR cW xs _ o_b a_b b z6 r_14 b_15 hc_121) (cwV 1 hts gX5_sworn_X5_done rfl rfl rfl (by decide +kernel) ⟨Nat.le_of_ble_eq_true rfl, Nat.le_of_ble_eq_true rfl⟩) hK hE hP hD hS hA ⟨rfl, rfl, rfl, rfl, rfl, rfl, rfl⟩ 5 0 rfl rfl rfl hl rfl rfl (Nat.le_of_ble_eq_true rfl) ⟨Nat.le_of_ble_eq_true rfl, Nat.le_of_ble_eq_true rfl⟩ dX5_sworn_121 (fun H locs hP hD hS => ?_)
    refine W.widen (k := 0) (n := 0) (Nat.le_refl _) (Nat.le_refl _) ?_
    obtain ⟨e1, e2⟩ := ob_pp hd
    subst e1
    subst e2
    exact ob_iret hx hb hr hlocks hP hD hS dX5_sworn_124
  have L68 : ∀  (fu : Nat), ∀ (H : Heap) (locs : List Loc) (b : ob_B) (z6 : Int32) (z7 : Int32) (ls : Array Slot), va_P (dC, dI) vwCl (ob_w5 o_b a_b cI cZ b) H → va_D A (ob_w5 o_b a_b cI cZ b) → va_S A s.heap H locs → lv_has ls 8 [(0, .ref o_b), (1, .int x1), (4, .int x4), (6, .int z6), (7, .int z7)] → fd_X5_sworn_L68 fu b x1 x4 z6 z7 = some (rr, b') → W p l e ({ frames := 5, cells := 0, slots := 0, locals := 115 } : Room) s m (List.toArray [.ref o_b, .int x1, .int x2, .int x3, .int x4]) below meth c H locs 0 0 (MQ below ((ob_Qi (dC, dI) rr (ob_w5 o_b a_b cI cZ b')) A) (List.toArray [.ref o_b, .int x1, .int x2, .int x3, .int x4]) s 0 0 A) (F0 m 68 ls []) := by
    intro  fu
    induction fu with
    | zero =>
      intro H locs b z6 z7 ls hP hD hS hl hd
      rw [fd_X5_sworn_L68] at hd
      cases hd
    | succ fu ih =>
      intro H locs b z6 z7 ls hP hD hS hl hd
      rw [fd_X5_sworn_L68] at hd
      refine lv_iload hx hb dX5_sworn_68 (lv_at hl 4 rfl) ?_
      refine lv_bipush (v := 10) hx hb dX5_sworn_70 (by decide) ?_
      refine lv_icmp_ge (tgt := 118) hx hb dX5_sworn_72 (by decide) (fun c_72 => ?_) (fun c_72 => ?_)
      · replace hd := ob_t c_72 hd
        exact L118   _ _ b z6 _ hP hD hS (lv_sub hl [0, 3] rfl) hd
      · replace hd := ob_f c_72 hd
        refine lv_aload_n hx hb dX5_sworn_75 rfl (lv_at hl 0 rfl) ?_
        obtain ⟨b_6, hc_76, hd⟩ := ob_s1 hd
        refine ob_Vv (isC := [0, 1, 2, 3, 4, 5, 6, 7, 8, 9, 10, 11, 12, 13]) (isR := []) (is2 := [0, 1, 2, 3, 4, 5, 6, 7, 8, 9, 10, 11, 12, 13]) (wc := (ob_w5 o_b a_b cI cZ b)) (wr := ([] : va_W)) (w1 := (ob_w5 o_b a_b cI cZ b_6)) (w2 := (ob_w5 o_b a_b cI cZ b_6)) (b := o_b) (As := []) (rest := []) ⟨hx, hb, hml, hown, hts⟩ (mt_X5_begin l dC dI cI cZ cR cW xs _ o_b a_b b b_6 hc_76) (cwV 0 hts gX5_sworn_X5_begin rfl rfl rfl (by decide +kernel) ⟨Nat.le_of_ble_eq_true rfl, Nat.le_of_ble_eq_true rfl⟩) hK hE hP hD hS hA ⟨rfl, rfl, rfl, rfl, rfl, rfl, rfl⟩ 5 0 rfl rfl rfl hl rfl rfl (Nat.le_of_ble_eq_true rfl) ⟨Nat.le_of_ble_eq_true rfl, Nat.le_of_ble_eq_true rfl⟩ dX5_sworn_76 (fun H locs hP hD hS => ?_)
        refine W.widen (k := 0) (n := 0) (Nat.le_refl _) (Nat.le_refl _) ?_
        refine lv_aload_n hx hb dX5_sworn_79 rfl (lv_at hl 0 rfl) ?_
        refine va_get (D := (dC, dI)) (ci := 5) (v := .ref (a_b 14)) (C := RX5) (T := TX5) (N := 23) hx hb hts hi_X5 hown hK hP 0 rfl rfl 14 (by decide) kw3 (fun _ h9 => h9) rfl dX5_sworn_80 ?_
        refine lv_bipush (v := 14) hx hb dX5_sworn_83 (by decide) ?_
        refine lv_iload_n hx hb dX5_sworn_85 rfl (lv_at hl 1 rfl) ?_
        refine lv_iadd hx hb dX5_sworn_86 ?_
        refine lv_iload hx hb dX5_sworn_87 (lv_at hl 4 rfl) ?_
        obtain ⟨h1_89, hd⟩ := ob_nn hd
        refine va_iast hx hb hK hP hD hS 7 0 rfl rfl h1_89 dX5_sworn_89 (fun H locs hP hD hS => ?_)
        obtain ⟨b_7, eb_7⟩ : ∃ z : ob_B, z = ob_A b_6 14 (upd (b_6.2 14) (Int32.toNatClampNeg (14 + x1)) z7) := ⟨_, rfl⟩
        replace hd := ob_lx eb_7 hd
        replace hP : va_P (dC, dI) vwCl (ob_w5 o_b a_b cI cZ b_7) H := by rw [eb_7]; exact hP
        replace hD : va_D A (ob_w5 o_b a_b cI cZ b_7) := by rw [eb_7]; exact hD
        clear eb_7
        refine lv_iload hx hb dX5_sworn_90 (lv_at hl 3 rfl) ?_
        refine lv_aload_n hx hb dX5_sworn_92 rfl (lv_at hl 0 rfl) ?_
        refine lv_iload hx hb dX5_sworn_93 (lv_at hl 2 rfl) ?_
        obtain ⟨r_8, b_9, hc_95, hd⟩ := ob_s2 hd
        refine ob_Vi (isC := [0, 1, 2, 3, 4, 5, 6, 7, 8, 9, 10, 11, 12, 13]) (isR := []) (is2 := [0, 1, 2, 3, 4, 5, 6, 7, 8, 9, 10, 11, 12, 13]) (wc := (ob_w5 o_b a_b cI cZ b_7)) (wr := ([] : va_W)) (w1 := (ob_w5 o_b a_b cI cZ b_9)) (w2 := (ob_w5 o_b a_b cI cZ b_9)) (b := o_b) (As := [.int x4]) (rest := [.int z6]) ⟨hx, hb, hml, hown, hts⟩ (mt_X5_isSo l dC dI cI cZ cR cW xs _ o_b a_b b_7 x4 r_8 b_9 hc_95) (cwV 1 hts gX5_sworn_X5_isSo rfl rfl rfl (by decide +kernel) ⟨Nat.le_of_ble_eq_true rfl, Nat.le_of_ble_eq_true rfl⟩) hK hE hP hD hS hA ⟨rfl, rfl, rfl, rfl, rfl, rfl, rfl⟩ 5 0 rfl rfl rfl hl rfl rfl (Nat.le_of_ble_eq_true rfl) ⟨Nat.le_of_ble_eq_true rfl, Nat.le_of_ble_eq_true rfl⟩ dX5_sworn_95 (fun H locs hP hD hS => ?_)
        refine W.widen (k := 0) (n := 0) (Nat.le_refl _) (Nat.le_refl _) ?_
        refine lv_if_eq (tgt := 108) hx hb dX5_sworn_98 (by decide) (fun c_98 => ?_) (fun c_98 => ?_)
        · replace hd := ob_t c_98 hd
          refine lv_iconst (v := 0) hx hb dX5_sworn_108 (by decide) ?_
          refine lv_ior hx hb dX5_sworn_109 ?_
          refine lv_topi (fun x_10 ex_10 => ?_)
          replace hd := ob_lx ex_10 hd
          clear ex_10
          refine lv_istore (lv' := [(6, .int x_10), (0, .ref o_b), (1, .int x1), (4, .int x4), (7, .int z7)]) hx hb dX5_sworn_110 hl (by decide) rfl (fun ls hl => ?_)
          obtain ⟨x_11, ex_11⟩ : ∃ z : Int32, z = z7 + 1 := ⟨_, rfl⟩
          replace hd := ob_lx ex_11 hd
          refine lv_iinc (v := x_11) (lv' := [(7, .int x_11), (6, .int x_10), (0, .ref o_b), (1, .int x1), (4, .int x4)]) hx hb dX5_sworn_112 hl (k := 4) rfl (by rw [ex_11]; rfl) (by decide) rfl (fun ls hl => ?_)
          clear ex_11
          refine lv_goto (tgt := 68) hx hb dX5_sworn_115 (by decide) ?_
          exact ih _ _ b_9 x_10 x_11 _ hP hD hS (lv_sub hl [2, 3, 4, 1, 0] rfl) hd
        · replace hd := ob_f c_98 hd
          refine lv_iconst (v := 1) hx hb dX5_sworn_101 (by decide) ?_
          refine lv_iload hx hb dX5_sworn_102 (lv_at hl 4 rfl) ?_
          refine lv_ishl hx hb dX5_sworn_104 ?_
          refine lv_goto (tgt := 109) hx hb dX5_sworn_105 (by decide) ?_
          refine lv_ior hx hb dX5_sworn_109 ?_
          refine lv_topi (fun x_12 ex_12 => ?_)
          replace hd := ob_lx ex_12 hd
          clear ex_12
          refine lv_istore (lv' := [(6, .int x_12), (0, .ref o_b), (1, .int x1), (4, .int x4), (7, .int z7)]) hx hb dX5_sworn_110 hl (by decide) rfl (fun ls hl => ?_)
          obtain ⟨x_13, ex_13⟩ : ∃ z : Int32, z = z7 + 1 := ⟨_, rfl⟩
          replace hd := ob_lx ex_13 hd
          refine lv_iinc (v := x_13) (lv' := [(7, .int x_13), (6, .int x_12), (0, .ref o_b), (1, .int x1), (4, .int x4)]) hx hb dX5_sworn_112 hl (k := 4) rfl (by rw [ex_13]; rfl) (by decide) rfl (fun ls hl => ?_)
          clear ex_13
          refine lv_goto (tgt := 68) hx hb dX5_sworn_115 (by decide) ?_
          exact ih _ _ b_9 x_12 x_13 _ hP hD hS (lv_sub hl [2, 3, 4, 1, 0] rfl) hd
  refine lv_aload_n hx hb dX5_sworn_0 rfl (lv_at hl 0 rfl) ?_
  refine lv_iload_n hx hb dX5_sworn_1 rfl (lv_at hl 1 rfl) ?_
  obtain ⟨r_1, hc_2, hd⟩ := ob_s1 hd
  refine ob_Vi (isC := [0, 1, 2, 3, 4, 5, 6, 7, 8, 9, 10, 11, 12, 13]) (isR := []) (is2 := [0, 1, 2, 3, 4, 5, 6, 7, 8, 9, 10, 11, 12, 13]) (wc := (ob_w5 o_b a_b cI cZ b)) (wr := ([] : va_W)) (w1 := (ob_w5 o_b a_b cI cZ b)) (w2 := (ob_w5 o_b a_b cI cZ b)) (b := o_b) (As := [.int x1]) (rest := []) ⟨hx, hb, hml, hown, hts⟩ (mt_X5_isOne l dC dI cI cZ cR cW xs _ o_b a_b b x1 r_1 hc_2) (cwV 1 hts gX5_sworn_X5_isOne rfl rfl rfl (by decide +kernel) ⟨Nat.le_of_ble_eq_true rfl, Nat.le_of_ble_eq_true rfl⟩) hK hE hP hD hS hA ⟨rfl, rfl, rfl, rfl, rfl, rfl, rfl⟩ 5 0 rfl rfl rfl hl rfl rfl (Nat.le_of_ble_eq_true rfl) ⟨Nat.le_of_ble_eq_true rfl, Nat.le_of_ble_eq_true rfl⟩ dX5_sworn_2 (fun H locs hP hD hS => ?_)
  refine W.widen (k := 0) (n := 0) (Nat.le_refl _) (Nat.le_refl _) ?_
  refine lv_if_eq (tgt := 26) hx hb dX5_sworn_5 (by decide) (fun c_5 => ?_) (fun c_5 => ?_)
  · replace hd := ob_t c_5 hd
    refine lv_ldc hx hb hown kw0 dX5_sworn_26 ?_
    obtain ⟨e1, e2⟩ := ob_pp hd
    subst e1
    subst e2
    exact ob_iret hx hb hr hlocks hP hD hS dX5_sworn_28
  · replace hd := ob_f c_5 hd
    refine lv_iload_n hx hb dX5_sworn_8 rfl (lv_at hl 2 rfl) ?_
    obtain ⟨r_2, hc_9, hd⟩ := ob_s1 hd
    refine ob_Si (isC := []) (isR := [0, 1, 2, 3, 4, 5, 6, 7, 8, 9, 10, 11, 12, 13]) (is2 := [0, 1, 2, 3, 4, 5, 6, 7, 8, 9, 10, 11, 12, 13]) (wc := ([] : va_W)) (wr := (List.filterMap (fun i => (ob_w5 o_b a_b cI cZ b)[i]?) [0, 1, 2, 3, 4, 5, 6, 7, 8, 9, 10, 11, 12, 13])) (w1 := ([] : va_W)) (w2 := (ob_w5 o_b a_b cI cZ b)) (As := [.int x2]) (rest := []) ⟨hx, hb, hml, hown, hts⟩ (mt_X5_isRow l dC dI cI cZ cR cW xs _ x2 r_2 hc_9) (va_cwS 1 hts gX5_sworn_X5_isRow rfl rfl rfl (by decide +kernel) ⟨Nat.le_of_ble_eq_true rfl, Nat.le_of_ble_eq_true rfl⟩) hK hE hP hD hS hA ⟨rfl, rfl, rfl, rfl, rfl, rfl, rfl⟩ hl rfl rfl (Nat.le_of_ble_eq_true rfl) ⟨Nat.le_of_ble_eq_true rfl, Nat.le_of_ble_eq_true rfl⟩ dX5_sworn_9 (fun H locs hP hD hS => ?_)
    refine W.widen (k := 0) (n := 0) (Nat.le_refl _) (Nat.le_refl _) ?_
    refine lv_if_eq (tgt := 26) hx hb dX5_sworn_12 (by decide) (fun c_12 => ?_) (fun c_12 => ?_)
    · replace hd := ob_t c_12 hd
      refine lv_ldc hx hb hown kw0 dX5_sworn_26 ?_
      obtain ⟨e1, e2⟩ := ob_pp hd
      subst e1
      subst e2
      exact ob_iret hx hb hr hlocks hP hD hS dX5_sworn_28
    · replace hd := ob_f c_12 hd
      refine lv_iload hx hb dX5_sworn_15 (lv_at hl 4 rfl) ?_
      refine lv_iconst (v := 1) hx hb dX5_sworn_17 (by decide) ?_
      refine lv_bipush (v := 12) hx hb dX5_sworn_18 (by decide) ?_
      obtain ⟨r_3, hc_20, hd⟩ := ob_s1 hd
      refine ob_Si (isC := []) (isR := [0, 1, 2, 3, 4, 5, 6, 7, 8, 9, 10, 11, 12, 13]) (is2 := [0, 1, 2, 3, 4, 5, 6, 7, 8, 9, 10, 11, 12, 13]) (wc := ([] : va_W)) (wr := (List.filterMap (fun i => (ob_w5 o_b a_b cI cZ b)[i]?) [0, 1, 2, 3, 4, 5, 6, 7, 8, 9, 10, 11, 12, 13])) (w1 := ([] : va_W)) (w2 := (ob_w5 o_b a_b cI cZ b)) (As := [.int x4, .int 1, .int 12]) (rest := []) ⟨hx, hb, hml, hown, hts⟩ (mt_X5_in l dC dI cI cZ cR cW xs _ x4 1 12 r_3 hc_20) (va_cwS 3 hts gX5_sworn_X5_in rfl rfl rfl (by decide +kernel) ⟨Nat.le_of_ble_eq_true rfl, Nat.le_of_ble_eq_true rfl⟩) hK hE hP hD hS hA ⟨rfl, rfl, rfl, rfl, rfl, rfl, rfl⟩ hl rfl rfl (Nat.le_of_ble_eq_true rfl) ⟨Nat.le_of_ble_eq_true rfl, Nat.le_of_ble_eq_true rfl⟩ dX5_sworn_20 (fun H locs hP hD hS => ?_)
      refine W.widen (k := 0) (n := 0) (Nat.le_refl _) (Nat.le_refl _) ?_
      refine lv_if_ne (tgt := 29) hx hb dX5_sworn_23 (by decide) (fun c_23 => ?_) (fun c_23 => ?_)
      · replace hd := ob_f c_23 hd
        refine lv_aload_n hx hb dX5_sworn_29 rfl (lv_at hl 0 rfl) ?_
        refine lv_iload_n hx hb dX5_sworn_30 rfl (lv_at hl 2 rfl) ?_
        refine lv_iload_n hx hb dX5_sworn_31 rfl (lv_at hl 3 rfl) ?_
        refine lv_iload hx hb dX5_sworn_32 (lv_at hl 4 rfl) ?_
        obtain ⟨r_4, b_5, hc_34, hd⟩ := ob_s2 hd
        refine ob_Vi (isC := [0, 1, 2, 3, 4, 5, 6, 7, 8, 9, 10, 11, 12, 13]) (isR := []) (is2 := [0, 1, 2, 3, 4, 5, 6, 7, 8, 9, 10, 11, 12, 13]) (wc := (ob_w5 o_b a_b cI cZ b)) (wr := ([] : va_W)) (w1 := (ob_w5 o_b a_b cI cZ b_5)) (w2 := (ob_w5 o_b a_b cI cZ b_5)) (b := o_b) (As := [.int x2, .int x3, .int x4]) (rest := []) ⟨hx, hb, hml, hown, hts⟩ (mt_X5_takeOut l dC dI cI cZ cR cW xs _ o_b a_b b x2 x3 x4 r_4 b_5 hc_34) (cwV 3 hts gX5_sworn_X5_takeOut rfl rfl rfl (by decide +kernel) ⟨Nat.le_of_ble_eq_true rfl, Nat.le_of_ble_eq_true rfl⟩) hK hE hP hD hS hA ⟨rfl, rfl, rfl, rfl, rfl, rfl, rfl⟩ 5 0 rfl rfl rfl hl rfl rfl (Nat.le_of_ble_eq_true rfl) ⟨Nat.le_of_ble_eq_true rfl, Nat.le_of_ble_eq_true rfl⟩ dX5_sworn_34 (fun H locs hP hD hS => ?_)
        refine W.widen (k := 0) (n := 0) (Nat.le_refl _) (Nat.le_refl _) ?_
        refine lv_istore (lv' := [(5, .int r_4), (0, .ref o_b), (1, .int x1), (2, .int x2), (3, .int x3), (4, .int x4)]) hx hb dX5_sworn_37 hl (by decide) rfl (fun ls hl => ?_)
        refine lv_iload hx hb dX5_sworn_39 (lv_at hl 0 rfl) ?_
        refine lv_if_ge (tgt := 47) hx hb dX5_sworn_41 (by decide) (fun c_41 => ?_) (fun c_41 => ?_)
        · replace hd := ob_t c_41 hd
          refine lv_aload_n hx hb dX5_sworn_47 rfl (lv_at hl 1 rfl) ?_
          refine va_get (D := (dC, dI)) (ci := 5) (v := .ref (a_b 12)) (C := RX5) (T := TX5) (N := 23) hx hb hts hi_X5 hown hK hP 0 rfl rfl 12 (by decide) kw1 (fun _ h9 => h9) rfl dX5_sworn_48 ?_
          refine lv_bipush (v := 35) hx hb dX5_sworn_51 (by decide) ?_
          refine lv_iload_n hx hb dX5_sworn_53 rfl (lv_at hl 2 rfl) ?_
          refine lv_iadd hx hb dX5_sworn_54 ?_
          obtain ⟨h1_55, hd⟩ := ob_nn hd
          refine va_iald hx hb hK hP 5 0 rfl rfl h1_55 dX5_sworn_55 ?_
          refine lv_if_eq (tgt := 62) hx hb dX5_sworn_56 (by decide) (fun c_56 => ?_) (fun c_56 => ?_)
          · replace hd := ob_t c_56 hd
            refine lv_iconst (v := 0) hx hb dX5_sworn_62 (by decide) ?_
            refine lv_istore (lv' := [(6, .int 0), (5, .int r_4), (0, .ref o_b), (1, .int x1), (2, .int x2), (3, .int x3), (4, .int x4)]) hx hb dX5_sworn_63 hl (by decide) rfl (fun ls hl => ?_)
            refine lv_iconst (v := 0) hx hb dX5_sworn_65 (by decide) ?_
            refine lv_istore (lv' := [(7, .int 0), (6, .int 0), (5, .int r_4), (0, .ref o_b), (1, .int x1), (2, .int x2), (3, .int x3), (4, .int x4)]) hx hb dX5_sworn_66 hl (by decide) rfl (fun ls hl => ?_)
            exact L68  2000 _ _ b_5 0 0 _ hP hD hS (lv_sub hl [3, 4, 7, 1, 0] rfl) hd
          · replace hd := ob_f c_56 hd
            refine lv_ldc hx hb hown kw2 dX5_sworn_59 ?_
            obtain ⟨e1, e2⟩ := ob_pp hd
            subst e1
            subst e2
            exact ob_iret hx hb hr hlocks hP hD hS dX5_sworn_61
        · replace hd := ob_f c_41 hd
          refine lv_iload hx hb dX5_sworn_44 (lv_at hl 0 rfl) ?_
          obtain ⟨e1, e2⟩ := ob_pp hd
          subst e1
          subst e2
          exact ob_iret hx hb hr hlocks hP hD hS dX5_sworn_46
      · replace hd := ob_t c_23 hd
        refine lv_ldc hx hb hown kw0 dX5_sworn_26 ?_
        obtain ⟨e1, e2⟩ := ob_pp hd
        subst e1
        subst e2
        exact ob_iret hx hb hr hlocks hP hD hS dX5_sworn_28

def fd_X5_who_L102  (b : ob_B) (z6 : Int32) : Option (Int32 × ob_B) := ob_b2 (fd_X5_done b z6) (fun r_14 b_15 => some (r_14, b_15))
def fd_X5_who_L53  : Nat → ob_B → Int32 → Int32 → Int32 → Int32 → Option (Int32 × ob_B)
  | 0, _, _, _, _, _ => none
  | fu + 1, b, x1, x4, z6, z7 => if 5 < z7 then (fd_X5_who_L102 b z6) else (ob_b1 (fd_X5_begin b) (fun b_6 => if (7 + x1) < 0 ∨ 42 ≤ Int32.toNatClampNeg (7 + x1) then none else (ob_lt (ob_A b_6 14 (upd (b_6.2 14) (Int32.toNatClampNeg (7 + x1)) z7) : ob_B) (fun b_7 => ob_b2 (fd_X5_isSo b_7 x4) (fun r_8 b_9 => if r_8 = 0 then (ob_lt (z6 ||| 0 : Int32) (fun x_10 => ob_lt (z7 + 1 : Int32) (fun x_11 => fd_X5_who_L53 fu b_9 x1 x4 x_10 x_11))) else (ob_lt (z6 ||| (1 <<< (z7 &&& 31)) : Int32) (fun x_12 => ob_lt (z7 + 1 : Int32) (fun x_13 => fd_X5_who_L53 fu b_9 x1 x4 x_12 x_13))))))))
def fd_X5_who  (b : ob_B) (x1 : Int32) (x2 : Int32) (x3 : Int32) (x4 : Int32) : Option (Int32 × ob_B) := ob_b1 (fd_X5_isOne b x1) (fun r_1 => if r_1 = 0 then (some ((-1000001), b)) else (ob_b1 (fd_X5_isRow x2) (fun r_2 => if r_2 = 0 then (some ((-1000001), b)) else (ob_b1 (fd_X5_in x4 1 12) (fun r_3 => if r_3 = 0 then (some ((-1000001), b)) else (ob_b2 (fd_X5_takeOut b x2 x3 x4) (fun r_4 b_5 => if 0 ≤ r_4 then (fd_X5_who_L53 2000 b_5 x1 x4 0 1) else (some (r_4, b_5)))))))))
set_option maxHeartbeats 4000000 in
set_option maxRecDepth 100000 in
theorem mt_X5_who (l : Launch) (dC : Nat → ClassId) (dI : Nat → Nat → Nat) (cI cZ cR cW : ClassId) (xs : Nat → Nat) (sz : Nat) (o_b : Nat) (a_b : Nat → Nat) (b : ob_B) (x1 : Int32) (x2 : Int32) (x3 : Int32) (x4 : Int32)  (rr : Int32) (b' : ob_B) (hd : fd_X5_who b x1 x2 x3 x4 = some (rr, b')) : ob_M l yX5_who wsX5_who ({ frames := 5, cells := 0, slots := 0, locals := 115 } : Room) (dC, dI) (ob_ty cI cZ cR cW) xs [.ref o_b, .int x1, .int x2, .int x3, .int x4] (ob_w5 o_b a_b cI cZ b) sz (ob_Qi (dC, dI) rr (ob_w5 o_b a_b cI cZ b')) := by
  rw [fd_X5_who] at hd
  refine ob_in (cc := cX5_who) (maxL := 8) (ret := (some .int)) (own := RX5) (by decide) rfl rfl [(0, .ref o_b), (1, .int x1), (2, .int x2), (3, .int x3), (4, .int x4)] rfl (Nat.le_of_ble_eq_true rfl) ?_
  intro p e s m below meth c hx hb hr hml hown hts hlocks hnm hK A hA hE hP hD hS ls hl
  have kw0 := hts (.constant RX5 63 (-1000001)) (by decide +kernel)
  have kw1 := hts (.fieldLink RX5 28 "OathCoachModel" "tried" "[I") (by decide +kernel)
  have hi_X5 : ∀ w ∈ u_ws RX5 TX5 23, w ∈ wsX5_who := by decide +kernel
  have L102 : ∀ (H : Heap) (locs : List Loc) (b : ob_B) (z6 : Int32) (ls : Array Slot), va_P (dC, dI) vwCl (ob_w5 o_b a_b cI cZ b) H → va_D A (ob_w5 o_b a_b cI cZ b) → va_S A s.heap H locs → lv_has ls 8 [(0, .ref o_b), (6, .int z6)] → fd_X5_who_L102 b z6 = some (rr, b') → W p l e ({ frames := 5, cells := 0, slots := 0, locals := 115 } : Room) s m (List.toArray [.ref o_b, .int x1, .int x2, .int x3, .int x4]) below meth c H locs 0 0 (MQ below ((ob_Qi (dC, dI) rr (ob_w5 o_b a_b cI cZ b')) A) (List.toArray [.ref o_b, .int x1, .int x2, .int x3, .int x4]) s 0 0 A) (F0 m 102 ls []) := by
    intro  H locs b z6 ls hP hD hS hl hd
    rw [fd_X5_who_L102] at hd
    refine lv_aload_n hx hb dX5_who_102 rfl (lv_at hl 0 rfl) ?_
    refine lv_iload hx hb dX5_who_103 (lv_at hl 1 rfl) ?_
    obtain ⟨r_14, b_15, hc_105, hd⟩ := ob_s2 hd
    refine ob_Vi (isC := [0, 1, 2, 3, 4, 5, 6, 7, 8, 9, 10, 11, 12, 13]) (isR := []) (is2 := [0, 1, 2, 3, 4, 5, 6, 7, 8, 9, 10, 11, 12, 13]) (wc := (ob_w5 o_b a_b cI cZ b)) (wr := ([] : va_W)) (w1 := (ob_w5 o_b a_b cI cZ b_15)) (w2 := (ob_w5 o_b a_b cI cZ b_15)) (b := o_b) (As := [.int z6]) (rest := []) ⟨hx, hb, hml, hown, hts⟩ (mt_X5_done l dC dI cI cZ cR cW xs _ o_b a_b b z6 r_14 b_15 hc_105) (cwV 1 hts gX5_who_X5_done rfl rfl rfl (by decide +kernel) ⟨Nat.le_of_ble_eq_true rfl, Nat.le_of_ble_eq_true rfl⟩) hK hE hP hD hS hA ⟨rfl, rfl, rfl, rfl, rfl, rfl, rfl⟩ 5 0 rfl rfl rfl hl rfl rfl (Nat.le_of_ble_eq_true rfl) ⟨Nat.le_of_ble_eq_true rfl, Nat.le_of_ble_eq_true rfl⟩ dX5_who_105 (fun H locs hP hD hS => ?_)
    refine W.widen (k := 0) (n := 0) (Nat.le_refl _) (Nat.le_refl _) ?_
    obtain ⟨e1, e2⟩ := ob_pp hd
    subst e1
    subst e2
    exact ob_iret hx hb hr hlocks hP hD hS dX5_who_108
  have L53 : ∀  (fu : Nat), ∀ (H : Heap) (locs : List Loc) (b : ob_B) (z6 : Int32) (z7 : Int32) (ls : Array Slot), va_P (dC, dI) vwCl (ob_w5 o_b a_b cI cZ b) H → va_D A (ob_w5 o_b a_b cI cZ b) → va_S A s.heap H locs → lv_has ls 8 [(0, .ref o_b), (1, .int x1), (4, .int x4), (6, .int z6), (7, .int z7)] → fd_X5_who_L53 fu b x1 x4 z6 z7 = some (rr, b') → W p l e ({ frames := 5, cells := 0, slots := 0, locals := 115 } : Room) s m (List.toArray [.ref o_b, .int x1, .int x2, .int x3, .int x4]) below meth c H locs 0 0 (MQ below ((ob_Qi (dC, dI) rr (ob_w5 o_b a_b cI cZ b')) A) (List.toArray [.ref o_b, .int x1, .int x2, .int x3, .int x4]) s 0 0 A) (F0 m 53 ls []) := by
    intro  fu
    induction fu with
    | zero =>
      intro H locs b z6 z7 ls hP hD hS hl hd
      rw [fd_X5_who_L53] at hd
      cases hd
    | succ fu ih =>
      intro H locs b z6 z7 ls hP hD hS hl hd
      rw [fd_X5_who_L53] at hd
      refine lv_iload hx hb dX5_who_53 (lv_at hl 4 rfl) ?_
      refine lv_iconst (v := 5) hx hb dX5_who_55 (by decide) ?_
      refine lv_icmp_gt (tgt := 102) hx hb dX5_who_56 (by decide) (fun c_56 => ?_) (fun c_56 => ?_)
      · replace hd := ob_t c_56 hd
        exact L102   _ _ b z6 _ hP hD hS (lv_sub hl [0, 3] rfl) hd
      · replace hd := ob_f c_56 hd
        refine lv_aload_n hx hb dX5_who_59 rfl (lv_at hl 0 rfl) ?_
        obtain ⟨b_6, hc_60, hd⟩ := ob_s1 hd
        refine ob_Vv (isC := [0, 1, 2, 3, 4, 5, 6, 7, 8, 9, 10, 11, 12, 13]) (isR := []) (is2 := [0, 1, 2, 3, 4, 5, 6, 7, 8, 9, 10, 11, 12, 13]) (wc := (ob_w5 o_b a_b cI cZ b)) (wr := ([] : va_W)) (w1 := (ob_w5 o_b a_b cI cZ b_6)) (w2 := (ob_w5 o_b a_b cI cZ b_6)) (b := o_b) (As := []) (rest := []) ⟨hx, hb, hml, hown, hts⟩ (mt_X5_begin l dC dI cI cZ cR cW xs _ o_b a_b b b_6 hc_60) (cwV 0 hts gX5_who_X5_begin rfl rfl rfl (by decide +kernel) ⟨Nat.le_of_ble_eq_true rfl, Nat.le_of_ble_eq_true rfl⟩) hK hE hP hD hS hA ⟨rfl, rfl, rfl, rfl, rfl, rfl, rfl⟩ 5 0 rfl rfl rfl hl rfl rfl (Nat.le_of_ble_eq_true rfl) ⟨Nat.le_of_ble_eq_true rfl, Nat.le_of_ble_eq_true rfl⟩ dX5_who_60 (fun H locs hP hD hS => ?_)
        refine W.widen (k := 0) (n := 0) (Nat.le_refl _) (Nat.le_refl _) ?_
        refine lv_aload_n hx hb dX5_who_63 rfl (lv_at hl 0 rfl) ?_
        refine va_get (D := (dC, dI)) (ci := 5) (v := .ref (a_b 14)) (C := RX5) (T := TX5) (N := 23) hx hb hts hi_X5 hown hK hP 0 rfl rfl 14 (by decide) kw1 (fun _ h9 => h9) rfl dX5_who_64 ?_
        refine lv_bipush (v := 7) hx hb dX5_who_67 (by decide) ?_
        refine lv_iload_n hx hb dX5_who_69 rfl (lv_at hl 1 rfl) ?_
        refine lv_iadd hx hb dX5_who_70 ?_
        refine lv_iload hx hb dX5_who_71 (lv_at hl 4 rfl) ?_
        obtain ⟨h1_73, hd⟩ := ob_nn hd
        refine va_iast hx hb hK hP hD hS 7 0 rfl rfl h1_73 dX5_who_73 (fun H locs hP hD hS => ?_)
        obtain ⟨b_7, eb_7⟩ : ∃ z : ob_B, z = ob_A b_6 14 (upd (b_6.2 14) (Int32.toNatClampNeg (7 + x1)) z7) := ⟨_, rfl⟩
        replace hd := ob_lx eb_7 hd
        replace hP : va_P (dC, dI) vwCl (ob_w5 o_b a_b cI cZ b_7) H := by rw [eb_7]; exact hP
        replace hD : va_D A (ob_w5 o_b a_b cI cZ b_7) := by rw [eb_7]; exact hD
        clear eb_7
        refine lv_iload hx hb dX5_who_74 (lv_at hl 3 rfl) ?_
        refine lv_aload_n hx hb dX5_who_76 rfl (lv_at hl 0 rfl) ?_
        refine lv_iload hx hb dX5_who_77 (lv_at hl 2 rfl) ?_
        obtain ⟨r_8, b_9, hc_79, hd⟩ := ob_s2 hd
        refine ob_Vi (isC := [0, 1, 2, 3, 4, 5, 6, 7, 8, 9, 10, 11, 12, 13]) (isR := []) (is2 := [0, 1, 2, 3, 4, 5, 6, 7, 8, 9, 10, 11, 12, 13]) (wc := (ob_w5 o_b a_b cI cZ b_7)) (wr := ([] : va_W)) (w1 := (ob_w5 o_b a_b cI cZ b_9)) (w2 := (ob_w5 o_b a_b cI cZ b_9)) (b := o_b) (As := [.int x4]) (rest := [.int z6]) ⟨hx, hb, hml, hown, hts⟩ (mt_X5_isSo l dC dI cI cZ cR cW xs _ o_b a_b b_7 x4 r_8 b_9 hc_79) (cwV 1 hts gX5_who_X5_isSo rfl rfl rfl (by decide +kernel) ⟨Nat.le_of_ble_eq_true rfl, Nat.le_of_ble_eq_true rfl⟩) hK hE hP hD hS hA ⟨rfl, rfl, rfl, rfl, rfl, rfl, rfl⟩ 5 0 rfl rfl rfl hl rfl rfl (Nat.le_of_ble_eq_true rfl) ⟨Nat.le_of_ble_eq_true rfl, Nat.le_of_ble_eq_true rfl⟩ dX5_who_79 (fun H locs hP hD hS => ?_)
        refine W.widen (k := 0) (n := 0) (Nat.le_refl _) (Nat.le_refl _) ?_
        refine lv_if_eq (tgt := 92) hx hb dX5_who_82 (by decide) (fun c_82 => ?_) (fun c_82 => ?_)
        · replace hd := ob_t c_82 hd
          refine lv_iconst (v := 0) hx hb dX5_who_92 (by decide) ?_
          refine lv_ior hx hb dX5_who_93 ?_
          refine lv_topi (fun x_10 ex_10 => ?_)
          replace hd := ob_lx ex_10 hd
          clear ex_10
          refine lv_istore (lv' := [(6, .int x_10), (0, .ref o_b), (1, .int x1), (4, .int x4), (7, .int z7)]) hx hb dX5_who_94 hl (by decide) rfl (fun ls hl => ?_)
          obtain ⟨x_11, ex_11⟩ : ∃ z : Int32, z = z7 + 1 := ⟨_, rfl⟩
          replace hd := ob_lx ex_11 hd
          refine lv_iinc (v := x_11) (lv' := [(7, .int x_11), (6, .int x_10), (0, .ref o_b), (1, .int x1), (4, .int x4)]) hx hb dX5_who_96 hl (k := 4) rfl (by rw [ex_11]; rfl) (by decide) rfl (fun ls hl => ?_)
          clear ex_11
          refine lv_goto (tgt := 53) hx hb dX5_who_99 (by decide) ?_
          exact ih _ _ b_9 x_10 x_11 _ hP hD hS (lv_sub hl [2, 3, 4, 1, 0] rfl) hd
        · replace hd := ob_f c_82 hd
          refine lv_iconst (v := 1) hx hb dX5_who_85 (by decide) ?_
          refine lv_iload hx hb dX5_who_86 (lv_at hl 4 rfl) ?_
          refine lv_ishl hx hb dX5_who_88 ?_
          refine lv_goto (tgt := 93) hx hb dX5_who_89 (by decide) ?_
          refine lv_ior hx hb dX5_who_93 ?_
          refine lv_topi (fun x_12 ex_12 => ?_)
          replace hd := ob_lx ex_12 hd
          clear ex_12
          refine lv_istore (lv' := [(6, .int x_12), (0, .ref o_b), (1, .int x1), (4, .int x4), (7, .int z7)]) hx hb dX5_who_94 hl (by decide) rfl (fun ls hl => ?_)
          obtain ⟨x_13, ex_13⟩ : ∃ z : Int32, z = z7 + 1 := ⟨_, rfl⟩
          replace hd := ob_lx ex_13 hd
          refine lv_iinc (v := x_13) (lv' := [(7, .int x_13), (6, .int x_12), (0, .ref o_b), (1, .int x1), (4, .int x4)]) hx hb dX5_who_96 hl (k := 4) rfl (by rw [ex_13]; rfl) (by decide) rfl (fun ls hl => ?_)
          clear ex_13
          refine lv_goto (tgt := 53) hx hb dX5_who_99 (by decide) ?_
          exact ih _ _ b_9 x_12 x_13 _ hP hD hS (lv_sub hl [2, 3, 4, 1, 0] rfl) hd
  refine lv_aload_n hx hb dX5_who_0 rfl (lv_at hl 0 rfl) ?_
  refine lv_iload_n hx hb dX5_who_1 rfl (lv_at hl 1 rfl) ?_
  obtain ⟨r_1, hc_2, hd⟩ := ob_s1 hd
  refine ob_Vi (isC := [0, 1, 2, 3, 4, 5, 6, 7, 8, 9, 10, 11, 12, 13]) (isR := []) (is2 := [0, 1, 2, 3, 4, 5, 6, 7, 8, 9, 10, 11, 12, 13]) (wc := (ob_w5 o_b a_b cI cZ b)) (wr := ([] : va_W)) (w1 := (ob_w5 o_b a_b cI cZ b)) (w2 := (ob_w5 o_b a_b cI cZ b)) (b := o_b) (As := [.int x1]) (rest := []) ⟨hx, hb, hml, hown, hts⟩ (mt_X5_isOne l dC dI cI cZ cR cW xs _ o_b a_b b x1 r_1 hc_2) (cwV 1 hts gX5_who_X5_isOne rfl rfl rfl (by decide +kernel) ⟨Nat.le_of_ble_eq_true rfl, Nat.le_of_ble_eq_true rfl⟩) hK hE hP hD hS hA ⟨rfl, rfl, rfl, rfl, rfl, rfl, rfl⟩ 5 0 rfl rfl rfl hl rfl rfl (Nat.le_of_ble_eq_true rfl) ⟨Nat.le_of_ble_eq_true rfl, Nat.le_of_ble_eq_true rfl⟩ dX5_who_2 (fun H locs hP hD hS => ?_)
  refine W.widen (k := 0) (n := 0) (Nat.le_refl _) (Nat.le_refl _) ?_
  refine lv_if_eq (tgt := 26) hx hb dX5_who_5 (by decide) (fun c_5 => ?_) (fun c_5 => ?_)
  · replace hd := ob_t c_5 hd
    refine lv_ldc hx hb hown kw0 dX5_who_26 ?_
    obtain ⟨e1, e2⟩ := ob_pp hd
    subst e1
    subst e2
    exact ob_iret hx hb hr hlocks hP hD hS dX5_who_28
  · replace hd := ob_f c_5 hd
    refine lv_iload_n hx hb dX5_who_8 rfl (lv_at hl 2 rfl) ?_
    obtain ⟨r_2, hc_9, hd⟩ := ob_s1 hd
    refine ob_Si (isC := []) (isR := [0, 1, 2, 3, 4, 5, 6, 7, 8, 9, 10, 11, 12, 13]) (is2 := [0, 1, 2, 3, 4, 5, 6, 7, 8, 9, 10, 11, 12, 13]) (wc := ([] : va_W)) (wr := (List.filterMap (fun i => (ob_w5 o_b a_b cI cZ b)[i]?) [0, 1, 2, 3, 4, 5, 6, 7, 8, 9, 10, 11, 12, 13])) (w1 := ([] : va_W)) (w2 := (ob_w5 o_b a_b cI cZ b)) (As := [.int x2]) (rest := []) ⟨hx, hb, hml, hown, hts⟩ (mt_X5_isRow l dC dI cI cZ cR cW xs _ x2 r_2 hc_9) (va_cwS 1 hts gX5_who_X5_isRow rfl rfl rfl (by decide +kernel) ⟨Nat.le_of_ble_eq_true rfl, Nat.le_of_ble_eq_true rfl⟩) hK hE hP hD hS hA ⟨rfl, rfl, rfl, rfl, rfl, rfl, rfl⟩ hl rfl rfl (Nat.le_of_ble_eq_true rfl) ⟨Nat.le_of_ble_eq_true rfl, Nat.le_of_ble_eq_true rfl⟩ dX5_who_9 (fun H locs hP hD hS => ?_)
    refine W.widen (k := 0) (n := 0) (Nat.le_refl _) (Nat.le_refl _) ?_
    refine lv_if_eq (tgt := 26) hx hb dX5_who_12 (by decide) (fun c_12 => ?_) (fun c_12 => ?_)
    · replace hd := ob_t c_12 hd
      refine lv_ldc hx hb hown kw0 dX5_who_26 ?_
      obtain ⟨e1, e2⟩ := ob_pp hd
      subst e1
      subst e2
      exact ob_iret hx hb hr hlocks hP hD hS dX5_who_28
    · replace hd := ob_f c_12 hd
      refine lv_iload hx hb dX5_who_15 (lv_at hl 4 rfl) ?_
      refine lv_iconst (v := 1) hx hb dX5_who_17 (by decide) ?_
      refine lv_bipush (v := 12) hx hb dX5_who_18 (by decide) ?_
      obtain ⟨r_3, hc_20, hd⟩ := ob_s1 hd
      refine ob_Si (isC := []) (isR := [0, 1, 2, 3, 4, 5, 6, 7, 8, 9, 10, 11, 12, 13]) (is2 := [0, 1, 2, 3, 4, 5, 6, 7, 8, 9, 10, 11, 12, 13]) (wc := ([] : va_W)) (wr := (List.filterMap (fun i => (ob_w5 o_b a_b cI cZ b)[i]?) [0, 1, 2, 3, 4, 5, 6, 7, 8, 9, 10, 11, 12, 13])) (w1 := ([] : va_W)) (w2 := (ob_w5 o_b a_b cI cZ b)) (As := [.int x4, .int 1, .int 12]) (rest := []) ⟨hx, hb, hml, hown, hts⟩ (mt_X5_in l dC dI cI cZ cR cW xs _ x4 1 12 r_3 hc_20) (va_cwS 3 hts gX5_who_X5_in rfl rfl rfl (by decide +kernel) ⟨Nat.le_of_ble_eq_true rfl, Nat.le_of_ble_eq_true rfl⟩) hK hE hP hD hS hA ⟨rfl, rfl, rfl, rfl, rfl, rfl, rfl⟩ hl rfl rfl (Nat.le_of_ble_eq_true rfl) ⟨Nat.le_of_ble_eq_true rfl, Nat.le_of_ble_eq_true rfl⟩ dX5_who_20 (fun H locs hP hD hS => ?_)
      refine W.widen (k := 0) (n := 0) (Nat.le_refl _) (Nat.le_refl _) ?_
      refine lv_if_ne (tgt := 29) hx hb dX5_who_23 (by decide) (fun c_23 => ?_) (fun c_23 => ?_)
      · replace hd := ob_f c_23 hd
        refine lv_aload_n hx hb dX5_who_29 rfl (lv_at hl 0 rfl) ?_
        refine lv_iload_n hx hb dX5_who_30 rfl (lv_at hl 2 rfl) ?_
        refine lv_iload_n hx hb dX5_who_31 rfl (lv_at hl 3 rfl) ?_
        refine lv_iload hx hb dX5_who_32 (lv_at hl 4 rfl) ?_
        obtain ⟨r_4, b_5, hc_34, hd⟩ := ob_s2 hd
        refine ob_Vi (isC := [0, 1, 2, 3, 4, 5, 6, 7, 8, 9, 10, 11, 12, 13]) (isR := []) (is2 := [0, 1, 2, 3, 4, 5, 6, 7, 8, 9, 10, 11, 12, 13]) (wc := (ob_w5 o_b a_b cI cZ b)) (wr := ([] : va_W)) (w1 := (ob_w5 o_b a_b cI cZ b_5)) (w2 := (ob_w5 o_b a_b cI cZ b_5)) (b := o_b) (As := [.int x2, .int x3, .int x4]) (rest := []) ⟨hx, hb, hml, hown, hts⟩ (mt_X5_takeOut l dC dI cI cZ cR cW xs _ o_b a_b b x2 x3 x4 r_4 b_5 hc_34) (cwV 3 hts gX5_who_X5_takeOut rfl rfl rfl (by decide +kernel) ⟨Nat.le_of_ble_eq_true rfl, Nat.le_of_ble_eq_true rfl⟩) hK hE hP hD hS hA ⟨rfl, rfl, rfl, rfl, rfl, rfl, rfl⟩ 5 0 rfl rfl rfl hl rfl rfl (Nat.le_of_ble_eq_true rfl) ⟨Nat.le_of_ble_eq_true rfl, Nat.le_of_ble_eq_true rfl⟩ dX5_who_34 (fun H locs hP hD hS => ?_)
        refine W.widen (k := 0) (n := 0) (Nat.le_refl _) (Nat.le_refl _) ?_
        refine lv_istore (lv' := [(5, .int r_4), (0, .ref o_b), (1, .int x1), (2, .int x2), (3, .int x3), (4, .int x4)]) hx hb dX5_who_37 hl (by decide) rfl (fun ls hl => ?_)
        refine lv_iload hx hb dX5_who_39 (lv_at hl 0 rfl) ?_
        refine lv_if_ge (tgt := 47) hx hb dX5_who_41 (by decide) (fun c_41 => ?_) (fun c_41 => ?_)
        · replace hd := ob_t c_41 hd
          refine lv_iconst (v := 0) hx hb dX5_who_47 (by decide) ?_
          refine lv_istore (lv' := [(6, .int 0), (5, .int r_4), (0, .ref o_b), (1, .int x1), (2, .int x2), (3, .int x3), (4, .int x4)]) hx hb dX5_who_48 hl (by decide) rfl (fun ls hl => ?_)
          refine lv_iconst (v := 1) hx hb dX5_who_50 (by decide) ?_
          refine lv_istore (lv' := [(7, .int 1), (6, .int 0), (5, .int r_4), (0, .ref o_b), (1, .int x1), (2, .int x2), (3, .int x3), (4, .int x4)]) hx hb dX5_who_51 hl (by decide) rfl (fun ls hl => ?_)
          exact L53  2000 _ _ b_5 0 1 _ hP hD hS (lv_sub hl [3, 4, 7, 1, 0] rfl) hd
        · replace hd := ob_f c_41 hd
          refine lv_iload hx hb dX5_who_44 (lv_at hl 0 rfl) ?_
          obtain ⟨e1, e2⟩ := ob_pp hd
          subst e1
          subst e2
          exact ob_iret hx hb hr hlocks hP hD hS dX5_who_46
      · replace hd := ob_t c_23 hd
        refine lv_ldc hx hb hown kw0 dX5_who_26 ?_
        obtain ⟨e1, e2⟩ := ob_pp hd
        subst e1
        subst e2
        exact ob_iret hx hb hr hlocks hP hD hS dX5_who_28
