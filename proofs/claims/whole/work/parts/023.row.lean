def fd_X2_begin  (b : ob_B) (x1 : Int32) (x2 : Int32) : Option (ob_B) := ob_lt (ob_I b 0 0 : ob_B) (fun b_1 => ob_lt (ob_I b_1 1 x1 : ob_B) (fun b_2 => ob_lt (ob_I b_2 2 x2 : ob_B) (fun b_3 => ob_b1 (fd_J7_fill_53178 ((b_3.2 3)) 0) (fun f_4 => ob_lt (ob_A b_3 3 f_4 : ob_B) (fun b_5 => some (b_5))))))
set_option maxHeartbeats 4000000 in
set_option maxRecDepth 100000 in
theorem mt_X2_begin (l : Launch) (dC : Nat → ClassId) (dI : Nat → Nat → Nat) (cI cZ cR cW : ClassId) (xs : Nat → Nat) (sz : Nat) (o_b : Nat) (a_b : Nat → Nat) (b : ob_B) (x1 : Int32) (x2 : Int32)  (b' : ob_B) (hd : fd_X2_begin b x1 x2 = some (b')) : ob_M l yX2_begin wsX2_begin ({ frames := 1, cells := 0, slots := 0, locals := 23 } : Room) (dC, dI) (ob_ty cI cZ cR cW) xs [.ref o_b, .int x1, .int x2] (ob_w2 o_b a_b cI b) sz (ob_Qv (dC, dI) (ob_w2 o_b a_b cI b')) := by
  rw [fd_X2_begin] at hd
  refine ob_in (cc := cX2_begin) (maxL := 3) (ret := none) (own := RX2) (by decide) rfl rfl [(0, .ref o_b), (1, .int x1), (2, .int x2)] rfl (Nat.le_of_ble_eq_true rfl) ?_
  intro p e s m below meth c hx hb hr hml hown hts hlocks hnm hK A hA hE hP hD hS ls hl
  have kw0 := hts (.fieldLink RX2 9 "OathCoach$Row" "missing" "Z") (by decide +kernel)
  have kw1 := hts (.fieldLink RX2 15 "OathCoach$Row" "lane" "I") (by decide +kernel)
  have kw2 := hts (.fieldLink RX2 19 "OathCoach$Row" "size" "I") (by decide +kernel)
  have kw3 := hts (.fieldLink RX2 22 "OathCoach$Row" "items" "[I") (by decide +kernel)
  have hi_X2 : ∀ w ∈ u_ws RX2 TX2 4, w ∈ wsX2_begin := by decide +kernel
  refine lv_aload_n hx hb dX2_begin_0 rfl (lv_at hl 0 rfl) ?_
  refine lv_iconst (v := 0) hx hb dX2_begin_1 (by decide) ?_
  refine va_put (D := (dC, dI)) (ci := 2) (v := .int 0) (ty := .boolean) (C := RX2) (T := TX2) (N := 4) hx hb hts hi_X2 tyX2 tyX2_ok nmX2 hown hK hP hD hS 0 rfl rfl 0 (by decide) kw0 (fun _ h9 => h9) rfl (by decide +kernel) (by decide) rfl (Nat.le_of_ble_eq_true rfl) dX2_begin_2 (fun H locs hP hD hS => ?_)
  obtain ⟨b_1, eb_1⟩ : ∃ z : ob_B, z = ob_I b 0 0 := ⟨_, rfl⟩
  replace hd := ob_lx eb_1 hd
  replace hP : va_P (dC, dI) vwCl (ob_w2 o_b a_b cI b_1) H := by rw [eb_1]; exact hP
  replace hD : va_D A (ob_w2 o_b a_b cI b_1) := by rw [eb_1]; exact hD
  clear eb_1
  refine lv_aload_n hx hb dX2_begin_5 rfl (lv_at hl 0 rfl) ?_
  refine lv_iload_n hx hb dX2_begin_6 rfl (lv_at hl 1 rfl) ?_
  refine va_put (D := (dC, dI)) (ci := 2) (v := .int x1) (ty := .int) (C := RX2) (T := TX2) (N := 4) hx hb hts hi_X2 tyX2 tyX2_ok nmX2 hown hK hP hD hS 0 rfl rfl 1 (by decide) kw1 (fun _ h9 => h9) rfl (by decide +kernel) rfl rfl (Nat.le_of_ble_eq_true rfl) dX2_begin_7 (fun H locs hP hD hS => ?_)
  obtain ⟨b_2, eb_2⟩ : ∃ z : ob_B, z = ob_I b_1 1 x1 := ⟨_, rfl⟩
  replace hd := ob_lx eb_2 hd
  replace hP : va_P (dC, dI) vwCl (ob_w2 o_b a_b cI b_2) H := by rw [eb_2]; exact hP
  replace hD : va_D A (ob_w2 o_b a_b cI b_2) := by rw [eb_2]; exact hD
  clear eb_2
  refine lv_aload_n hx hb dX2_begin_10 rfl (lv_at hl 0 rfl) ?_
  refine lv_iload_n hx hb dX2_begin_11 rfl (lv_at hl 2 rfl) ?_
  refine va_put (D := (dC, dI)) (ci := 2) (v := .int x2) (ty := .int) (C := RX2) (T := TX2) (N := 4) hx hb hts hi_X2 tyX2 tyX2_ok nmX2 hown hK hP hD hS 0 rfl rfl 2 (by decide) kw2 (fun _ h9 => h9) rfl (by decide +kernel) rfl rfl (Nat.le_of_ble_eq_true rfl) dX2_begin_12 (fun H locs hP hD hS => ?_)
  obtain ⟨b_3, eb_3⟩ : ∃ z : ob_B, z = ob_I b_2 2 x2 := ⟨_, rfl⟩
  replace hd := ob_lx eb_3 hd
  replace hP : va_P (dC, dI) vwCl (ob_w2 o_b a_b cI b_3) H := by rw [eb_3]; exact hP
  replace hD : va_D A (ob_w2 o_b a_b cI b_3) := by rw [eb_3]; exact hD
  clear eb_3
  refine lv_aload_n hx hb dX2_begin_15 rfl (lv_at hl 0 rfl) ?_
  refine va_get (D := (dC, dI)) (ci := 2) (v := .ref (a_b 3)) (C := RX2) (T := TX2) (N := 4) hx hb hts hi_X2 hown hK hP 0 rfl rfl 3 (by decide) kw3 (fun _ h9 => h9) rfl dX2_begin_16 ?_
  refine lv_iconst (v := 0) hx hb dX2_begin_19 (by decide) ?_
  obtain ⟨f_4, hc_20, hd⟩ := ob_s1 hd
  refine ob_Sv (isC := [1]) (isR := [0]) (is2 := [0, 1]) (wc := (ob_wa (a_b 3) cI 40 (b_3.2 3))) (wr := (List.filterMap (fun i => (ob_w2 o_b a_b cI b_3)[i]?) [0])) (w1 := (ob_wa (a_b 3) cI 40 f_4)) (w2 := (ob_w2 o_b a_b cI (ob_A b_3 3 f_4))) (As := [.ref (a_b 3), .int 0]) (rest := []) ⟨hx, hb, hml, hown, hts⟩ (mt_J7_fill_53178 l dC dI cI cZ cR cW xs _ ((a_b 3)) ((b_3.2 3)) 0 f_4 hc_20) (va_cwS 2 hts gX2_begin_J7_fill_53178 rfl rfl rfl (by decide +kernel) ⟨Nat.le_of_ble_eq_true rfl, Nat.le_of_ble_eq_true rfl⟩) hK hE hP hD hS hA ⟨rfl, rfl, rfl, rfl, rfl, rfl, rfl⟩ hl rfl rfl (Nat.le_of_ble_eq_true rfl) ⟨Nat.le_of_ble_eq_true rfl, Nat.le_of_ble_eq_true rfl⟩ dX2_begin_20 (fun H locs hP hD hS => ?_)
  refine W.widen (k := 0) (n := 0) (Nat.le_refl _) (Nat.le_refl _) ?_
  obtain ⟨b_5, eb_5⟩ : ∃ z : ob_B, z = ob_A b_3 3 f_4 := ⟨_, rfl⟩
  replace hd := ob_lx eb_5 hd
  replace hP : va_P (dC, dI) vwCl (ob_w2 o_b a_b cI b_5) H := by rw [eb_5]; exact hP
  replace hD : va_D A (ob_w2 o_b a_b cI b_5) := by rw [eb_5]; exact hD
  clear eb_5
  have e1 := Option.some.inj hd
  subst e1
  exact ob_vret hx hb hr hlocks hP hD hS dX2_begin_23

def fd_X2_has  (b : ob_B) (x1 : Int32) (x2 : Int32) : Option (Int32) := if x1 < 0 then (some (0)) else (if x2 < 0 then (some (0)) else (if (b.1 2) < x1 then (some (0)) else (if ((b.1 2) - x1) < x2 then (some (0)) else (some (1)))))
set_option maxHeartbeats 4000000 in
set_option maxRecDepth 100000 in
theorem mt_X2_has (l : Launch) (dC : Nat → ClassId) (dI : Nat → Nat → Nat) (cI cZ cR cW : ClassId) (xs : Nat → Nat) (sz : Nat) (o_b : Nat) (a_b : Nat → Nat) (b : ob_B) (x1 : Int32) (x2 : Int32)  (rr : Int32) (hd : fd_X2_has b x1 x2 = some (rr)) : ob_M l yX2_has wsX2_has ({ frames := 0, cells := 0, slots := 0, locals := 0 } : Room) (dC, dI) (ob_ty cI cZ cR cW) xs [.ref o_b, .int x1, .int x2] (ob_w2 o_b a_b cI b) sz (ob_Qi (dC, dI) rr (ob_w2 o_b a_b cI b)) := by
  rw [fd_X2_has] at hd
  refine ob_in (cc := cX2_has) (maxL := 3) (ret := (some .boolean)) (own := RX2) (by decide) rfl rfl [(0, .ref o_b), (1, .int x1), (2, .int x2)] rfl (Nat.le_of_ble_eq_true rfl) ?_
  intro p e s m below meth c hx hb hr hml hown hts hlocks hnm hK A hA hE hP hD hS ls hl
  have kw0 := hts (.fieldLink RX2 19 "OathCoach$Row" "size" "I") (by decide +kernel)
  have hi_X2 : ∀ w ∈ u_ws RX2 TX2 4, w ∈ wsX2_has := by decide +kernel
  refine lv_iload_n hx hb dX2_has_0 rfl (lv_at hl 1 rfl) ?_
  refine lv_if_lt (tgt := 30) hx hb dX2_has_1 (by decide) (fun c_1 => ?_) (fun c_1 => ?_)
  · replace hd := ob_t c_1 hd
    refine lv_iconst (v := 0) hx hb dX2_has_30 (by decide) ?_
    have e1 := Option.some.inj hd
    subst e1
    exact ob_zret hx hb hr hlocks (by decide) hP hD hS dX2_has_31
  · replace hd := ob_f c_1 hd
    refine lv_iload_n hx hb dX2_has_4 rfl (lv_at hl 2 rfl) ?_
    refine lv_if_lt (tgt := 30) hx hb dX2_has_5 (by decide) (fun c_5 => ?_) (fun c_5 => ?_)
    · replace hd := ob_t c_5 hd
      refine lv_iconst (v := 0) hx hb dX2_has_30 (by decide) ?_
      have e1 := Option.some.inj hd
      subst e1
      exact ob_zret hx hb hr hlocks (by decide) hP hD hS dX2_has_31
    · replace hd := ob_f c_5 hd
      refine lv_iload_n hx hb dX2_has_8 rfl (lv_at hl 1 rfl) ?_
      refine lv_aload_n hx hb dX2_has_9 rfl (lv_at hl 0 rfl) ?_
      refine va_get (D := (dC, dI)) (ci := 2) (v := .int (b.1 2)) (C := RX2) (T := TX2) (N := 4) hx hb hts hi_X2 hown hK hP 0 rfl rfl 2 (by decide) kw0 (fun _ h9 => h9) rfl dX2_has_10 ?_
      refine lv_icmp_gt (tgt := 30) hx hb dX2_has_13 (by decide) (fun c_13 => ?_) (fun c_13 => ?_)
      · replace hd := ob_t c_13 hd
        refine lv_iconst (v := 0) hx hb dX2_has_30 (by decide) ?_
        have e1 := Option.some.inj hd
        subst e1
        exact ob_zret hx hb hr hlocks (by decide) hP hD hS dX2_has_31
      · replace hd := ob_f c_13 hd
        refine lv_iload_n hx hb dX2_has_16 rfl (lv_at hl 2 rfl) ?_
        refine lv_aload_n hx hb dX2_has_17 rfl (lv_at hl 0 rfl) ?_
        refine va_get (D := (dC, dI)) (ci := 2) (v := .int (b.1 2)) (C := RX2) (T := TX2) (N := 4) hx hb hts hi_X2 hown hK hP 0 rfl rfl 2 (by decide) kw0 (fun _ h9 => h9) rfl dX2_has_18 ?_
        refine lv_iload_n hx hb dX2_has_21 rfl (lv_at hl 1 rfl) ?_
        refine lv_isub hx hb dX2_has_22 ?_
        refine lv_icmp_gt (tgt := 30) hx hb dX2_has_23 (by decide) (fun c_23 => ?_) (fun c_23 => ?_)
        · replace hd := ob_t c_23 hd
          refine lv_iconst (v := 0) hx hb dX2_has_30 (by decide) ?_
          have e1 := Option.some.inj hd
          subst e1
          exact ob_zret hx hb hr hlocks (by decide) hP hD hS dX2_has_31
        · replace hd := ob_f c_23 hd
          refine lv_iconst (v := 1) hx hb dX2_has_26 (by decide) ?_
          refine lv_goto (tgt := 31) hx hb dX2_has_27 (by decide) ?_
          have e1 := Option.some.inj hd
          subst e1
          exact ob_zret hx hb hr hlocks (by decide) hP hD hS dX2_has_31

def fd_X2_put_L31  (b : ob_B) (x1 : Int32) (v0 : Int32) (v1 : Int32) : Option (Int32 × ob_B) := if v1 < 0 ∨ 40 ≤ Int32.toNatClampNeg v1 then none else (ob_lt (ob_A b 3 (upd (b.2 3) (Int32.toNatClampNeg v1) v0) : ob_B) (fun b_1 => if x1 < 0 ∨ 40 ≤ Int32.toNatClampNeg x1 then none else (some ((b_1.2 3) (Int32.toNatClampNeg x1), b_1))))
def fd_X2_put  (b : ob_B) (x1 : Int32) (x2 : Int32) : Option (Int32 × ob_B) := if (b.1 1) = 0 then (fd_X2_put_L31 b x1 (Int8.toInt32 (Int32.toInt8 x2)) x1) else (if (b.1 1) = 1 then (fd_X2_put_L31 b x1 (Int16.toInt32 (Int32.toInt16 x2)) x1) else (fd_X2_put_L31 b x1 x2 x1))
set_option maxHeartbeats 4000000 in
set_option maxRecDepth 100000 in
theorem mt_X2_put (l : Launch) (dC : Nat → ClassId) (dI : Nat → Nat → Nat) (cI cZ cR cW : ClassId) (xs : Nat → Nat) (sz : Nat) (o_b : Nat) (a_b : Nat → Nat) (b : ob_B) (x1 : Int32) (x2 : Int32)  (rr : Int32) (b' : ob_B) (hd : fd_X2_put b x1 x2 = some (rr, b')) : ob_M l yX2_put wsX2_put ({ frames := 0, cells := 0, slots := 0, locals := 0 } : Room) (dC, dI) (ob_ty cI cZ cR cW) xs [.ref o_b, .int x1, .int x2] (ob_w2 o_b a_b cI b) sz (ob_Qi (dC, dI) rr (ob_w2 o_b a_b cI b')) := by
  rw [fd_X2_put] at hd
  refine ob_in (cc := cX2_put) (maxL := 3) (ret := (some .int)) (own := RX2) (by decide) rfl rfl [(0, .ref o_b), (1, .int x1), (2, .int x2)] rfl (Nat.le_of_ble_eq_true rfl) ?_
  intro p e s m below meth c hx hb hr hml hown hts hlocks hnm hK A hA hE hP hD hS ls hl
  have kw0 := hts (.fieldLink RX2 22 "OathCoach$Row" "items" "[I") (by decide +kernel)
  have kw1 := hts (.fieldLink RX2 15 "OathCoach$Row" "lane" "I") (by decide +kernel)
  have hi_X2 : ∀ w ∈ u_ws RX2 TX2 4, w ∈ wsX2_put := by decide +kernel
  have L31 : ∀ (H : Heap) (locs : List Loc) (b : ob_B) (v0 : Int32) (v1 : Int32) (ls : Array Slot), va_P (dC, dI) vwCl (ob_w2 o_b a_b cI b) H → va_D A (ob_w2 o_b a_b cI b) → va_S A s.heap H locs → lv_has ls 3 [(0, .ref o_b), (1, .int x1)] → fd_X2_put_L31 b x1 v0 v1 = some (rr, b') → W p l e ({ frames := 0, cells := 0, slots := 0, locals := 0 } : Room) s m (List.toArray [.ref o_b, .int x1, .int x2]) below meth c H locs 0 0 (MQ below ((ob_Qi (dC, dI) rr (ob_w2 o_b a_b cI b')) A) (List.toArray [.ref o_b, .int x1, .int x2]) s 0 0 A) (F0 m 31 ls [.int v0, .int v1, .ref (a_b 3)]) := by
    intro  H locs b v0 v1 ls hP hD hS hl hd
    rw [fd_X2_put_L31] at hd
    obtain ⟨h1_31, hd⟩ := ob_nn hd
    refine va_iast hx hb hK hP hD hS 1 0 rfl rfl h1_31 dX2_put_31 (fun H locs hP hD hS => ?_)
    obtain ⟨b_1, eb_1⟩ : ∃ z : ob_B, z = ob_A b 3 (upd (b.2 3) (Int32.toNatClampNeg v1) v0) := ⟨_, rfl⟩
    replace hd := ob_lx eb_1 hd
    replace hP : va_P (dC, dI) vwCl (ob_w2 o_b a_b cI b_1) H := by rw [eb_1]; exact hP
    replace hD : va_D A (ob_w2 o_b a_b cI b_1) := by rw [eb_1]; exact hD
    clear eb_1
    refine lv_aload_n hx hb dX2_put_32 rfl (lv_at hl 0 rfl) ?_
    refine va_get (D := (dC, dI)) (ci := 2) (v := .ref (a_b 3)) (C := RX2) (T := TX2) (N := 4) hx hb hts hi_X2 hown hK hP 0 rfl rfl 3 (by decide) kw0 (fun _ h9 => h9) rfl dX2_put_33 ?_
    refine lv_iload_n hx hb dX2_put_36 rfl (lv_at hl 1 rfl) ?_
    obtain ⟨h1_37, hd⟩ := ob_nn hd
    refine va_iald hx hb hK hP 1 0 rfl rfl h1_37 dX2_put_37 ?_
    obtain ⟨e1, e2⟩ := ob_pp hd
    subst e1
    subst e2
    exact ob_iret hx hb hr hlocks hP hD hS dX2_put_38
  refine lv_aload_n hx hb dX2_put_0 rfl (lv_at hl 0 rfl) ?_
  refine va_get (D := (dC, dI)) (ci := 2) (v := .ref (a_b 3)) (C := RX2) (T := TX2) (N := 4) hx hb hts hi_X2 hown hK hP 0 rfl rfl 3 (by decide) kw0 (fun _ h9 => h9) rfl dX2_put_1 ?_
  refine lv_iload_n hx hb dX2_put_4 rfl (lv_at hl 1 rfl) ?_
  refine lv_aload_n hx hb dX2_put_5 rfl (lv_at hl 0 rfl) ?_
  refine va_get (D := (dC, dI)) (ci := 2) (v := .int (b.1 1)) (C := RX2) (T := TX2) (N := 4) hx hb hts hi_X2 hown hK hP 0 rfl rfl 1 (by decide) kw1 (fun _ h9 => h9) rfl dX2_put_6 ?_
  refine lv_if_ne (tgt := 17) hx hb dX2_put_9 (by decide) (fun c_9 => ?_) (fun c_9 => ?_)
  · replace hd := ob_f c_9 hd
    refine lv_aload_n hx hb dX2_put_17 rfl (lv_at hl 0 rfl) ?_
    refine va_get (D := (dC, dI)) (ci := 2) (v := .int (b.1 1)) (C := RX2) (T := TX2) (N := 4) hx hb hts hi_X2 hown hK hP 0 rfl rfl 1 (by decide) kw1 (fun _ h9 => h9) rfl dX2_put_18 ?_
    refine lv_iconst (v := 1) hx hb dX2_put_21 (by decide) ?_
    refine lv_icmp_ne (tgt := 30) hx hb dX2_put_22 (by decide) (fun c_22 => ?_) (fun c_22 => ?_)
    · replace hd := ob_f c_22 hd
      refine lv_iload_n hx hb dX2_put_30 rfl (lv_at hl 2 rfl) ?_
      exact L31   _ _ b x2 x1 _ hP hD hS (lv_sub hl [0, 1] rfl) hd
    · replace hd := ob_t c_22 hd
      refine lv_iload_n hx hb dX2_put_25 rfl (lv_at hl 2 rfl) ?_
      refine lv_i2s hx hb dX2_put_26 rfl ?_
      refine lv_goto (tgt := 31) hx hb dX2_put_27 (by decide) ?_
      exact L31   _ _ b (Int16.toInt32 (Int32.toInt16 x2)) x1 _ hP hD hS (lv_sub hl [0, 1] rfl) hd
  · replace hd := ob_t c_9 hd
    refine lv_iload_n hx hb dX2_put_12 rfl (lv_at hl 2 rfl) ?_
    refine lv_i2b hx hb dX2_put_13 rfl ?_
    refine lv_goto (tgt := 31) hx hb dX2_put_14 (by decide) ?_
    exact L31   _ _ b (Int8.toInt32 (Int32.toInt8 x2)) x1 _ hP hD hS (lv_sub hl [0, 1] rfl) hd
