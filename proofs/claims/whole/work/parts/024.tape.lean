def fd_X3_isFigure   (x0 : Int32) : Option (Int32) := if x0 < 48 then (some (0)) else (if 57 < x0 then (some (0)) else (some (1)))
set_option maxHeartbeats 4000000 in
set_option maxRecDepth 100000 in
theorem mt_X3_isFigure (l : Launch) (dC : Nat → ClassId) (dI : Nat → Nat → Nat) (cI cZ cR cW : ClassId) (xs : Nat → Nat) (sz : Nat)   (x0 : Int32)  (rr : Int32) (hd : fd_X3_isFigure x0 = some (rr)) : ob_M l yX3_isFigure wsX3_isFigure ({ frames := 0, cells := 0, slots := 0, locals := 0 } : Room) (dC, dI) (ob_ty cI cZ cR cW) xs [.int x0] ([] : va_W) sz (ob_Qi (dC, dI) rr ([] : va_W)) := by
  rw [fd_X3_isFigure] at hd
  refine ob_in (cc := cX3_isFigure) (maxL := 1) (ret := (some .boolean)) (own := RX3) (by decide) rfl rfl [(0, .int x0)] rfl (Nat.le_of_ble_eq_true rfl) ?_
  intro p e s m below meth c hx hb hr hml hown hts hlocks hnm hK A hA hE hP hD hS ls hl
  refine lv_iload_n hx hb dX3_isFigure_0 rfl (lv_at hl 0 rfl) ?_
  refine lv_bipush (v := 48) hx hb dX3_isFigure_1 (by decide) ?_
  refine lv_icmp_lt (tgt := 16) hx hb dX3_isFigure_3 (by decide) (fun c_3 => ?_) (fun c_3 => ?_)
  · replace hd := ob_t c_3 hd
    refine lv_iconst (v := 0) hx hb dX3_isFigure_16 (by decide) ?_
    have e1 := Option.some.inj hd
    subst e1
    exact ob_zret hx hb hr hlocks (by decide) hP hD hS dX3_isFigure_17
  · replace hd := ob_f c_3 hd
    refine lv_iload_n hx hb dX3_isFigure_6 rfl (lv_at hl 0 rfl) ?_
    refine lv_bipush (v := 57) hx hb dX3_isFigure_7 (by decide) ?_
    refine lv_icmp_gt (tgt := 16) hx hb dX3_isFigure_9 (by decide) (fun c_9 => ?_) (fun c_9 => ?_)
    · replace hd := ob_t c_9 hd
      refine lv_iconst (v := 0) hx hb dX3_isFigure_16 (by decide) ?_
      have e1 := Option.some.inj hd
      subst e1
      exact ob_zret hx hb hr hlocks (by decide) hP hD hS dX3_isFigure_17
    · replace hd := ob_f c_9 hd
      refine lv_iconst (v := 1) hx hb dX3_isFigure_12 (by decide) ?_
      refine lv_goto (tgt := 17) hx hb dX3_isFigure_13 (by decide) ?_
      have e1 := Option.some.inj hd
      subst e1
      exact ob_zret hx hb hr hlocks (by decide) hP hD hS dX3_isFigure_17

def fd_X3_isFull  (b : ob_B)  : Option (Int32) := if (b.1 1) < 100 then (some (0)) else (some (1))
set_option maxHeartbeats 4000000 in
set_option maxRecDepth 100000 in
theorem mt_X3_isFull (l : Launch) (dC : Nat → ClassId) (dI : Nat → Nat → Nat) (cI cZ cR cW : ClassId) (xs : Nat → Nat) (sz : Nat) (o_b : Nat) (a_b : Nat → Nat) (b : ob_B)   (rr : Int32) (hd : fd_X3_isFull b = some (rr)) : ob_M l yX3_isFull wsX3_isFull ({ frames := 0, cells := 0, slots := 0, locals := 0 } : Room) (dC, dI) (ob_ty cI cZ cR cW) xs [.ref o_b] (ob_w3 o_b a_b cI b) sz (ob_Qi (dC, dI) rr (ob_w3 o_b a_b cI b)) := by
  rw [fd_X3_isFull] at hd
  refine ob_in (cc := cX3_isFull) (maxL := 1) (ret := (some .boolean)) (own := RX3) (by decide) rfl rfl [(0, .ref o_b)] rfl (Nat.le_of_ble_eq_true rfl) ?_
  intro p e s m below meth c hx hb hr hml hown hts hlocks hnm hK A hA hE hP hD hS ls hl
  have kw0 := hts (.fieldLink RX3 15 "OathCoach$Tape" "size" "I") (by decide +kernel)
  have hi_X3 : ∀ w ∈ u_ws RX3 TX3 4, w ∈ wsX3_isFull := by decide +kernel
  refine lv_aload_n hx hb dX3_isFull_0 rfl (lv_at hl 0 rfl) ?_
  refine va_get (D := (dC, dI)) (ci := 3) (v := .int (b.1 1)) (C := RX3) (T := TX3) (N := 4) hx hb hts hi_X3 hown hK hP 0 rfl rfl 1 (by decide) kw0 (fun _ h9 => h9) rfl dX3_isFull_1 ?_
  refine lv_bipush (v := 100) hx hb dX3_isFull_4 (by decide) ?_
  refine lv_icmp_lt (tgt := 13) hx hb dX3_isFull_6 (by decide) (fun c_6 => ?_) (fun c_6 => ?_)
  · replace hd := ob_t c_6 hd
    refine lv_iconst (v := 0) hx hb dX3_isFull_13 (by decide) ?_
    have e1 := Option.some.inj hd
    subst e1
    exact ob_zret hx hb hr hlocks (by decide) hP hD hS dX3_isFull_14
  · replace hd := ob_f c_6 hd
    refine lv_iconst (v := 1) hx hb dX3_isFull_9 (by decide) ?_
    refine lv_goto (tgt := 14) hx hb dX3_isFull_10 (by decide) ?_
    have e1 := Option.some.inj hd
    subst e1
    exact ob_zret hx hb hr hlocks (by decide) hP hD hS dX3_isFull_14

def fd_X3_add  (b : ob_B) (x1 : Int32) : Option (ob_B) := if (b.1 1) < 0 ∨ 100 ≤ Int32.toNatClampNeg (b.1 1) then none else (ob_lt (ob_A b 0 (upd (b.2 0) (Int32.toNatClampNeg (b.1 1)) x1) : ob_B) (fun b_1 => ob_lt ((b_1.1 1) + 1 : Int32) (fun x_2 => ob_lt (ob_I b_1 1 x_2 : ob_B) (fun b_3 => some (b_3)))))
set_option maxHeartbeats 4000000 in
set_option maxRecDepth 100000 in
theorem mt_X3_add (l : Launch) (dC : Nat → ClassId) (dI : Nat → Nat → Nat) (cI cZ cR cW : ClassId) (xs : Nat → Nat) (sz : Nat) (o_b : Nat) (a_b : Nat → Nat) (b : ob_B) (x1 : Int32)  (b' : ob_B) (hd : fd_X3_add b x1 = some (b')) : ob_M l yX3_add wsX3_add ({ frames := 0, cells := 0, slots := 0, locals := 0 } : Room) (dC, dI) (ob_ty cI cZ cR cW) xs [.ref o_b, .int x1] (ob_w3 o_b a_b cI b) sz (ob_Qv (dC, dI) (ob_w3 o_b a_b cI b')) := by
  rw [fd_X3_add] at hd
  refine ob_in (cc := cX3_add) (maxL := 2) (ret := none) (own := RX3) (by decide) rfl rfl [(0, .ref o_b), (1, .int x1)] rfl (Nat.le_of_ble_eq_true rfl) ?_
  intro p e s m below meth c hx hb hr hml hown hts hlocks hnm hK A hA hE hP hD hS ls hl
  have kw0 := hts (.fieldLink RX3 11 "OathCoach$Tape" "bytes" "[I") (by decide +kernel)
  have kw1 := hts (.fieldLink RX3 15 "OathCoach$Tape" "size" "I") (by decide +kernel)
  have hi_X3 : ∀ w ∈ u_ws RX3 TX3 4, w ∈ wsX3_add := by decide +kernel
  refine lv_aload_n hx hb dX3_add_0 rfl (lv_at hl 0 rfl) ?_
  refine va_get (D := (dC, dI)) (ci := 3) (v := .ref (a_b 0)) (C := RX3) (T := TX3) (N := 4) hx hb hts hi_X3 hown hK hP 0 rfl rfl 0 (by decide) kw0 (fun _ h9 => h9) rfl dX3_add_1 ?_
  refine lv_aload_n hx hb dX3_add_4 rfl (lv_at hl 0 rfl) ?_
  refine va_get (D := (dC, dI)) (ci := 3) (v := .int (b.1 1)) (C := RX3) (T := TX3) (N := 4) hx hb hts hi_X3 hown hK hP 0 rfl rfl 1 (by decide) kw1 (fun _ h9 => h9) rfl dX3_add_5 ?_
  refine lv_iload_n hx hb dX3_add_8 rfl (lv_at hl 1 rfl) ?_
  obtain ⟨h1_9, hd⟩ := ob_nn hd
  refine va_iast hx hb hK hP hD hS 1 0 rfl rfl h1_9 dX3_add_9 (fun H locs hP hD hS => ?_)
  obtain ⟨b_1, eb_1⟩ : ∃ z : ob_B, z = ob_A b 0 (upd (b.2 0) (Int32.toNatClampNeg (b.1 1)) x1) := ⟨_, rfl⟩
  replace hd := ob_lx eb_1 hd
  replace hP : va_P (dC, dI) vwCl (ob_w3 o_b a_b cI b_1) H := by rw [eb_1]; exact hP
  replace hD : va_D A (ob_w3 o_b a_b cI b_1) := by rw [eb_1]; exact hD
  clear eb_1
  refine lv_aload_n hx hb dX3_add_10 rfl (lv_at hl 0 rfl) ?_
  refine lv_dup hx hb dX3_add_11 rfl ?_
  refine va_get (D := (dC, dI)) (ci := 3) (v := .int (b_1.1 1)) (C := RX3) (T := TX3) (N := 4) hx hb hts hi_X3 hown hK hP 0 rfl rfl 1 (by decide) kw1 (fun _ h9 => h9) rfl dX3_add_12 ?_
  refine lv_iconst (v := 1) hx hb dX3_add_15 (by decide) ?_
  refine lv_iadd hx hb dX3_add_16 ?_
  refine lv_topi (fun x_2 ex_2 => ?_)
  replace hd := ob_lx ex_2 hd
  clear ex_2
  refine va_put (D := (dC, dI)) (ci := 3) (v := .int x_2) (ty := .int) (C := RX3) (T := TX3) (N := 4) hx hb hts hi_X3 tyX3 tyX3_ok nmX3 hown hK hP hD hS 0 rfl rfl 1 (by decide) kw1 (fun _ h9 => h9) rfl (by decide +kernel) rfl rfl (Nat.le_of_ble_eq_true rfl) dX3_add_17 (fun H locs hP hD hS => ?_)
  obtain ⟨b_3, eb_3⟩ : ∃ z : ob_B, z = ob_I b_1 1 x_2 := ⟨_, rfl⟩
  replace hd := ob_lx eb_3 hd
  replace hP : va_P (dC, dI) vwCl (ob_w3 o_b a_b cI b_3) H := by rw [eb_3]; exact hP
  replace hD : va_D A (ob_w3 o_b a_b cI b_3) := by rw [eb_3]; exact hD
  clear eb_3
  have e1 := Option.some.inj hd
  subst e1
  exact ob_vret hx hb hr hlocks hP hD hS dX3_add_20

def fd_X3_stop  (b : ob_B) (x1 : Int32) : Option (Int32 × ob_B) := ob_lt (ob_I b 3 x1 : ob_B) (fun b_1 => some (0, b_1))
set_option maxHeartbeats 4000000 in
set_option maxRecDepth 100000 in
theorem mt_X3_stop (l : Launch) (dC : Nat → ClassId) (dI : Nat → Nat → Nat) (cI cZ cR cW : ClassId) (xs : Nat → Nat) (sz : Nat) (o_b : Nat) (a_b : Nat → Nat) (b : ob_B) (x1 : Int32)  (rr : Int32) (b' : ob_B) (hd : fd_X3_stop b x1 = some (rr, b')) : ob_M l yX3_stop wsX3_stop ({ frames := 0, cells := 0, slots := 0, locals := 0 } : Room) (dC, dI) (ob_ty cI cZ cR cW) xs [.ref o_b, .int x1] (ob_w3 o_b a_b cI b) sz (ob_Qi (dC, dI) rr (ob_w3 o_b a_b cI b')) := by
  rw [fd_X3_stop] at hd
  refine ob_in (cc := cX3_stop) (maxL := 2) (ret := (some .int)) (own := RX3) (by decide) rfl rfl [(0, .ref o_b), (1, .int x1)] rfl (Nat.le_of_ble_eq_true rfl) ?_
  intro p e s m below meth c hx hb hr hml hown hts hlocks hnm hK A hA hE hP hD hS ls hl
  have kw0 := hts (.fieldLink RX3 22 "OathCoach$Tape" "faultNumber" "I") (by decide +kernel)
  have hi_X3 : ∀ w ∈ u_ws RX3 TX3 4, w ∈ wsX3_stop := by decide +kernel
  refine lv_aload_n hx hb dX3_stop_0 rfl (lv_at hl 0 rfl) ?_
  refine lv_iload_n hx hb dX3_stop_1 rfl (lv_at hl 1 rfl) ?_
  refine va_put (D := (dC, dI)) (ci := 3) (v := .int x1) (ty := .int) (C := RX3) (T := TX3) (N := 4) hx hb hts hi_X3 tyX3 tyX3_ok nmX3 hown hK hP hD hS 0 rfl rfl 3 (by decide) kw0 (fun _ h9 => h9) rfl (by decide +kernel) rfl rfl (Nat.le_of_ble_eq_true rfl) dX3_stop_2 (fun H locs hP hD hS => ?_)
  obtain ⟨b_1, eb_1⟩ : ∃ z : ob_B, z = ob_I b 3 x1 := ⟨_, rfl⟩
  replace hd := ob_lx eb_1 hd
  replace hP : va_P (dC, dI) vwCl (ob_w3 o_b a_b cI b_1) H := by rw [eb_1]; exact hP
  replace hD : va_D A (ob_w3 o_b a_b cI b_1) := by rw [eb_1]; exact hD
  clear eb_1
  refine lv_iconst (v := 0) hx hb dX3_stop_5 (by decide) ?_
  obtain ⟨e1, e2⟩ := ob_pp hd
  subst e1
  subst e2
  exact ob_iret hx hb hr hlocks hP hD hS dX3_stop_6

def fd_X3_readByte  (b : ob_B) (x1 : Int32) : Option (ob_B) := if (b.1 3) = 0 then (if (b.1 1) ≤ (b.1 2) then (ob_b2 (fd_X3_stop b 1) (fun r_1 b_2 => some (b_2))) else (if (b.1 2) < 0 ∨ 100 ≤ Int32.toNatClampNeg (b.1 2) then none else (if ((b.2 0) (Int32.toNatClampNeg (b.1 2))) = x1 then (ob_lt ((b.1 2) + 1 : Int32) (fun x_5 => ob_lt (ob_I b 2 x_5 : ob_B) (fun b_6 => some (b_6)))) else (ob_b2 (fd_X3_stop b 1) (fun r_3 b_4 => some (b_4)))))) else (some (b))
set_option maxHeartbeats 4000000 in
set_option maxRecDepth 100000 in
theorem mt_X3_readByte (l : Launch) (dC : Nat → ClassId) (dI : Nat → Nat → Nat) (cI cZ cR cW : ClassId) (xs : Nat → Nat) (sz : Nat) (o_b : Nat) (a_b : Nat → Nat) (b : ob_B) (x1 : Int32)  (b' : ob_B) (hd : fd_X3_readByte b x1 = some (b')) : ob_M l yX3_readByte wsX3_readByte ({ frames := 1, cells := 0, slots := 0, locals := 21 } : Room) (dC, dI) (ob_ty cI cZ cR cW) xs [.ref o_b, .int x1] (ob_w3 o_b a_b cI b) sz (ob_Qv (dC, dI) (ob_w3 o_b a_b cI b')) := by
  rw [fd_X3_readByte] at hd
  refine ob_in (cc := cX3_readByte) (maxL := 2) (ret := none) (own := RX3) (by decide) rfl rfl [(0, .ref o_b), (1, .int x1)] rfl (Nat.le_of_ble_eq_true rfl) ?_
  intro p e s m below meth c hx hb hr hml hown hts hlocks hnm hK A hA hE hP hD hS ls hl
  have kw0 := hts (.fieldLink RX3 22 "OathCoach$Tape" "faultNumber" "I") (by decide +kernel)
  have kw1 := hts (.fieldLink RX3 19 "OathCoach$Tape" "at" "I") (by decide +kernel)
  have kw2 := hts (.fieldLink RX3 15 "OathCoach$Tape" "size" "I") (by decide +kernel)
  have kw3 := hts (.fieldLink RX3 11 "OathCoach$Tape" "bytes" "[I") (by decide +kernel)
  have hi_X3 : ∀ w ∈ u_ws RX3 TX3 4, w ∈ wsX3_readByte := by decide +kernel
  refine lv_aload_n hx hb dX3_readByte_0 rfl (lv_at hl 0 rfl) ?_
  refine va_get (D := (dC, dI)) (ci := 3) (v := .int (b.1 3)) (C := RX3) (T := TX3) (N := 4) hx hb hts hi_X3 hown hK hP 0 rfl rfl 3 (by decide) kw0 (fun _ h9 => h9) rfl dX3_readByte_1 ?_
  refine lv_if_eq (tgt := 8) hx hb dX3_readByte_4 (by decide) (fun c_4 => ?_) (fun c_4 => ?_)
  · replace hd := ob_t c_4 hd
    refine lv_aload_n hx hb dX3_readByte_8 rfl (lv_at hl 0 rfl) ?_
    refine va_get (D := (dC, dI)) (ci := 3) (v := .int (b.1 2)) (C := RX3) (T := TX3) (N := 4) hx hb hts hi_X3 hown hK hP 0 rfl rfl 2 (by decide) kw1 (fun _ h9 => h9) rfl dX3_readByte_9 ?_
    refine lv_aload_n hx hb dX3_readByte_12 rfl (lv_at hl 0 rfl) ?_
    refine va_get (D := (dC, dI)) (ci := 3) (v := .int (b.1 1)) (C := RX3) (T := TX3) (N := 4) hx hb hts hi_X3 hown hK hP 0 rfl rfl 1 (by decide) kw2 (fun _ h9 => h9) rfl dX3_readByte_13 ?_
    refine lv_icmp_ge (tgt := 45) hx hb dX3_readByte_16 (by decide) (fun c_16 => ?_) (fun c_16 => ?_)
    · replace hd := ob_t c_16 hd
      refine lv_aload_n hx hb dX3_readByte_45 rfl (lv_at hl 0 rfl) ?_
      refine lv_iconst (v := 1) hx hb dX3_readByte_46 (by decide) ?_
      obtain ⟨r_1, b_2, hc_47, hd⟩ := ob_s2 hd
      refine ob_Vi (isC := [0, 1]) (isR := []) (is2 := [0, 1]) (wc := (ob_w3 o_b a_b cI b)) (wr := ([] : va_W)) (w1 := (ob_w3 o_b a_b cI b_2)) (w2 := (ob_w3 o_b a_b cI b_2)) (b := o_b) (As := [.int 1]) (rest := []) ⟨hx, hb, hml, hown, hts⟩ (mt_X3_stop l dC dI cI cZ cR cW xs _ o_b a_b b 1 r_1 b_2 hc_47) (cwV 1 hts gX3_readByte_X3_stop rfl rfl rfl (by decide +kernel) ⟨Nat.le_of_ble_eq_true rfl, Nat.le_of_ble_eq_true rfl⟩) hK hE hP hD hS hA ⟨rfl, rfl, rfl, rfl, rfl, rfl, rfl⟩ 3 0 rfl rfl rfl hl rfl rfl (Nat.le_of_ble_eq_true rfl) ⟨Nat.le_of_ble_eq_true rfl, Nat.le_of_ble_eq_true rfl⟩ dX3_readByte_47 (fun H locs hP hD hS => ?_)
      refine W.widen (k := 0) (n := 0) (Nat.le_refl _) (Nat.le_refl _) ?_
      refine lv_pop hx hb dX3_readByte_50 rfl ?_
      have e1 := Option.some.inj hd
      subst e1
      exact ob_vret hx hb hr hlocks hP hD hS dX3_readByte_51
    · replace hd := ob_f c_16 hd
      refine lv_aload_n hx hb dX3_readByte_19 rfl (lv_at hl 0 rfl) ?_
      refine va_get (D := (dC, dI)) (ci := 3) (v := .ref (a_b 0)) (C := RX3) (T := TX3) (N := 4) hx hb hts hi_X3 hown hK hP 0 rfl rfl 0 (by decide) kw3 (fun _ h9 => h9) rfl dX3_readByte_20 ?_
      refine lv_aload_n hx hb dX3_readByte_23 rfl (lv_at hl 0 rfl) ?_
      refine va_get (D := (dC, dI)) (ci := 3) (v := .int (b.1 2)) (C := RX3) (T := TX3) (N := 4) hx hb hts hi_X3 hown hK hP 0 rfl rfl 2 (by decide) kw1 (fun _ h9 => h9) rfl dX3_readByte_24 ?_
      obtain ⟨h1_27, hd⟩ := ob_nn hd
      refine va_iald hx hb hK hP 1 0 rfl rfl h1_27 dX3_readByte_27 ?_
      refine lv_iload_n hx hb dX3_readByte_28 rfl (lv_at hl 1 rfl) ?_
      refine lv_icmp_ne (tgt := 45) hx hb dX3_readByte_29 (by decide) (fun c_29 => ?_) (fun c_29 => ?_)
      · replace hd := ob_f c_29 hd
        refine lv_aload_n hx hb dX3_readByte_45 rfl (lv_at hl 0 rfl) ?_
        refine lv_iconst (v := 1) hx hb dX3_readByte_46 (by decide) ?_
        obtain ⟨r_3, b_4, hc_47, hd⟩ := ob_s2 hd
        refine ob_Vi (isC := [0, 1]) (isR := []) (is2 := [0, 1]) (wc := (ob_w3 o_b a_b cI b)) (wr := ([] : va_W)) (w1 := (ob_w3 o_b a_b cI b_4)) (w2 := (ob_w3 o_b a_b cI b_4)) (b := o_b) (As := [.int 1]) (rest := []) ⟨hx, hb, hml, hown, hts⟩ (mt_X3_stop l dC dI cI cZ cR cW xs _ o_b a_b b 1 r_3 b_4 hc_47) (cwV 1 hts gX3_readByte_X3_stop rfl rfl rfl (by decide +kernel) ⟨Nat.le_of_ble_eq_true rfl, Nat.le_of_ble_eq_true rfl⟩) hK hE hP hD hS hA ⟨rfl, rfl, rfl, rfl, rfl, rfl, rfl⟩ 3 0 rfl rfl rfl hl rfl rfl (Nat.le_of_ble_eq_true rfl) ⟨Nat.le_of_ble_eq_true rfl, Nat.le_of_ble_eq_true rfl⟩ dX3_readByte_47 (fun H locs hP hD hS => ?_)
        refine W.widen (k := 0) (n := 0) (Nat.le_refl _) (Nat.le_refl _) ?_
        refine lv_pop hx hb dX3_readByte_50 rfl ?_
        have e1 := Option.some.inj hd
        subst e1
        exact ob_vret hx hb hr hlocks hP hD hS dX3_readByte_51
      · replace hd := ob_t c_29 hd
        refine lv_aload_n hx hb dX3_readByte_32 rfl (lv_at hl 0 rfl) ?_
        refine lv_dup hx hb dX3_readByte_33 rfl ?_
        refine va_get (D := (dC, dI)) (ci := 3) (v := .int (b.1 2)) (C := RX3) (T := TX3) (N := 4) hx hb hts hi_X3 hown hK hP 0 rfl rfl 2 (by decide) kw1 (fun _ h9 => h9) rfl dX3_readByte_34 ?_
        refine lv_iconst (v := 1) hx hb dX3_readByte_37 (by decide) ?_
        refine lv_iadd hx hb dX3_readByte_38 ?_
        refine lv_topi (fun x_5 ex_5 => ?_)
        replace hd := ob_lx ex_5 hd
        clear ex_5
        refine va_put (D := (dC, dI)) (ci := 3) (v := .int x_5) (ty := .int) (C := RX3) (T := TX3) (N := 4) hx hb hts hi_X3 tyX3 tyX3_ok nmX3 hown hK hP hD hS 0 rfl rfl 2 (by decide) kw1 (fun _ h9 => h9) rfl (by decide +kernel) rfl rfl (Nat.le_of_ble_eq_true rfl) dX3_readByte_39 (fun H locs hP hD hS => ?_)
        obtain ⟨b_6, eb_6⟩ : ∃ z : ob_B, z = ob_I b 2 x_5 := ⟨_, rfl⟩
        replace hd := ob_lx eb_6 hd
        replace hP : va_P (dC, dI) vwCl (ob_w3 o_b a_b cI b_6) H := by rw [eb_6]; exact hP
        replace hD : va_D A (ob_w3 o_b a_b cI b_6) := by rw [eb_6]; exact hD
        clear eb_6
        refine lv_goto (tgt := 51) hx hb dX3_readByte_42 (by decide) ?_
        have e1 := Option.some.inj hd
        subst e1
        exact ob_vret hx hb hr hlocks hP hD hS dX3_readByte_51
  · replace hd := ob_f c_4 hd
    have e1 := Option.some.inj hd
    subst e1
    exact ob_vret hx hb hr hlocks hP hD hS dX3_readByte_7

def fd_X3_readNumber_L65  (b : ob_B) (x1 : Int32) (x2 : Int32) (z3 : Int32) (z4 : Int32) : Option (Int32 × ob_B) := if z3 = (b.1 2) then (ob_b2 (fd_X3_stop b 1) (fun r_5 b_6 => some (r_5, b_6))) else (if (z3 - (b.1 2)) ≤ 2 then (if z4 < x1 then (ob_b2 (fd_X3_stop b 2) (fun r_7 b_8 => some (r_7, b_8))) else (if z4 ≤ x2 then (ob_lt (ob_I b 2 z3 : ob_B) (fun b_9 => some (z4, b_9))) else (ob_b2 (fd_X3_stop b 2) (fun r_10 b_11 => some (r_10, b_11))))) else (ob_b2 (fd_X3_stop b 1) (fun r_12 b_13 => some (r_12, b_13))))
def fd_X3_readNumber_L17  : Nat → ob_B → Int32 → Int32 → Int32 → Int32 → Option (Int32 × ob_B)
  | 0, _, _, _, _, _ => none
  | fu + 1, b, x1, x2, z3, z4 => if (b.1 1) ≤ z3 then (fd_X3_readNumber_L65 b x1 x2 z3 z4) else (if z3 < 0 ∨ 100 ≤ Int32.toNatClampNeg z3 then none else (ob_b1 (fd_X3_isFigure ((b.2 0) (Int32.toNatClampNeg z3))) (fun r_2 => if r_2 = 0 then (fd_X3_readNumber_L65 b x1 x2 z3 z4) else (if z3 < 0 ∨ 100 ≤ Int32.toNatClampNeg z3 then none else (ob_lt (if 100 < (((z4 * 10) + ((b.2 0) (Int32.toNatClampNeg z3))) - 48) then 100 else (((z4 * 10) + ((b.2 0) (Int32.toNatClampNeg z3))) - 48) : Int32) (fun x_3 => ob_lt (z3 + 1 : Int32) (fun x_4 => fd_X3_readNumber_L17 fu b x1 x2 x_4 x_3)))))))
def fd_X3_readNumber  (b : ob_B) (x1 : Int32) (x2 : Int32) : Option (Int32 × ob_B) := if (b.1 3) = 0 then (ob_lt (b.1 2 : Int32) (fun x_1 => fd_X3_readNumber_L17 2000 b x1 x2 x_1 0)) else (some (0, b))
set_option maxHeartbeats 4000000 in
set_option maxRecDepth 100000 in
theorem mt_X3_readNumber (l : Launch) (dC : Nat → ClassId) (dI : Nat → Nat → Nat) (cI cZ cR cW : ClassId) (xs : Nat → Nat) (sz : Nat) (o_b : Nat) (a_b : Nat → Nat) (b : ob_B) (x1 : Int32) (x2 : Int32)  (rr : Int32) (b' : ob_B) (hd : fd_X3_readNumber b x1 x2 = some (rr, b')) : ob_M l yX3_readNumber wsX3_readNumber ({ frames := 1, cells := 0, slots := 0, locals := 21 } : Room) (dC, dI) (ob_ty cI cZ cR cW) xs [.ref o_b, .int x1, .int x2] (ob_w3 o_b a_b cI b) sz (ob_Qi (dC, dI) rr (ob_w3 o_b a_b cI b')) := by
  rw [fd_X3_readNumber] at hd
  refine ob_in (cc := cX3_readNumber) (maxL := 5) (ret := (some .int)) (own := RX3) (by decide) rfl rfl [(0, .ref o_b), (1, .int x1), (2, .int x2)] rfl (Nat.le_of_ble_eq_true rfl) ?_
  intro p e s m below meth c hx hb hr hml hown hts hlocks hnm hK A hA hE hP hD hS ls hl
  have kw0 := hts (.fieldLink RX3 22 "OathCoach$Tape" "faultNumber" "I") (by decide +kernel)
  have kw1 := hts (.fieldLink RX3 19 "OathCoach$Tape" "at" "I") (by decide +kernel)
  have kw2 := hts (.fieldLink RX3 15 "OathCoach$Tape" "size" "I") (by decide +kernel)
  have kw3 := hts (.fieldLink RX3 11 "OathCoach$Tape" "bytes" "[I") (by decide +kernel)
  have kw4 := hts (.methodLink RX3 72 Lib.Math.min.name) (by decide +kernel)
  have kw5 := hts (.static Lib.Math.min.name) (by decide +kernel)
  have kw6 := hts (.initialized "java/lang/Math") (by decide +kernel)
  have kw7 := hts (.code Lib.Math.min.name Lib.Math.min.code 2 (some .int)) (by decide +kernel)
  have hi_X3 : ∀ w ∈ u_ws RX3 TX3 4, w ∈ wsX3_readNumber := by decide +kernel
  have L65 : ∀ (H : Heap) (locs : List Loc) (b : ob_B) (z3 : Int32) (z4 : Int32) (ls : Array Slot), va_P (dC, dI) vwCl (ob_w3 o_b a_b cI b) H → va_D A (ob_w3 o_b a_b cI b) → va_S A s.heap H locs → lv_has ls 5 [(0, .ref o_b), (1, .int x1), (2, .int x2), (3, .int z3), (4, .int z4)] → fd_X3_readNumber_L65 b x1 x2 z3 z4 = some (rr, b') → W p l e ({ frames := 1, cells := 0, slots := 0, locals := 21 } : Room) s m (List.toArray [.ref o_b, .int x1, .int x2]) below meth c H locs 0 0 (MQ below ((ob_Qi (dC, dI) rr (ob_w3 o_b a_b cI b')) A) (List.toArray [.ref o_b, .int x1, .int x2]) s 0 0 A) (F0 m 65 ls []) := by
    intro  H locs b z3 z4 ls hP hD hS hl hd
    rw [fd_X3_readNumber_L65] at hd
    refine lv_iload_n hx hb dX3_readNumber_65 rfl (lv_at hl 3 rfl) ?_
    refine lv_aload_n hx hb dX3_readNumber_66 rfl (lv_at hl 0 rfl) ?_
    refine va_get (D := (dC, dI)) (ci := 3) (v := .int (b.1 2)) (C := RX3) (T := TX3) (N := 4) hx hb hts hi_X3 hown hK hP 0 rfl rfl 2 (by decide) kw1 (fun _ h9 => h9) rfl dX3_readNumber_67 ?_
    refine lv_icmp_eq (tgt := 83) hx hb dX3_readNumber_70 (by decide) (fun c_70 => ?_) (fun c_70 => ?_)
    · replace hd := ob_t c_70 hd
      refine lv_aload_n hx hb dX3_readNumber_83 rfl (lv_at hl 0 rfl) ?_
      refine lv_iconst (v := 1) hx hb dX3_readNumber_84 (by decide) ?_
      obtain ⟨r_5, b_6, hc_85, hd⟩ := ob_s2 hd
      refine ob_Vi (isC := [0, 1]) (isR := []) (is2 := [0, 1]) (wc := (ob_w3 o_b a_b cI b)) (wr := ([] : va_W)) (w1 := (ob_w3 o_b a_b cI b_6)) (w2 := (ob_w3 o_b a_b cI b_6)) (b := o_b) (As := [.int 1]) (rest := []) ⟨hx, hb, hml, hown, hts⟩ (mt_X3_stop l dC dI cI cZ cR cW xs _ o_b a_b b 1 r_5 b_6 hc_85) (cwV 1 hts gX3_readNumber_X3_stop rfl rfl rfl (by decide +kernel) ⟨Nat.le_of_ble_eq_true rfl, Nat.le_of_ble_eq_true rfl⟩) hK hE hP hD hS hA ⟨rfl, rfl, rfl, rfl, rfl, rfl, rfl⟩ 3 0 rfl rfl rfl hl rfl rfl (Nat.le_of_ble_eq_true rfl) ⟨Nat.le_of_ble_eq_true rfl, Nat.le_of_ble_eq_true rfl⟩ dX3_readNumber_85 (fun H locs hP hD hS => ?_)
      refine W.widen (k := 0) (n := 0) (Nat.le_refl _) (Nat.le_refl _) ?_
      obtain ⟨e1, e2⟩ := ob_pp hd
      subst e1
      subst e2
      exact ob_iret hx hb hr hlocks hP hD hS dX3_readNumber_88
    · replace hd := ob_f c_70 hd
      refine lv_iload_n hx hb dX3_readNumber_73 rfl (lv_at hl 3 rfl) ?_
      refine lv_aload_n hx hb dX3_readNumber_74 rfl (lv_at hl 0 rfl) ?_
      refine va_get (D := (dC, dI)) (ci := 3) (v := .int (b.1 2)) (C := RX3) (T := TX3) (N := 4) hx hb hts hi_X3 hown hK hP 0 rfl rfl 2 (by decide) kw1 (fun _ h9 => h9) rfl dX3_readNumber_75 ?_
      refine lv_isub hx hb dX3_readNumber_78 ?_
      refine lv_iconst (v := 2) hx hb dX3_readNumber_79 (by decide) ?_
      refine lv_icmp_le (tgt := 89) hx hb dX3_readNumber_80 (by decide) (fun c_80 => ?_) (fun c_80 => ?_)
      · replace hd := ob_t c_80 hd
        refine lv_iload hx hb dX3_readNumber_89 (lv_at hl 4 rfl) ?_
        refine lv_iload_n hx hb dX3_readNumber_91 rfl (lv_at hl 1 rfl) ?_
        refine lv_icmp_lt (tgt := 101) hx hb dX3_readNumber_92 (by decide) (fun c_92 => ?_) (fun c_92 => ?_)
        · replace hd := ob_t c_92 hd
          refine lv_aload_n hx hb dX3_readNumber_101 rfl (lv_at hl 0 rfl) ?_
          refine lv_iconst (v := 2) hx hb dX3_readNumber_102 (by decide) ?_
          obtain ⟨r_7, b_8, hc_103, hd⟩ := ob_s2 hd
          refine ob_Vi (isC := [0, 1]) (isR := []) (is2 := [0, 1]) (wc := (ob_w3 o_b a_b cI b)) (wr := ([] : va_W)) (w1 := (ob_w3 o_b a_b cI b_8)) (w2 := (ob_w3 o_b a_b cI b_8)) (b := o_b) (As := [.int 2]) (rest := []) ⟨hx, hb, hml, hown, hts⟩ (mt_X3_stop l dC dI cI cZ cR cW xs _ o_b a_b b 2 r_7 b_8 hc_103) (cwV 1 hts gX3_readNumber_X3_stop rfl rfl rfl (by decide +kernel) ⟨Nat.le_of_ble_eq_true rfl, Nat.le_of_ble_eq_true rfl⟩) hK hE hP hD hS hA ⟨rfl, rfl, rfl, rfl, rfl, rfl, rfl⟩ 3 0 rfl rfl rfl hl rfl rfl (Nat.le_of_ble_eq_true rfl) ⟨Nat.le_of_ble_eq_true rfl, Nat.le_of_ble_eq_true rfl⟩ dX3_readNumber_103 (fun H locs hP hD hS => ?_)
          refine W.widen (k := 0) (n := 0) (Nat.le_refl _) (Nat.le_refl _) ?_
          obtain ⟨e1, e2⟩ := ob_pp hd
          subst e1
          subst e2
          exact ob_iret hx hb hr hlocks hP hD hS dX3_readNumber_106
        · replace hd := ob_f c_92 hd
          refine lv_iload hx hb dX3_readNumber_95 (lv_at hl 4 rfl) ?_
          refine lv_iload_n hx hb dX3_readNumber_97 rfl (lv_at hl 2 rfl) ?_
          refine lv_icmp_le (tgt := 107) hx hb dX3_readNumber_98 (by decide) (fun c_98 => ?_) (fun c_98 => ?_)
          · replace hd := ob_t c_98 hd
            refine lv_aload_n hx hb dX3_readNumber_107 rfl (lv_at hl 0 rfl) ?_
            refine lv_iload_n hx hb dX3_readNumber_108 rfl (lv_at hl 3 rfl) ?_
            refine va_put (D := (dC, dI)) (ci := 3) (v := .int z3) (ty := .int) (C := RX3) (T := TX3) (N := 4) hx hb hts hi_X3 tyX3 tyX3_ok nmX3 hown hK hP hD hS 0 rfl rfl 2 (by decide) kw1 (fun _ h9 => h9) rfl (by decide +kernel) rfl rfl (Nat.le_of_ble_eq_true rfl) dX3_readNumber_109 (fun H locs hP hD hS => ?_)
            obtain ⟨b_9, eb_9⟩ : ∃ z : ob_B, z = ob_I b 2 z3 := ⟨_, rfl⟩
            replace hd := ob_lx eb_9 hd
            replace hP : va_P (dC, dI) vwCl (ob_w3 o_b a_b cI b_9) H := by rw [eb_9]; exact hP
            replace hD : va_D A (ob_w3 o_b a_b cI b_9) := by rw [eb_9]; exact hD
            clear eb_9
            refine lv_iload hx hb dX3_readNumber_112 (lv_at hl 4 rfl) ?_
            obtain ⟨e1, e2⟩ := ob_pp hd
            subst e1
            subst e2
            exact ob_iret hx hb hr hlocks hP hD hS dX3_readNumber_114
          · replace hd := ob_f c_98 hd
            refine lv_aload_n hx hb dX3_readNumber_101 rfl (lv_at hl 0 rfl) ?_
            refine lv_iconst (v := 2) hx hb dX3_readNumber_102 (by decide) ?_
            obtain ⟨r_10, b_11, hc_103, hd⟩ := ob_s2 hd
            refine ob_Vi (isC := [0, 1]) (isR := []) (is2 := [0, 1]) (wc := (ob_w3 o_b a_b cI b)) (wr := ([] : va_W)) (w1 := (ob_w3 o_b a_b cI b_11)) (w2 := (ob_w3 o_b a_b cI b_11)) (b := o_b) (As := [.int 2]) (rest := []) ⟨hx, hb, hml, hown, hts⟩ (mt_X3_stop l dC dI cI cZ cR cW xs _ o_b a_b b 2 r_10 b_11 hc_103) (cwV 1 hts gX3_readNumber_X3_stop rfl rfl rfl (by decide +kernel) ⟨Nat.le_of_ble_eq_true rfl, Nat.le_of_ble_eq_true rfl⟩) hK hE hP hD hS hA ⟨rfl, rfl, rfl, rfl, rfl, rfl, rfl⟩ 3 0 rfl rfl rfl hl rfl rfl (Nat.le_of_ble_eq_true rfl) ⟨Nat.le_of_ble_eq_true rfl, Nat.le_of_ble_eq_true rfl⟩ dX3_readNumber_103 (fun H locs hP hD hS => ?_)
            refine W.widen (k := 0) (n := 0) (Nat.le_refl _) (Nat.le_refl _) ?_
            obtain ⟨e1, e2⟩ := ob_pp hd
            subst e1
            subst e2
            exact ob_iret hx hb hr hlocks hP hD hS dX3_readNumber_106
      · replace hd := ob_f c_80 hd
        refine lv_aload_n hx hb dX3_readNumber_83 rfl (lv_at hl 0 rfl) ?_
        refine lv_iconst (v := 1) hx hb dX3_readNumber_84 (by decide) ?_
        obtain ⟨r_12, b_13, hc_85, hd⟩ := ob_s2 hd
        refine ob_Vi (isC := [0, 1]) (isR := []) (is2 := [0, 1]) (wc := (ob_w3 o_b a_b cI b)) (wr := ([] : va_W)) (w1 := (ob_w3 o_b a_b cI b_13)) (w2 := (ob_w3 o_b a_b cI b_13)) (b := o_b) (As := [.int 1]) (rest := []) ⟨hx, hb, hml, hown, hts⟩ (mt_X3_stop l dC dI cI cZ cR cW xs _ o_b a_b b 1 r_12 b_13 hc_85) (cwV 1 hts gX3_readNumber_X3_stop rfl rfl rfl (by decide +kernel) ⟨Nat.le_of_ble_eq_true rfl, Nat.le_of_ble_eq_true rfl⟩) hK hE hP hD hS hA ⟨rfl, rfl, rfl, rfl, rfl, rfl, rfl⟩ 3 0 rfl rfl rfl hl rfl rfl (Nat.le_of_ble_eq_true rfl) ⟨Nat.le_of_ble_eq_true rfl, Nat.le_of_ble_eq_true rfl⟩ dX3_readNumber_85 (fun H locs hP hD hS => ?_)
        refine W.widen (k := 0) (n := 0) (Nat.le_refl _) (Nat.le_refl _) ?_
        obtain ⟨e1, e2⟩ := ob_pp hd
        subst e1
        subst e2
        exact ob_iret hx hb hr hlocks hP hD hS dX3_readNumber_88
  have L17 : ∀  (fu : Nat), ∀ (H : Heap) (locs : List Loc) (b : ob_B) (z3 : Int32) (z4 : Int32) (ls : Array Slot), va_P (dC, dI) vwCl (ob_w3 o_b a_b cI b) H → va_D A (ob_w3 o_b a_b cI b) → va_S A s.heap H locs → lv_has ls 5 [(0, .ref o_b), (1, .int x1), (2, .int x2), (3, .int z3), (4, .int z4)] → fd_X3_readNumber_L17 fu b x1 x2 z3 z4 = some (rr, b') → W p l e ({ frames := 1, cells := 0, slots := 0, locals := 21 } : Room) s m (List.toArray [.ref o_b, .int x1, .int x2]) below meth c H locs 0 0 (MQ below ((ob_Qi (dC, dI) rr (ob_w3 o_b a_b cI b')) A) (List.toArray [.ref o_b, .int x1, .int x2]) s 0 0 A) (F0 m 17 ls []) := by
    intro  fu
    induction fu with
    | zero =>
      intro H locs b z3 z4 ls hP hD hS hl hd
      rw [fd_X3_readNumber_L17] at hd
      cases hd
    | succ fu ih =>
      intro H locs b z3 z4 ls hP hD hS hl hd
      rw [fd_X3_readNumber_L17] at hd
      refine lv_iload_n hx hb dX3_readNumber_17 rfl (lv_at hl 3 rfl) ?_
      refine lv_aload_n hx hb dX3_readNumber_18 rfl (lv_at hl 0 rfl) ?_
      refine va_get (D := (dC, dI)) (ci := 3) (v := .int (b.1 1)) (C := RX3) (T := TX3) (N := 4) hx hb hts hi_X3 hown hK hP 0 rfl rfl 1 (by decide) kw2 (fun _ h9 => h9) rfl dX3_readNumber_19 ?_
      refine lv_icmp_ge (tgt := 65) hx hb dX3_readNumber_22 (by decide) (fun c_22 => ?_) (fun c_22 => ?_)
      · replace hd := ob_t c_22 hd
        exact L65   _ _ b z3 z4 _ hP hD hS (lv_sub hl [0, 1, 2, 3, 4] rfl) hd
      · replace hd := ob_f c_22 hd
        refine lv_aload_n hx hb dX3_readNumber_25 rfl (lv_at hl 0 rfl) ?_
        refine va_get (D := (dC, dI)) (ci := 3) (v := .ref (a_b 0)) (C := RX3) (T := TX3) (N := 4) hx hb hts hi_X3 hown hK hP 0 rfl rfl 0 (by decide) kw3 (fun _ h9 => h9) rfl dX3_readNumber_26 ?_
        refine lv_iload_n hx hb dX3_readNumber_29 rfl (lv_at hl 3 rfl) ?_
        obtain ⟨h1_30, hd⟩ := ob_nn hd
        refine va_iald hx hb hK hP 1 0 rfl rfl h1_30 dX3_readNumber_30 ?_
        obtain ⟨r_2, hc_31, hd⟩ := ob_s1 hd
        refine ob_Si (isC := []) (isR := [0, 1]) (is2 := [0, 1]) (wc := ([] : va_W)) (wr := (List.filterMap (fun i => (ob_w3 o_b a_b cI b)[i]?) [0, 1])) (w1 := ([] : va_W)) (w2 := (ob_w3 o_b a_b cI b)) (As := [.int ((b.2 0) (Int32.toNatClampNeg z3))]) (rest := []) ⟨hx, hb, hml, hown, hts⟩ (mt_X3_isFigure l dC dI cI cZ cR cW xs _ ((b.2 0) (Int32.toNatClampNeg z3)) r_2 hc_31) (va_cwS 1 hts gX3_readNumber_X3_isFigure rfl rfl rfl (by decide +kernel) ⟨Nat.le_of_ble_eq_true rfl, Nat.le_of_ble_eq_true rfl⟩) hK hE hP hD hS hA ⟨rfl, rfl, rfl, rfl, rfl, rfl, rfl⟩ hl rfl rfl (Nat.le_of_ble_eq_true rfl) ⟨Nat.le_of_ble_eq_true rfl, Nat.le_of_ble_eq_true rfl⟩ dX3_readNumber_31 (fun H locs hP hD hS => ?_)
        refine W.widen (k := 0) (n := 0) (Nat.le_refl _) (Nat.le_refl _) ?_
        refine lv_if_eq (tgt := 65) hx hb dX3_readNumber_34 (by decide) (fun c_34 => ?_) (fun c_34 => ?_)
        · replace hd := ob_t c_34 hd
          exact L65   _ _ b z3 z4 _ hP hD hS (lv_sub hl [0, 1, 2, 3, 4] rfl) hd
        · replace hd := ob_f c_34 hd
          refine lv_iload hx hb dX3_readNumber_37 (lv_at hl 4 rfl) ?_
          refine lv_bipush (v := 10) hx hb dX3_readNumber_39 (by decide) ?_
          refine lv_imul hx hb dX3_readNumber_41 ?_
          refine lv_aload_n hx hb dX3_readNumber_42 rfl (lv_at hl 0 rfl) ?_
          refine va_get (D := (dC, dI)) (ci := 3) (v := .ref (a_b 0)) (C := RX3) (T := TX3) (N := 4) hx hb hts hi_X3 hown hK hP 0 rfl rfl 0 (by decide) kw3 (fun _ h9 => h9) rfl dX3_readNumber_43 ?_
          refine lv_iload_n hx hb dX3_readNumber_46 rfl (lv_at hl 3 rfl) ?_
          obtain ⟨h1_47, hd⟩ := ob_nn hd
          refine va_iald hx hb hK hP 1 0 rfl rfl h1_47 dX3_readNumber_47 ?_
          refine lv_iadd hx hb dX3_readNumber_48 ?_
          refine lv_bipush (v := 48) hx hb dX3_readNumber_49 (by decide) ?_
          refine lv_isub hx hb dX3_readNumber_51 ?_
          refine lv_bipush (v := 100) hx hb dX3_readNumber_52 (by decide) ?_
          refine va_mmin hx hb (by rw [hml]; exact hl.1.symm) hown kw4 kw5 kw6 kw7 (Nat.le_of_ble_eq_true rfl) (Nat.le_of_ble_eq_true rfl) (Nat.le_refl _) (Nat.le_refl _) dX3_readNumber_54 ?_
          refine lv_topi (fun x_3 ex_3 => ?_)
          replace hd := ob_lx ex_3 hd
          clear ex_3
          refine lv_istore (lv' := [(4, .int x_3), (0, .ref o_b), (1, .int x1), (2, .int x2), (3, .int z3)]) hx hb dX3_readNumber_57 hl (by decide) rfl (fun ls hl => ?_)
          obtain ⟨x_4, ex_4⟩ : ∃ z : Int32, z = z3 + 1 := ⟨_, rfl⟩
          replace hd := ob_lx ex_4 hd
          refine lv_iinc (v := x_4) (lv' := [(3, .int x_4), (4, .int x_3), (0, .ref o_b), (1, .int x1), (2, .int x2)]) hx hb dX3_readNumber_59 hl (k := 4) rfl (by rw [ex_4]; rfl) (by decide) rfl (fun ls hl => ?_)
          clear ex_4
          refine lv_goto (tgt := 17) hx hb dX3_readNumber_62 (by decide) ?_
          exact ih _ _ b x_4 x_3 _ hP hD hS (lv_sub hl [2, 3, 4, 0, 1] rfl) hd
  refine lv_aload_n hx hb dX3_readNumber_0 rfl (lv_at hl 0 rfl) ?_
  refine va_get (D := (dC, dI)) (ci := 3) (v := .int (b.1 3)) (C := RX3) (T := TX3) (N := 4) hx hb hts hi_X3 hown hK hP 0 rfl rfl 3 (by decide) kw0 (fun _ h9 => h9) rfl dX3_readNumber_1 ?_
  refine lv_if_eq (tgt := 9) hx hb dX3_readNumber_4 (by decide) (fun c_4 => ?_) (fun c_4 => ?_)
  · replace hd := ob_t c_4 hd
    refine lv_aload_n hx hb dX3_readNumber_9 rfl (lv_at hl 0 rfl) ?_
    refine va_get (D := (dC, dI)) (ci := 3) (v := .int (b.1 2)) (C := RX3) (T := TX3) (N := 4) hx hb hts hi_X3 hown hK hP 0 rfl rfl 2 (by decide) kw1 (fun _ h9 => h9) rfl dX3_readNumber_10 ?_
    refine lv_topi (fun x_1 ex_1 => ?_)
    replace hd := ob_lx ex_1 hd
    clear ex_1
    refine lv_istore_n (lv' := [(3, .int x_1), (0, .ref o_b), (1, .int x1), (2, .int x2)]) hx hb dX3_readNumber_13 rfl hl (by decide) rfl (fun ls hl => ?_)
    refine lv_iconst (v := 0) hx hb dX3_readNumber_14 (by decide) ?_
    refine lv_istore (lv' := [(4, .int 0), (3, .int x_1), (0, .ref o_b), (1, .int x1), (2, .int x2)]) hx hb dX3_readNumber_15 hl (by decide) rfl (fun ls hl => ?_)
    exact L17  2000 _ _ b x_1 0 _ hP hD hS (lv_sub hl [2, 3, 4, 1, 0] rfl) hd
  · replace hd := ob_f c_4 hd
    refine lv_iconst (v := 0) hx hb dX3_readNumber_7 (by decide) ?_
    obtain ⟨e1, e2⟩ := ob_pp hd
    subst e1
    subst e2
    exact ob_iret hx hb hr hlocks hP hD hS dX3_readNumber_8
