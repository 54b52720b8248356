def fd_X0_forgetAll  (b : ob_B)  : Option (ob_B) := ob_lt (ob_I b 1 0 : ob_B) (fun b_1 => ob_lt (ob_I b_1 2 0 : ob_B) (fun b_2 => some (b_2)))
set_option maxHeartbeats 4000000 in
set_option maxRecDepth 100000 in
theorem mt_X0_forgetAll (l : Launch) (dC : Nat → ClassId) (dI : Nat → Nat → Nat) (cI cZ cR cW : ClassId) (xs : Nat → Nat) (sz : Nat) (o_b : Nat) (a_b : Nat → Nat) (b : ob_B)   (b' : ob_B) (hd : fd_X0_forgetAll b = some (b')) : ob_M l yX0_forgetAll wsX0_forgetAll ({ frames := 0, cells := 0, slots := 0, locals := 0 } : Room) (dC, dI) (ob_ty cI cZ cR cW) xs [.ref o_b] (ob_w0 o_b a_b b) sz (ob_Qv (dC, dI) (ob_w0 o_b a_b b')) := by
  rw [fd_X0_forgetAll] at hd
  refine ob_in (cc := cX0_forgetAll) (maxL := 1) (ret := none) (own := RX0) (by decide) rfl rfl [(0, .ref o_b)] rfl (Nat.le_of_ble_eq_true rfl) ?_
  intro p e s m below meth c hx hb hr hml hown hts hlocks hnm hK A hA hE hP hD hS ls hl
  have kw0 := hts (.fieldLink RX0 17 "OathCoach$History" "oldest" "I") (by decide +kernel)
  have kw1 := hts (.fieldLink RX0 21 "OathCoach$History" "size" "I") (by decide +kernel)
  have hi_X0 : ∀ w ∈ u_ws RX0 TX0 3, w ∈ wsX0_forgetAll := by decide +kernel
  refine lv_aload_n hx hb dX0_forgetAll_0 rfl (lv_at hl 0 rfl) ?_
  refine lv_iconst (v := 0) hx hb dX0_forgetAll_1 (by decide) ?_
  refine va_put (D := (dC, dI)) (ci := 0) (v := .int 0) (ty := .int) (C := RX0) (T := TX0) (N := 3) hx hb hts hi_X0 tyX0 tyX0_ok nmX0 hown hK hP hD hS 0 rfl rfl 1 (by decide) kw0 (fun _ h9 => h9) rfl (by decide +kernel) rfl rfl (Nat.le_of_ble_eq_true rfl) dX0_forgetAll_2 (fun H locs hP hD hS => ?_)
  obtain ⟨b_1, eb_1⟩ : ∃ z : ob_B, z = ob_I b 1 0 := ⟨_, rfl⟩
  replace hd := ob_lx eb_1 hd
  replace hP : va_P (dC, dI) vwCl (ob_w0 o_b a_b b_1) H := by rw [eb_1]; exact hP
  replace hD : va_D A (ob_w0 o_b a_b b_1) := by rw [eb_1]; exact hD
  clear eb_1
  refine lv_aload_n hx hb dX0_forgetAll_5 rfl (lv_at hl 0 rfl) ?_
  refine lv_iconst (v := 0) hx hb dX0_forgetAll_6 (by decide) ?_
  refine va_put (D := (dC, dI)) (ci := 0) (v := .int 0) (ty := .int) (C := RX0) (T := TX0) (N := 3) hx hb hts hi_X0 tyX0 tyX0_ok nmX0 hown hK hP hD hS 0 rfl rfl 2 (by decide) kw1 (fun _ h9 => h9) rfl (by decide +kernel) rfl rfl (Nat.le_of_ble_eq_true rfl) dX0_forgetAll_7 (fun H locs hP hD hS => ?_)
  obtain ⟨b_2, eb_2⟩ : ∃ z : ob_B, z = ob_I b_1 2 0 := ⟨_, rfl⟩
  replace hd := ob_lx eb_2 hd
  replace hP : va_P (dC, dI) vwCl (ob_w0 o_b a_b b_2) H := by rw [eb_2]; exact hP
  replace hD : va_D A (ob_w0 o_b a_b b_2) := by rw [eb_2]; exact hD
  clear eb_2
  have e1 := Option.some.inj hd
  subst e1
  exact ob_vret hx hb hr hlocks hP hD hS dX0_forgetAll_10

def fd_X0_remOld  (b : ob_B) (w : ob_B) (d : ob_B)  : Option (ob_B × ob_B) := ob_lt (((b.1 1) + (b.1 2)) - ((b.1 1) + (b.1 2)) / 24 * 24 : Int32) (fun x_1 => if x_1 < 0 ∨ 24 ≤ Int32.toNatClampNeg x_1 then none else (if x_1 < 0 ∨ 24 ≤ Int32.toNatClampNeg x_1 then none else (ob_b1 (fd_X1_become w d) (fun w_2 => if 24 ≤ (b.1 2) then (ob_lt (((b.1 1) + 1) - ((b.1 1) + 1) / 24 * 24 : Int32) (fun x_3 => ob_lt (ob_I b 1 x_3 : ob_B) (fun b_4 => some (b_4, w_2)))) else (ob_lt ((b.1 2) + 1 : Int32) (fun x_5 => ob_lt (ob_I b 2 x_5 : ob_B) (fun b_6 => some (b_6, w_2))))))))
set_option maxHeartbeats 4000000 in
set_option maxRecDepth 100000 in
theorem mt_X0_remOld (l : Launch) (dC : Nat → ClassId) (dI : Nat → Nat → Nat) (cI cZ cR cW : ClassId) (xs : Nat → Nat) (sz : Nat) (o_b : Nat) (a_b : Nat → Nat) (g_g : Nat → Option Nat) (o_w : Nat) (a_w : Nat → Nat) (o_d : Nat) (a_d : Nat → Nat) (b : ob_B) (w : ob_B) (d : ob_B)  (hg : g_g (Int32.toNatClampNeg (((b.1 1) + (b.1 2)) - ((b.1 1) + (b.1 2)) / 24 * 24)) = some o_w) (b' : ob_B) (w' : ob_B) (hd : fd_X0_remOld b w d = some (b', w')) : ob_M l yX0_remember wsX0_remember ({ frames := 2, cells := 6, slots := 47, locals := 81 } : Room) (dC, dI) (ob_ty cI cZ cR cW) xs [.ref o_b, .ref o_d] (ob_w0 o_b a_b b ++ ob_wr (a_b 0) cR 24 g_g ++ ob_w1 o_w a_w cI w ++ ob_w1 o_d a_d cI d) sz (ob_Qv (dC, dI) (ob_w0 o_b a_b b' ++ ob_wr (a_b 0) cR 24 g_g ++ ob_w1 o_w a_w cI w' ++ ob_w1 o_d a_d cI d)) := by
  rw [fd_X0_remOld] at hd
  refine ob_in (cc := cX0_remember) (maxL := 3) (ret := none) (own := RX0) (by decide) rfl rfl [(0, .ref o_b), (1, .ref o_d)] rfl (Nat.le_of_ble_eq_true rfl) ?_
  intro p e s m below meth c hx hb hr hml hown hts hlocks hnm hK A hA hE hP hD hS ls hl
  have kw0 := hts (.fieldLink RX0 17 "OathCoach$History" "oldest" "I") (by decide +kernel)
  have kw1 := hts (.fieldLink RX0 21 "OathCoach$History" "size" "I") (by decide +kernel)
  have kw2 := hts (.fieldLink RX0 11 "OathCoach$History" "before" "[LOathCoach$Route;") (by decide +kernel)
  have hi_X0 : ∀ w ∈ u_ws RX0 TX0 3, w ∈ wsX0_remember := by decide +kernel
  refine W.widen (k := 6) (n := 47) (Nat.zero_le _) (Nat.zero_le _) ?_
  refine lv_aload_n hx hb dX0_remember_0 rfl (lv_at hl 0 rfl) ?_
  refine va_get (D := (dC, dI)) (ci := 0) (v := .int (b.1 1)) (C := RX0) (T := TX0) (N := 3) hx hb hts hi_X0 hown hK hP 0 rfl rfl 1 (by decide) kw0 (fun _ h9 => h9) rfl dX0_remember_1 ?_
  refine lv_aload_n hx hb dX0_remember_4 rfl (lv_at hl 0 rfl) ?_
  refine va_get (D := (dC, dI)) (ci := 0) (v := .int (b.1 2)) (C := RX0) (T := TX0) (N := 3) hx hb hts hi_X0 hown hK hP 0 rfl rfl 2 (by decide) kw1 (fun _ h9 => h9) rfl dX0_remember_5 ?_
  refine lv_iadd hx hb dX0_remember_8 ?_
  refine lv_bipush (v := 24) hx hb dX0_remember_9 (by decide) ?_
  refine lv_irem hx hb dX0_remember_11 (by decide) ?_
  refine lv_topi (fun x_1 ex_1 => ?_)
  replace hd := ob_lx ex_1 hd
  refine lv_istore_n (lv' := [(2, .int x_1), (0, .ref o_b), (1, .ref o_d)]) hx hb dX0_remember_12 rfl hl (by decide) rfl (fun ls hl => ?_)
  refine lv_aload_n hx hb dX0_remember_13 rfl (lv_at hl 1 rfl) ?_
  refine va_get (D := (dC, dI)) (ci := 0) (v := .ref (a_b 0)) (C := RX0) (T := TX0) (N := 3) hx hb hts hi_X0 hown hK hP 0 rfl rfl 0 (by decide) kw2 (fun _ h9 => h9) rfl dX0_remember_14 ?_
  refine lv_iload_n hx hb dX0_remember_17 rfl (lv_at hl 0 rfl) ?_
  obtain ⟨h1_18, hd⟩ := ob_nn hd
  refine va_aldq hx hb hK hP 1 2 rfl rfl h1_18 dX0_remember_18 ?_
  refine ob_rf (by rw [ex_1]; exact hg) ?_
  refine lv_ifnonnull (tgt := 35) hx hb dX0_remember_19 (by decide) ?_
  refine lv_aload_n hx hb dX0_remember_35 rfl (lv_at hl 1 rfl) ?_
  refine va_get (D := (dC, dI)) (ci := 0) (v := .ref (a_b 0)) (C := RX0) (T := TX0) (N := 3) hx hb hts hi_X0 hown hK hP 0 rfl rfl 0 (by decide) kw2 (fun _ h9 => h9) rfl dX0_remember_36 ?_
  refine lv_iload_n hx hb dX0_remember_39 rfl (lv_at hl 0 rfl) ?_
  obtain ⟨h1_40, hd⟩ := ob_nn hd
  refine va_aldq hx hb hK hP 1 2 rfl rfl h1_40 dX0_remember_40 ?_
  refine ob_rf (by rw [ex_1]; exact hg) ?_
  refine lv_aload_n hx hb dX0_remember_41 rfl (lv_at hl 2 rfl) ?_
  obtain ⟨w_2, hc_42, hd⟩ := ob_s1 hd
  refine ob_Vv (isC := [2, 3, 4, 5, 6, 7, 8, 9, 10, 11, 12, 13]) (isR := [0, 1]) (is2 := [0, 1, 2, 3, 4, 5, 6, 7, 8, 9, 10, 11, 12, 13]) (wc := (ob_w1 o_w a_w cI w ++ ob_w1 o_d a_d cI d)) (wr := (List.filterMap (fun i => (ob_w0 o_b a_b b ++ ob_wr (a_b 0) cR 24 g_g ++ ob_w1 o_w a_w cI w ++ ob_w1 o_d a_d cI d)[i]?) [0, 1])) (w1 := (ob_w1 o_w a_w cI w_2 ++ ob_w1 o_d a_d cI d)) (w2 := (ob_w0 o_b a_b b ++ ob_wr (a_b 0) cR 24 g_g ++ ob_w1 o_w a_w cI w_2 ++ ob_w1 o_d a_d cI d)) (b := o_w) (As := [.ref o_d]) (rest := []) ⟨hx, hb, hml, hown, hts⟩ (mt_X1_become l dC dI cI cZ cR cW xs _ o_w a_w o_d a_d w d w_2 hc_42) (cwV 1 hts gX0_remember_X1_become rfl rfl rfl (by decide +kernel) ⟨Nat.le_of_ble_eq_true rfl, Nat.le_of_ble_eq_true rfl⟩) hK hE hP hD hS hA ⟨rfl, rfl, rfl, rfl, rfl, rfl, rfl⟩ 1 0 rfl rfl rfl hl rfl rfl (Nat.le_of_ble_eq_true rfl) ⟨Nat.le_of_ble_eq_true rfl, Nat.le_of_ble_eq_true rfl⟩ dX0_remember_42 (fun H locs hP hD hS => ?_)
  refine W.widen (k := 6) (n := 47) (Nat.le_refl _) (Nat.le_refl _) ?_
  refine lv_aload_n hx hb dX0_remember_45 rfl (lv_at hl 1 rfl) ?_
  refine va_get (D := (dC, dI)) (ci := 0) (v := .int (b.1 2)) (C := RX0) (T := TX0) (N := 3) hx hb hts hi_X0 hown hK hP 0 rfl rfl 2 (by decide) kw1 (fun _ h9 => h9) rfl dX0_remember_46 ?_
  refine lv_bipush (v := 24) hx hb dX0_remember_49 (by decide) ?_
  refine lv_icmp_ge (tgt := 67) hx hb dX0_remember_51 (by decide) (fun c_51 => ?_) (fun c_51 => ?_)
  · replace hd := ob_t c_51 hd
    refine lv_aload_n hx hb dX0_remember_67 rfl (lv_at hl 1 rfl) ?_
    refine lv_aload_n hx hb dX0_remember_68 rfl (lv_at hl 1 rfl) ?_
    refine va_get (D := (dC, dI)) (ci := 0) (v := .int (b.1 1)) (C := RX0) (T := TX0) (N := 3) hx hb hts hi_X0 hown hK hP 0 rfl rfl 1 (by decide) kw0 (fun _ h9 => h9) rfl dX0_remember_69 ?_
    refine lv_iconst (v := 1) hx hb dX0_remember_72 (by decide) ?_
    refine lv_iadd hx hb dX0_remember_73 ?_
    refine lv_bipush (v := 24) hx hb dX0_remember_74 (by decide) ?_
    refine lv_irem hx hb dX0_remember_76 (by decide) ?_
    refine lv_topi (fun x_3 ex_3 => ?_)
    replace hd := ob_lx ex_3 hd
    refine va_put (D := (dC, dI)) (ci := 0) (v := .int x_3) (ty := .int) (C := RX0) (T := TX0) (N := 3) hx hb hts hi_X0 tyX0 tyX0_ok nmX0 hown hK hP hD hS 0 rfl rfl 1 (by decide) kw0 (fun _ h9 => h9) rfl (by decide +kernel) rfl rfl (Nat.le_of_ble_eq_true rfl) dX0_remember_77 (fun H locs hP hD hS => ?_)
    obtain ⟨b_4, eb_4⟩ : ∃ z : ob_B, z = ob_I b 1 x_3 := ⟨_, rfl⟩
    replace hd := ob_lx eb_4 hd
    replace hP : va_P (dC, dI) vwCl (ob_w0 o_b a_b b_4 ++ ob_wr (a_b 0) cR 24 g_g ++ ob_w1 o_w a_w cI w_2 ++ ob_w1 o_d a_d cI d) H := by rw [eb_4]; exact hP
    replace hD : va_D A (ob_w0 o_b a_b b_4 ++ ob_wr (a_b 0) cR 24 g_g ++ ob_w1 o_w a_w cI w_2 ++ ob_w1 o_d a_d cI d) := by rw [eb_4]; exact hD
    obtain ⟨e1, e2⟩ := ob_pp hd
    subst e1
    subst e2
    exact ob_vret hx hb hr hlocks hP hD hS dX0_remember_80
  · replace hd := ob_f c_51 hd
    refine lv_aload_n hx hb dX0_remember_54 rfl (lv_at hl 1 rfl) ?_
    refine lv_dup hx hb dX0_remember_55 rfl ?_
    refine va_get (D := (dC, dI)) (ci := 0) (v := .int (b.1 2)) (C := RX0) (T := TX0) (N := 3) hx hb hts hi_X0 hown hK hP 0 rfl rfl 2 (by decide) kw1 (fun _ h9 => h9) rfl dX0_remember_56 ?_
    refine lv_iconst (v := 1) hx hb dX0_remember_59 (by decide) ?_
    refine lv_iadd hx hb dX0_remember_60 ?_
    refine lv_topi (fun x_5 ex_5 => ?_)
    replace hd := ob_lx ex_5 hd
    refine va_put (D := (dC, dI)) (ci := 0) (v := .int x_5) (ty := .int) (C := RX0) (T := TX0) (N := 3) hx hb hts hi_X0 tyX0 tyX0_ok nmX0 hown hK hP hD hS 0 rfl rfl 2 (by decide) kw1 (fun _ h9 => h9) rfl (by decide +kernel) rfl rfl (Nat.le_of_ble_eq_true rfl) dX0_remember_61 (fun H locs hP hD hS => ?_)
    obtain ⟨b_6, eb_6⟩ : ∃ z : ob_B, z = ob_I b 2 x_5 := ⟨_, rfl⟩
    replace hd := ob_lx eb_6 hd
    replace hP : va_P (dC, dI) vwCl (ob_w0 o_b a_b b_6 ++ ob_wr (a_b 0) cR 24 g_g ++ ob_w1 o_w a_w cI w_2 ++ ob_w1 o_d a_d cI d) H := by rw [eb_6]; exact hP
    replace hD : va_D A (ob_w0 o_b a_b b_6 ++ ob_wr (a_b 0) cR 24 g_g ++ ob_w1 o_w a_w cI w_2 ++ ob_w1 o_d a_d cI d) := by rw [eb_6]; exact hD
    refine lv_goto (tgt := 80) hx hb dX0_remember_64 (by decide) ?_
    obtain ⟨e1, e2⟩ := ob_pp hd
    subst e1
    subst e2
    exact ob_vret hx hb hr hlocks hP hD hS dX0_remember_80

def fd_X0_remNew  (b : ob_B) (d : ob_B)  : Option (ob_B × ob_B) := ob_lt (((b.1 1) + (b.1 2)) - ((b.1 1) + (b.1 2)) / 24 * 24 : Int32) (fun x_1 => if x_1 < 0 ∨ 24 ≤ Int32.toNatClampNeg x_1 then none else (if x_1 < 0 ∨ 24 ≤ Int32.toNatClampNeg x_1 then none else (if x_1 < 0 ∨ 24 ≤ Int32.toNatClampNeg x_1 then none else (ob_b1 (fd_X1_become ob_z d) (fun n_2 => if 24 ≤ (b.1 2) then (ob_lt (((b.1 1) + 1) - ((b.1 1) + 1) / 24 * 24 : Int32) (fun x_3 => ob_lt (ob_I b 1 x_3 : ob_B) (fun b_4 => some (b_4, n_2)))) else (ob_lt ((b.1 2) + 1 : Int32) (fun x_5 => ob_lt (ob_I b 2 x_5 : ob_B) (fun b_6 => some (b_6, n_2)))))))))
set_option maxHeartbeats 4000000 in
set_option maxRecDepth 100000 in
theorem mt_X0_remNew (l : Launch) (dC : Nat → ClassId) (dI : Nat → Nat → Nat) (cI cZ cR cW : ClassId) (xs : Nat → Nat) (sz : Nat) (o_b : Nat) (a_b : Nat → Nat) (g_g : Nat → Option Nat) (o_d : Nat) (a_d : Nat → Nat) (b : ob_B) (d : ob_B)  (hg : g_g (Int32.toNatClampNeg (((b.1 1) + (b.1 2)) - ((b.1 1) + (b.1 2)) / 24 * 24)) = none) (b' : ob_B) (n' : ob_B) (hd : fd_X0_remNew b d = some (b', n')) : ob_M l yX0_remember wsX0_remember ({ frames := 2, cells := 6, slots := 47, locals := 81 } : Room) (dC, dI) (ob_ty cI cZ cR cW) xs [.ref o_b, .ref o_d] (ob_w0 o_b a_b b ++ ob_wr (a_b 0) cR 24 g_g ++ ob_w1 o_d a_d cI d) sz (ob_QvE (dC, dI) (fun u : (Nat → Option Nat) × Nat × (Nat → Nat) => u.1 = va_up g_g (Int32.toNatClampNeg (((b.1 1) + (b.1 2)) - ((b.1 1) + (b.1 2)) / 24 * 24)) (some u.2.1)) (fun u => (ob_w0 o_b a_b b' ++ ob_wr (a_b 0) cR 24 u.1 ++ ob_w1 o_d a_d cI d ++ ob_w1 u.2.1 u.2.2 cI n'))) := by
  rw [fd_X0_remNew] at hd
  refine ob_in (cc := cX0_remember) (maxL := 3) (ret := none) (own := RX0) (by decide) rfl rfl [(0, .ref o_b), (1, .ref o_d)] rfl (Nat.le_of_ble_eq_true rfl) ?_
  intro p e s m below meth c hx hb hr hml hown hts hlocks hnm hK A hA hE hP hD hS ls hl
  have kw0 := hts (.fieldLink RX0 17 "OathCoach$History" "oldest" "I") (by decide +kernel)
  have kw1 := hts (.fieldLink RX0 21 "OathCoach$History" "size" "I") (by decide +kernel)
  have kw2 := hts (.fieldLink RX0 11 "OathCoach$History" "before" "[LOathCoach$Route;") (by decide +kernel)
  have kw3 := hts (.classLink RX0 9 RX1) (by decide +kernel)
  have kw4 := hts (.instantiable RX1 12) (by decide +kernel)
  have kw5 := hts (.initialized RX1) (by decide +kernel)
  have kw6 := hts (.instanceMethod yX1_init) (by decide +kernel)
  have hi_X0 : ∀ w ∈ u_ws RX0 TX0 3, w ∈ wsX0_remember := by decide +kernel
  have hi_X1 : ∀ w ∈ u_ws RX1 TX1 12, w ∈ wsX0_remember := by decide +kernel
  obtain ⟨-, -, -, -, -, -, -, -, -, hn1, hn2, hn3, hn4, hn5, ho1, ho2⟩ := id hE
  refine lv_aload_n hx hb dX0_remember_0 rfl (lv_at hl 0 rfl) ?_
  refine va_get (D := (dC, dI)) (ci := 0) (v := .int (b.1 1)) (C := RX0) (T := TX0) (N := 3) hx hb hts hi_X0 hown hK hP 0 rfl rfl 1 (by decide) kw0 (fun _ h9 => h9) rfl dX0_remember_1 ?_
  refine lv_aload_n hx hb dX0_remember_4 rfl (lv_at hl 0 rfl) ?_
  refine va_get (D := (dC, dI)) (ci := 0) (v := .int (b.1 2)) (C := RX0) (T := TX0) (N := 3) hx hb hts hi_X0 hown hK hP 0 rfl rfl 2 (by decide) kw1 (fun _ h9 => h9) rfl dX0_remember_5 ?_
  refine lv_iadd hx hb dX0_remember_8 ?_
  refine lv_bipush (v := 24) hx hb dX0_remember_9 (by decide) ?_
  refine lv_irem hx hb dX0_remember_11 (by decide) ?_
  refine lv_topi (fun x_1 ex_1 => ?_)
  replace hd := ob_lx ex_1 hd
  refine lv_istore_n (lv' := [(2, .int x_1), (0, .ref o_b), (1, .ref o_d)]) hx hb dX0_remember_12 rfl hl (by decide) rfl (fun ls hl => ?_)
  refine lv_aload_n hx hb dX0_remember_13 rfl (lv_at hl 1 rfl) ?_
  refine va_get (D := (dC, dI)) (ci := 0) (v := .ref (a_b 0)) (C := RX0) (T := TX0) (N := 3) hx hb hts hi_X0 hown hK hP 0 rfl rfl 0 (by decide) kw2 (fun _ h9 => h9) rfl dX0_remember_14 ?_
  refine lv_iload_n hx hb dX0_remember_17 rfl (lv_at hl 0 rfl) ?_
  obtain ⟨h1_18, hd⟩ := ob_nn hd
  refine va_aldq hx hb hK hP 1 2 rfl rfl h1_18 dX0_remember_18 ?_
  refine ob_rn (by rw [ex_1]; exact hg) ?_
  refine lv_ifnonnullN hx hb dX0_remember_19 ?_
  refine lv_aload_n hx hb dX0_remember_22 rfl (lv_at hl 1 rfl) ?_
  refine va_get (D := (dC, dI)) (ci := 0) (v := .ref (a_b 0)) (C := RX0) (T := TX0) (N := 3) hx hb hts hi_X0 hown hK hP 0 rfl rfl 0 (by decide) kw2 (fun _ h9 => h9) rfl dX0_remember_23 ?_
  refine lv_iload_n hx hb dX0_remember_26 rfl (lv_at hl 0 rfl) ?_
  refine va_new (ci := 1) (fs := [.int 0, .int 0, .int 0, .int 0, .int 0, .int 0, .int 0, .null, .null, .null, .null, .null]) (C := RX1) (T := TX1) (N := 12) hx hb hts hi_X1 tyX1 tyX1_ok hown kw3 kw4 kw5 hK hP hD hS hA rfl (fun j hj => by rcases (show j = 0 ∨ j = 1 ∨ j = 2 ∨ j = 3 ∨ j = 4 ∨ j = 5 ∨ j = 6 ∨ j = 7 ∨ j = 8 ∨ j = 9 ∨ j = 10 ∨ j = 11 by omega) with rfl | rfl | rfl | rfl | rfl | rfl | rfl | rfl | rfl | rfl | rfl | rfl <;> rfl) (Nat.le_of_ble_eq_true rfl) (Nat.le_of_ble_eq_true rfl) dX0_remember_27 (fun q_n H hP hD hS => ?_)
  refine W.widen (k := 1) (n := 12) (Nat.le_refl _) (Nat.le_refl _) ?_
  replace hP : va_P (dC, dI) vwCl (ob_w0 o_b a_b b ++ ob_wr (a_b 0) cR 24 g_g ++ ob_w1 o_d a_d cI d ++ [(q_n, .inr (1, [.int 0, .int 0, .int 0, .int 0, .int 0, .int 0, .int 0, .null, .null, .null, .null, .null]))]) H := hP
  replace hD : va_D A (ob_w0 o_b a_b b ++ ob_wr (a_b 0) cR 24 g_g ++ ob_w1 o_d a_d cI d ++ [(q_n, .inr (1, [.int 0, .int 0, .int 0, .int 0, .int 0, .int 0, .int 0, .null, .null, .null, .null, .null]))]) := hD
  refine lv_dup hx hb dX0_remember_30 rfl ?_
  refine ob_Nv (wc := [(q_n, .inr (1, [.int 0, .int 0, .int 0, .int 0, .int 0, .int 0, .int 0, .null, .null, .null, .null, .null]))]) (wr := (ob_w0 o_b a_b b ++ ob_wr (a_b 0) cR 24 g_g ++ ob_w1 o_d a_d cI d)) (b := q_n) (As := []) (rest := [.ref q_n, .int x_1, .ref (a_b 0)]) ⟨hx, hb, hml, hown, hts⟩ (mt_X1_init l dC dI cI cZ cR cW xs _ q_n) (va_cnB 0 hts gX0_remember_X1_init_n24 rfl rfl rfl hn5 kw5 (by decide +kernel) ⟨Nat.le_of_ble_eq_true rfl, Nat.le_of_ble_eq_true rfl⟩) rfl kw6 hK hE hP hD hS hA (ob_ix [8] [0, 1, 2, 3, 4, 5, 6, 7] rfl rfl rfl) hl rfl rfl (Nat.le_of_ble_eq_true rfl) ⟨Nat.le_of_ble_eq_true rfl, Nat.le_of_ble_eq_true rfl⟩ dX0_remember_31 (fun a_n H locs hq hP hD hS => ?_)
  refine W.widen (k := 6) (n := 47) (Nat.le_refl _) (Nat.le_refl _) ?_
  replace hP : va_P (dC, dI) vwCl (ob_w0 o_b a_b b ++ ob_wr (a_b 0) cR 24 g_g ++ ob_w1 o_d a_d cI d ++ ob_w1 q_n a_n cI ob_z) H := hP
  replace hD : va_D A (ob_w0 o_b a_b b ++ ob_wr (a_b 0) cR 24 g_g ++ ob_w1 o_d a_d cI d ++ ob_w1 q_n a_n cI ob_z) := hD
  obtain ⟨h1_34, hd⟩ := ob_nn hd
  refine va_astq hx hb hK hP hD hS 1 2 8 1 rfl rfl rfl rfl h1_34 dX0_remember_34 (fun H locs hP hD hS => ?_)
  replace hP : va_P (dC, dI) vwCl (ob_w0 o_b a_b b ++ ob_wr (a_b 0) cR 24 (va_up g_g (Int32.toNatClampNeg x_1) (some q_n)) ++ ob_w1 o_d a_d cI d ++ ob_w1 q_n a_n cI ob_z) H := hP
  replace hD : va_D A (ob_w0 o_b a_b b ++ ob_wr (a_b 0) cR 24 (va_up g_g (Int32.toNatClampNeg x_1) (some q_n)) ++ ob_w1 o_d a_d cI d ++ ob_w1 q_n a_n cI ob_z) := hD
  refine lv_aload_n hx hb dX0_remember_35 rfl (lv_at hl 1 rfl) ?_
  refine va_get (D := (dC, dI)) (ci := 0) (v := .ref (a_b 0)) (C := RX0) (T := TX0) (N := 3) hx hb hts hi_X0 hown hK hP 0 rfl rfl 0 (by decide) kw2 (fun _ h9 => h9) rfl dX0_remember_36 ?_
  refine lv_iload_n hx hb dX0_remember_39 rfl (lv_at hl 0 rfl) ?_
  obtain ⟨h1_40, hd⟩ := ob_nn hd
  refine va_aldq hx hb hK hP 1 2 rfl rfl h1_40 dX0_remember_40 ?_
  refine ob_rf (va_up_self _ _ _) ?_
  refine lv_aload_n hx hb dX0_remember_41 rfl (lv_at hl 2 rfl) ?_
  obtain ⟨n_2, hc_42, hd⟩ := ob_s1 hd
  refine ob_Vv (isC := [8, 9, 10, 11, 12, 13, 2, 3, 4, 5, 6, 7]) (isR := [0, 1]) (is2 := [0, 1, 8, 9, 10, 11, 12, 13, 2, 3, 4, 5, 6, 7]) (wc := (ob_w1 q_n a_n cI ob_z ++ ob_w1 o_d a_d cI d)) (wr := (List.filterMap (fun i => (ob_w0 o_b a_b b ++ ob_wr (a_b 0) cR 24 (va_up g_g (Int32.toNatClampNeg x_1) (some q_n)) ++ ob_w1 o_d a_d cI d ++ ob_w1 q_n a_n cI ob_z)[i]?) [0, 1])) (w1 := (ob_w1 q_n a_n cI n_2 ++ ob_w1 o_d a_d cI d)) (w2 := (ob_w0 o_b a_b b ++ ob_wr (a_b 0) cR 24 (va_up g_g (Int32.toNatClampNeg x_1) (some q_n)) ++ ob_w1 o_d a_d cI d ++ ob_w1 q_n a_n cI n_2)) (b := q_n) (As := [.ref o_d]) (rest := []) ⟨hx, hb, hml, hown, hts⟩ (mt_X1_become l dC dI cI cZ cR cW xs _ q_n a_n o_d a_d ob_z d n_2 hc_42) (cwV 1 hts gX0_remember_X1_become rfl rfl rfl (by decide +kernel) ⟨Nat.le_of_ble_eq_true rfl, Nat.le_of_ble_eq_true rfl⟩) hK hE hP hD hS hA ⟨rfl, rfl, rfl, rfl, rfl, rfl, rfl⟩ 1 0 rfl rfl rfl hl rfl rfl (Nat.le_of_ble_eq_true rfl) ⟨Nat.le_of_ble_eq_true rfl, Nat.le_of_ble_eq_true rfl⟩ dX0_remember_42 (fun H locs hP hD hS => ?_)
  refine W.widen (k := 6) (n := 47) (Nat.le_refl _) (Nat.le_refl _) ?_
  refine lv_aload_n hx hb dX0_remember_45 rfl (lv_at hl 1 rfl) ?_
  refine va_get (D := (dC, dI)) (ci := 0) (v := .int (b.1 2)) (C := RX0) (T := TX0) (N := 3) hx hb hts hi_X0 hown hK hP 0 rfl rfl 2 (by decide) kw1 (fun _ h9 => h9) rfl dX0_remember_46 ?_
  refine lv_bipush (v := 24) hx hb dX0_remember_49 (by decide) ?_
  refine lv_icmp_ge (tgt := 67) hx hb dX0_remember_51 (by decide) (fun c_51 => ?_) (fun c_51 => ?_)
  · replace hd := ob_t c_51 hd
    refine lv_aload_n hx hb dX0_remember_67 rfl (lv_at hl 1 rfl) ?_
    refine lv_aload_n hx hb dX0_remember_68 rfl (lv_at hl 1 rfl) ?_
    refine va_get (D := (dC, dI)) (ci := 0) (v := .int (b.1 1)) (C := RX0) (T := TX0) (N := 3) hx hb hts hi_X0 hown hK hP 0 rfl rfl 1 (by decide) kw0 (fun _ h9 => h9) rfl dX0_remember_69 ?_
    refine lv_iconst (v := 1) hx hb dX0_remember_72 (by decide) ?_
    refine lv_iadd hx hb dX0_remember_73 ?_
    refine lv_bipush (v := 24) hx hb dX0_remember_74 (by decide) ?_
    refine lv_irem hx hb dX0_remember_76 (by decide) ?_
    refine lv_topi (fun x_3 ex_3 => ?_)
    replace hd := ob_lx ex_3 hd
    refine va_put (D := (dC, dI)) (ci := 0) (v := .int x_3) (ty := .int) (C := RX0) (T := TX0) (N := 3) hx hb hts hi_X0 tyX0 tyX0_ok nmX0 hown hK hP hD hS 0 rfl rfl 1 (by decide) kw0 (fun _ h9 => h9) rfl (by decide +kernel) rfl rfl (Nat.le_of_ble_eq_true rfl) dX0_remember_77 (fun H locs hP hD hS => ?_)
    obtain ⟨b_4, eb_4⟩ : ∃ z : ob_B, z = ob_I b 1 x_3 := ⟨_, rfl⟩
    replace hd := ob_lx eb_4 hd
    replace hP : va_P (dC, dI) vwCl (ob_w0 o_b a_b b_4 ++ ob_wr (a_b 0) cR 24 (va_up g_g (Int32.toNatClampNeg x_1) (some q_n)) ++ ob_w1 o_d a_d cI d ++ ob_w1 q_n a_n cI n_2) H := by rw [eb_4]; exact hP
    replace hD : va_D A (ob_w0 o_b a_b b_4 ++ ob_wr (a_b 0) cR 24 (va_up g_g (Int32.toNatClampNeg x_1) (some q_n)) ++ ob_w1 o_d a_d cI d ++ ob_w1 q_n a_n cI n_2) := by rw [eb_4]; exact hD
    obtain ⟨e1, e2⟩ := ob_pp hd
    subst e1
    subst e2
    exact ob_vretE (post := fun u : (Nat → Option Nat) × Nat × (Nat → Nat) => u.1 = va_up g_g (Int32.toNatClampNeg (((b.1 1) + (b.1 2)) - ((b.1 1) + (b.1 2)) / 24 * 24)) (some u.2.1)) (w' := fun u => (ob_w0 o_b a_b b_4 ++ ob_wr (a_b 0) cR 24 u.1 ++ ob_w1 o_d a_d cI d ++ ob_w1 u.2.1 u.2.2 cI n_2)) ((va_up g_g (Int32.toNatClampNeg x_1) (some q_n)), q_n, a_n) hx hb hr hlocks (show va_up g_g (Int32.toNatClampNeg x_1) (some q_n) = _ by rw [ex_1]) hP hD hS dX0_remember_80
  · replace hd := ob_f c_51 hd
    refine lv_aload_n hx hb dX0_remember_54 rfl (lv_at hl 1 rfl) ?_
    refine lv_dup hx hb dX0_remember_55 rfl ?_
    refine va_get (D := (dC, dI)) (ci := 0) (v := .int (b.1 2)) (C := RX0) (T := TX0) (N := 3) hx hb hts hi_X0 hown hK hP 0 rfl rfl 2 (by decide) kw1 (fun _ h9 => h9) rfl dX0_remember_56 ?_
    refine lv_iconst (v := 1) hx hb dX0_remember_59 (by decide) ?_
    refine lv_iadd hx hb dX0_remember_60 ?_
    refine lv_topi (fun x_5 ex_5 => ?_)
    replace hd := ob_lx ex_5 hd
    refine va_put (D := (dC, dI)) (ci := 0) (v := .int x_5) (ty := .int) (C := RX0) (T := TX0) (N := 3) hx hb hts hi_X0 tyX0 tyX0_ok nmX0 hown hK hP hD hS 0 rfl rfl 2 (by decide) kw1 (fun _ h9 => h9) rfl (by decide +kernel) rfl rfl (Nat.le_of_ble_eq_true rfl) dX0_remember_61 (fun H locs hP hD hS => ?_)
    obtain ⟨b_6, eb_6⟩ : ∃ z : ob_B, z = ob_I b 2 x_5 := ⟨_, rfl⟩
    replace hd := ob_lx eb_6 hd
    replace hP : va_P (dC, dI) vwCl (ob_w0 o_b a_b b_6 ++ ob_wr (a_b 0) cR 24 (va_up g_g (Int32.toNatClampNeg x_1) (some q_n)) ++ ob_w1 o_d a_d cI d ++ ob_w1 q_n a_n cI n_2) H := by rw [eb_6]; exact hP
    replace hD : va_D A (ob_w0 o_b a_b b_6 ++ ob_wr (a_b 0) cR 24 (va_up g_g (Int32.toNatClampNeg x_1) (some q_n)) ++ ob_w1 o_d a_d cI d ++ ob_w1 q_n a_n cI n_2) := by rw [eb_6]; exact hD
    refine lv_goto (tgt := 80) hx hb dX0_remember_64 (by decide) ?_
    obtain ⟨e1, e2⟩ := ob_pp hd
    subst e1
    subst e2
    exact ob_vretE (post := fun u : (Nat → Option Nat) × Nat × (Nat → Nat) => u.1 = va_up g_g (Int32.toNatClampNeg (((b.1 1) + (b.1 2)) - ((b.1 1) + (b.1 2)) / 24 * 24)) (some u.2.1)) (w' := fun u => (ob_w0 o_b a_b b_6 ++ ob_wr (a_b 0) cR 24 u.1 ++ ob_w1 o_d a_d cI d ++ ob_w1 u.2.1 u.2.2 cI n_2)) ((va_up g_g (Int32.toNatClampNeg x_1) (some q_n)), q_n, a_n) hx hb hr hlocks (show va_up g_g (Int32.toNatClampNeg x_1) (some q_n) = _ by rw [ex_1]) hP hD hS dX0_remember_80

def fd_X0_takOld  (b : ob_B) (w : ob_B) (d : ob_B)  : Option (Int32 × ob_B × ob_B) := if (b.1 2) = 0 then (some (0, b, d)) else (ob_lt ((b.1 2) - 1 : Int32) (fun x_1 => ob_lt (ob_I b 2 x_1 : ob_B) (fun b_2 => if (((b_2.1 1) + (b_2.1 2)) - ((b_2.1 1) + (b_2.1 2)) / 24 * 24) < 0 ∨ 24 ≤ Int32.toNatClampNeg (((b_2.1 1) + (b_2.1 2)) - ((b_2.1 1) + (b_2.1 2)) / 24 * 24) then none else (ob_b1 (fd_X1_become d w) (fun d_3 => some (1, b_2, d_3))))))
set_option maxHeartbeats 4000000 in
set_option maxRecDepth 100000 in
theorem mt_X0_takOld (l : Launch) (dC : Nat → ClassId) (dI : Nat → Nat → Nat) (cI cZ cR cW : ClassId) (xs : Nat → Nat) (sz : Nat) (o_b : Nat) (a_b : Nat → Nat) (g_g : Nat → Option Nat) (o_w : Nat) (a_w : Nat → Nat) (o_d : Nat) (a_d : Nat → Nat) (b : ob_B) (w : ob_B) (d : ob_B)  (hg : g_g (Int32.toNatClampNeg ((((ob_I b 2 ((b.1 2) - 1)).1 1) + ((ob_I b 2 ((b.1 2) - 1)).1 2)) - (((ob_I b 2 ((b.1 2) - 1)).1 1) + ((ob_I b 2 ((b.1 2) - 1)).1 2)) / 24 * 24)) = some o_w) (rr : Int32) (b' : ob_B) (d' : ob_B) (hd : fd_X0_takOld b w d = some (rr, b', d')) : ob_M l yX0_takeBack wsX0_takeBack ({ frames := 2, cells := 0, slots := 0, locals := 81 } : Room) (dC, dI) (ob_ty cI cZ cR cW) xs [.ref o_b, .ref o_d] (ob_w0 o_b a_b b ++ ob_wr (a_b 0) cR 24 g_g ++ ob_w1 o_w a_w cI w ++ ob_w1 o_d a_d cI d) sz (ob_Qi (dC, dI) rr (ob_w0 o_b a_b b' ++ ob_wr (a_b 0) cR 24 g_g ++ ob_w1 o_w a_w cI w ++ ob_w1 o_d a_d cI d')) := by
  rw [fd_X0_takOld] at hd
  refine ob_in (cc := cX0_takeBack) (maxL := 3) (ret := (some .boolean)) (own := RX0) (by decide) rfl rfl [(0, .ref o_b), (1, .ref o_d)] rfl (Nat.le_of_ble_eq_true rfl) ?_
  intro p e s m below meth c hx hb hr hml hown hts hlocks hnm hK A hA hE hP hD hS ls hl
  have kw0 := hts (.fieldLink RX0 21 "OathCoach$History" "size" "I") (by decide +kernel)
  have kw1 := hts (.fieldLink RX0 11 "OathCoach$History" "before" "[LOathCoach$Route;") (by decide +kernel)
  have kw2 := hts (.fieldLink RX0 17 "OathCoach$History" "oldest" "I") (by decide +kernel)
  have hi_X0 : ∀ w ∈ u_ws RX0 TX0 3, w ∈ wsX0_takeBack := by decide +kernel
  refine lv_aload_n hx hb dX0_takeBack_0 rfl (lv_at hl 0 rfl) ?_
  refine va_get (D := (dC, dI)) (ci := 0) (v := .int (b.1 2)) (C := RX0) (T := TX0) (N := 3) hx hb hts hi_X0 hown hK hP 0 rfl rfl 2 (by decide) kw0 (fun _ h9 => h9) rfl dX0_takeBack_1 ?_
  refine lv_if_ne (tgt := 9) hx hb dX0_takeBack_4 (by decide) (fun c_4 => ?_) (fun c_4 => ?_)
  · replace hd := ob_f c_4 hd
    refine lv_aload_n hx hb dX0_takeBack_9 rfl (lv_at hl 0 rfl) ?_
    refine lv_dup hx hb dX0_takeBack_10 rfl ?_
    refine va_get (D := (dC, dI)) (ci := 0) (v := .int (b.1 2)) (C := RX0) (T := TX0) (N := 3) hx hb hts hi_X0 hown hK hP 0 rfl rfl 2 (by decide) kw0 (fun _ h9 => h9) rfl dX0_takeBack_11 ?_
    refine lv_iconst (v := 1) hx hb dX0_takeBack_14 (by decide) ?_
    refine lv_isub hx hb dX0_takeBack_15 ?_
    refine lv_topi (fun x_1 ex_1 => ?_)
    replace hd := ob_lx ex_1 hd
    refine va_put (D := (dC, dI)) (ci := 0) (v := .int x_1) (ty := .int) (C := RX0) (T := TX0) (N := 3) hx hb hts hi_X0 tyX0 tyX0_ok nmX0 hown hK hP hD hS 0 rfl rfl 2 (by decide) kw0 (fun _ h9 => h9) rfl (by decide +kernel) rfl rfl (Nat.le_of_ble_eq_true rfl) dX0_takeBack_16 (fun H locs hP hD hS => ?_)
    obtain ⟨b_2, eb_2⟩ : ∃ z : ob_B, z = ob_I b 2 x_1 := ⟨_, rfl⟩
    replace hd := ob_lx eb_2 hd
    replace hP : va_P (dC, dI) vwCl (ob_w0 o_b a_b b_2 ++ ob_wr (a_b 0) cR 24 g_g ++ ob_w1 o_w a_w cI w ++ ob_w1 o_d a_d cI d) H := by rw [eb_2]; exact hP
    replace hD : va_D A (ob_w0 o_b a_b b_2 ++ ob_wr (a_b 0) cR 24 g_g ++ ob_w1 o_w a_w cI w ++ ob_w1 o_d a_d cI d) := by rw [eb_2]; exact hD
    refine lv_aload_n hx hb dX0_takeBack_19 rfl (lv_at hl 0 rfl) ?_
    refine va_get (D := (dC, dI)) (ci := 0) (v := .ref (a_b 0)) (C := RX0) (T := TX0) (N := 3) hx hb hts hi_X0 hown hK hP 0 rfl rfl 0 (by decide) kw1 (fun _ h9 => h9) rfl dX0_takeBack_20 ?_
    refine lv_aload_n hx hb dX0_takeBack_23 rfl (lv_at hl 0 rfl) ?_
    refine va_get (D := (dC, dI)) (ci := 0) (v := .int (b_2.1 1)) (C := RX0) (T := TX0) (N := 3) hx hb hts hi_X0 hown hK hP 0 rfl rfl 1 (by decide) kw2 (fun _ h9 => h9) rfl dX0_takeBack_24 ?_
    refine lv_aload_n hx hb dX0_takeBack_27 rfl (lv_at hl 0 rfl) ?_
    refine va_get (D := (dC, dI)) (ci := 0) (v := .int (b_2.1 2)) (C := RX0) (T := TX0) (N := 3) hx hb hts hi_X0 hown hK hP 0 rfl rfl 2 (by decide) kw0 (fun _ h9 => h9) rfl dX0_takeBack_28 ?_
    refine lv_iadd hx hb dX0_takeBack_31 ?_
    refine lv_bipush (v := 24) hx hb dX0_takeBack_32 (by decide) ?_
    refine lv_irem hx hb dX0_takeBack_34 (by decide) ?_
    obtain ⟨h1_35, hd⟩ := ob_nn hd
    refine va_aldq hx hb hK hP 1 2 rfl rfl h1_35 dX0_takeBack_35 ?_
    refine ob_rf (by rw [eb_2, ex_1]; exact hg) ?_
    refine lv_astore_n (lv' := [(2, .ref o_w), (0, .ref o_b), (1, .ref o_d)]) hx hb dX0_takeBack_36 rfl hl (by decide) rfl (fun ls hl => ?_)
    refine lv_aload_n hx hb dX0_takeBack_37 rfl (lv_at hl 0 rfl) ?_
    refine lv_ifnonnull (tgt := 43) hx hb dX0_takeBack_38 (by decide) ?_
    refine lv_aload_n hx hb dX0_takeBack_43 rfl (lv_at hl 2 rfl) ?_
    refine lv_aload_n hx hb dX0_takeBack_44 rfl (lv_at hl 0 rfl) ?_
    obtain ⟨d_3, hc_45, hd⟩ := ob_s1 hd
    refine ob_Vv (isC := [8, 9, 10, 11, 12, 13, 2, 3, 4, 5, 6, 7]) (isR := [0, 1]) (is2 := [0, 1, 8, 9, 10, 11, 12, 13, 2, 3, 4, 5, 6, 7]) (wc := (ob_w1 o_d a_d cI d ++ ob_w1 o_w a_w cI w)) (wr := (List.filterMap (fun i => (ob_w0 o_b a_b b_2 ++ ob_wr (a_b 0) cR 24 g_g ++ ob_w1 o_w a_w cI w ++ ob_w1 o_d a_d cI d)[i]?) [0, 1])) (w1 := (ob_w1 o_d a_d cI d_3 ++ ob_w1 o_w a_w cI w)) (w2 := (ob_w0 o_b a_b b_2 ++ ob_wr (a_b 0) cR 24 g_g ++ ob_w1 o_w a_w cI w ++ ob_w1 o_d a_d cI d_3)) (b := o_d) (As := [.ref o_w]) (rest := []) ⟨hx, hb, hml, hown, hts⟩ (mt_X1_become l dC dI cI cZ cR cW xs _ o_d a_d o_w a_w d w d_3 hc_45) (cwV 1 hts gX0_takeBack_X1_become rfl rfl rfl (by decide +kernel) ⟨Nat.le_of_ble_eq_true rfl, Nat.le_of_ble_eq_true rfl⟩) hK hE hP hD hS hA ⟨rfl, rfl, rfl, rfl, rfl, rfl, rfl⟩ 1 0 rfl rfl rfl hl rfl rfl (Nat.le_of_ble_eq_true rfl) ⟨Nat.le_of_ble_eq_true rfl, Nat.le_of_ble_eq_true rfl⟩ dX0_takeBack_45 (fun H locs hP hD hS => ?_)
    refine W.widen (k := 0) (n := 0) (Nat.le_refl _) (Nat.le_refl _) ?_
    refine lv_iconst (v := 1) hx hb dX0_takeBack_48 (by decide) ?_
    obtain ⟨e1, e2, e3⟩ := ob_pq hd
    subst e1
    subst e2
    subst e3
    exact ob_zret hx hb hr hlocks (by decide) hP hD hS dX0_takeBack_49
  · replace hd := ob_t c_4 hd
    refine lv_iconst (v := 0) hx hb dX0_takeBack_7 (by decide) ?_
    obtain ⟨e1, e2, e3⟩ := ob_pq hd
    subst e1
    subst e2
    subst e3
    exact ob_zret hx hb hr hlocks (by decide) hP hD hS dX0_takeBack_8

def fd_X0_takNone  (b : ob_B) (d : ob_B)  : Option (Int32) := if (b.1 2) = 0 then (some (0)) else (none)
set_option maxHeartbeats 4000000 in
set_option maxRecDepth 100000 in
theorem mt_X0_takNone (l : Launch) (dC : Nat → ClassId) (dI : Nat → Nat → Nat) (cI cZ cR cW : ClassId) (xs : Nat → Nat) (sz : Nat) (o_b : Nat) (a_b : Nat → Nat) (g_g : Nat → Option Nat) (o_d : Nat) (a_d : Nat → Nat) (b : ob_B) (d : ob_B)   (rr : Int32) (hd : fd_X0_takNone b d = some (rr)) : ob_M l yX0_takeBack wsX0_takeBack ({ frames := 2, cells := 0, slots := 0, locals := 81 } : Room) (dC, dI) (ob_ty cI cZ cR cW) xs [.ref o_b, .ref o_d] (ob_w0 o_b a_b b ++ ob_wr (a_b 0) cR 24 g_g ++ ob_w1 o_d a_d cI d) sz (ob_Qi (dC, dI) rr (ob_w0 o_b a_b b ++ ob_wr (a_b 0) cR 24 g_g ++ ob_w1 o_d a_d cI d)) := by
  rw [fd_X0_takNone] at hd
  refine ob_in (cc := cX0_takeBack) (maxL := 3) (ret := (some .boolean)) (own := RX0) (by decide) rfl rfl [(0, .ref o_b), (1, .ref o_d)] rfl (Nat.le_of_ble_eq_true rfl) ?_
  intro p e s m below meth c hx hb hr hml hown hts hlocks hnm hK A hA hE hP hD hS ls hl
  have kw0 := hts (.fieldLink RX0 21 "OathCoach$History" "size" "I") (by decide +kernel)
  have hi_X0 : ∀ w ∈ u_ws RX0 TX0 3, w ∈ wsX0_takeBack := by decide +kernel
  refine lv_aload_n hx hb dX0_takeBack_0 rfl (lv_at hl 0 rfl) ?_
  refine va_get (D := (dC, dI)) (ci := 0) (v := .int (b.1 2)) (C := RX0) (T := TX0) (N := 3) hx hb hts hi_X0 hown hK hP 0 rfl rfl 2 (by decide) kw0 (fun _ h9 => h9) rfl dX0_takeBack_1 ?_
  refine lv_if_ne (tgt := 9) hx hb dX0_takeBack_4 (by decide) (fun c_4 => ?_) (fun c_4 => ?_)
  · replace hd := ob_f c_4 hd
    cases hd
  · replace hd := ob_t c_4 hd
    refine lv_iconst (v := 0) hx hb dX0_takeBack_7 (by decide) ?_
    have e1 := Option.some.inj hd
    subst e1
    exact ob_zret hx hb hr hlocks (by decide) hP hD hS dX0_takeBack_8
