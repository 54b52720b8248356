set_option maxHeartbeats 8000000 in
set_option maxRecDepth 100000 in
theorem mt_X4_init (l : Launch) (dC : Nat → ClassId) (dI : Nat → Nat → Nat) (cI cZ cR cW : ClassId) (xs : Nat → Nat) (sz : Nat) (o_b : Nat) : ob_M l yX4_init wsX4_init ({ frames := 2, cells := 35, slots := 603, locals := 60 } : Room) (dC, dI) (ob_ty cI cZ cR cW) xs [.ref o_b] [(o_b, .inr (4, [.null, .null, .null, .null, .null, .null, .null, .int 0, .int 0, .int 0]))] sz (ob_QvE (dC, dI) (fun (_ : ob_AX) => True) (fun u => ob_wx o_b cI cR cW u ob_SZ)) := by
  refine ob_in (cc := cX4_init) (maxL := 2) (ret := none) (own := RX4) (by decide) rfl rfl [(0, .ref o_b)] rfl (Nat.le_of_ble_eq_true rfl) ?_
  intro p e s m below meth c hx hb hr hml hown hts hlocks hnm hK A hA hE hP hD hS ls hl
  have hnm : meth.name = "<init>" := hnm
  obtain ⟨-, -, -, -, -, -, -, -, -, hn1, hn2, hn3, hn4, hn5, ho1, ho2⟩ := id hE
  have kw0 := hts (.methodLink RX4 1 objectInit) (by decide +kernel)
  have kw1 := hts (.instanceMethod objectInit) (by decide +kernel)
  have kw2 := hts (.code objectInit ⟨#[0xb1]⟩ 1 none) (by decide +kernel)
  have kw3 := hts (.classLink RX4 9 RX2) (by decide +kernel)
  have kw4 := hts (.fieldLink RX4 11 "OathCoach" "rows" "[LOathCoach$Row;") (by decide +kernel)
  have kw5 := hts (.classLink RX4 15 RX3) (by decide +kernel)
  have kw6 := hts (.instantiable RX3 4) (by decide +kernel)
  have kw7 := hts (.initialized RX3) (by decide +kernel)
  have kw8 := hts (.instanceMethod yX3_init) (by decide +kernel)
  have kw9 := hts (.fieldLink RX4 18 "OathCoach" "tape" "LOathCoach$Tape;") (by decide +kernel)
  have kw10 := hts (.classLink RX4 22 RX1) (by decide +kernel)
  have kw11 := hts (.instantiable RX1 12) (by decide +kernel)
  have kw12 := hts (.initialized RX1) (by decide +kernel)
  have kw13 := hts (.instanceMethod yX1_init) (by decide +kernel)
  have kw14 := hts (.fieldLink RX4 25 "OathCoach" "route" "LOathCoach$Route;") (by decide +kernel)
  have kw15 := hts (.fieldLink RX4 29 "OathCoach" "trial" "LOathCoach$Route;") (by decide +kernel)
  have kw16 := hts (.classLink RX4 32 RX0) (by decide +kernel)
  have kw17 := hts (.instantiable RX0 3) (by decide +kernel)
  have kw18 := hts (.initialized RX0) (by decide +kernel)
  have kw19 := hts (.instanceMethod yX0_init) (by decide +kernel)
  have kw20 := hts (.fieldLink RX4 35 "OathCoach" "history" "LOathCoach$History;") (by decide +kernel)
  have kw21 := hts (.fieldLink RX4 39 "OathCoach" "images" "[LOathCoach$Route;") (by decide +kernel)
  have kw22 := hts (.arrayClass .int) (by decide +kernel)
  have kw23 := hts (.fieldLink RX4 43 "OathCoach" "traced" "[I") (by decide +kernel)
  have kw24 := hts (.fieldLink RX4 47 "OathCoach" "tracedCount" "I") (by decide +kernel)
  have kw25 := hts (.fieldLink RX4 51 "OathCoach" "latestFault" "I") (by decide +kernel)
  have kw26 := hts (.fieldLink RX4 54 "OathCoach" "latestFinding" "I") (by decide +kernel)
  have kw27 := hts (.instantiable RX2 4) (by decide +kernel)
  have kw28 := hts (.initialized RX2) (by decide +kernel)
  have kw29 := hts (.instanceMethod yX2_init) (by decide +kernel)
  have hi_X0 : ∀ w ∈ u_ws RX0 TX0 3, w ∈ wsX4_init := by decide +kernel
  have hi_X1 : ∀ w ∈ u_ws RX1 TX1 12, w ∈ wsX4_init := by decide +kernel
  have hi_X2 : ∀ w ∈ u_ws RX2 TX2 4, w ∈ wsX4_init := by decide +kernel
  have hi_X3 : ∀ w ∈ u_ws RX3 TX3 4, w ∈ wsX4_init := by decide +kernel
  have hi_X4 : ∀ w ∈ u_ws RX4 TX4 10, w ∈ wsX4_init := by decide +kernel
  refine lv_aload_n hx hb dX4_init_0 rfl (lv_at hl 0 rfl) ?_
  refine W.objInit hx hb hown kw0 kw1 kw2 rfl (by rw [hml]; exact hl.1) rfl dX4_init_1 (Nat.le_of_ble_eq_true rfl) (Nat.le_of_ble_eq_true rfl) ?_
  refine W.eq (g2 := F0 m 4 ls []) rfl ?_
  refine lv_aload_n hx hb dX4_init_4 rfl (lv_at hl 0 rfl) ?_
  refine lv_bipush (v := 8) hx hb dX4_init_5 (by decide) ?_
  refine va_newq hx hb hown kw3 ho2 hK hP hD hS hA (N' := 8) (by decide) (by decide) (Nat.le_of_ble_eq_true rfl) (Nat.le_of_ble_eq_true rfl) (Nat.le_of_ble_eq_true rfl) dX4_init_7 (fun q1 cA H hK1 hP hD hS => ?_)
  obtain rfl : cW = cA := (ob_sW hK1).symm
  clear hK1
  refine W.widen (k := 1) (n := 8) (Nat.le_refl _) (Nat.le_refl _) ?_
  replace hP : va_P (dC, dI) vwCl ([(o_b, .inr (4, [.null, .null, .null, .null, .null, .null, .null, .int 0, .int 0, .int 0]))] ++ [(q1, .inl (cW, 8, .inr (.inr (.inr (.inr (fun _ => none))))))]) H := hP
  replace hD : va_D A ([(o_b, .inr (4, [.null, .null, .null, .null, .null, .null, .null, .int 0, .int 0, .int 0]))] ++ [(q1, .inl (cW, 8, .inr (.inr (.inr (.inr (fun _ => none))))))]) := hD
  refine va_putF (D := (dC, dI)) (ci := 4) (v := .ref q1) (ty := .array (.object "OathCoach$Row")) (C := RX4) (T := TX4) (N := 10) hx hb hts hi_X4 tyX4 tyX4_ok nmX4 hown hK hP hD hS 0 rfl rfl 0 (by decide) kw4 (fun _ h9 => h9) rfl hnm rfl (by decide +kernel) rfl rfl (Nat.le_of_ble_eq_true rfl) dX4_init_10 (fun H locs hP hD hS => ?_)
  replace hP : va_P (dC, dI) vwCl ([(o_b, .inr (4, [.ref q1, .null, .null, .null, .null, .null, .null, .int 0, .int 0, .int 0]))] ++ [(q1, .inl (cW, 8, .inr (.inr (.inr (.inr (fun _ => none))))))]) H := hP
  replace hD : va_D A ([(o_b, .inr (4, [.ref q1, .null, .null, .null, .null, .null, .null, .int 0, .int 0, .int 0]))] ++ [(q1, .inl (cW, 8, .inr (.inr (.inr (.inr (fun _ => none))))))]) := hD
  refine lv_aload_n hx hb dX4_init_13 rfl (lv_at hl 0 rfl) ?_
  refine va_new (ci := 3) (fs := [.null, .int 0, .int 0, .int 0]) (C := RX3) (T := TX3) (N := 4) hx hb hts hi_X3 tyX3 tyX3_ok hown kw5 kw6 kw7 hK hP hD hS hA rfl (fun j hj => by rcases (show j = 0 ∨ j = 1 ∨ j = 2 ∨ j = 3 by omega) with rfl | rfl | rfl | rfl <;> rfl) (Nat.le_of_ble_eq_true rfl) (Nat.le_of_ble_eq_true rfl) dX4_init_14 (fun q2 H hP hD hS => ?_)
  refine W.widen (k := 2) (n := 12) (Nat.le_refl _) (Nat.le_refl _) ?_
  refine lv_dup hx hb dX4_init_17 rfl ?_
  refine ob_Nv (wc := [(q2, .inr (3, [.null, .int 0, .int 0, .int 0]))]) (wr := [(o_b, .inr (4, [.ref q1, .null, .null, .null, .null, .null, .null, .int 0, .int 0, .int 0]))] ++ [(q1, .inl (cW, 8, .inr (.inr (.inr (.inr (fun _ => none))))))]) (b := q2) (As := []) (rest := [.ref q2, .ref o_b]) ⟨hx, hb, hml, hown, hts⟩ (mt_X3_init l dC dI cI cZ cR cW xs _ q2) (va_cnB 0 hts gX4_init_X3_init_n17 rfl rfl rfl hn1 kw7 (by decide +kernel) ⟨Nat.le_of_ble_eq_true rfl, Nat.le_of_ble_eq_true rfl⟩) rfl kw8 hK hE hP hD hS hA List.perm_append_comm hl rfl rfl (Nat.le_of_ble_eq_true rfl) ⟨Nat.le_of_ble_eq_true rfl, Nat.le_of_ble_eq_true rfl⟩ dX4_init_18 (fun u3 H locs hq hP hD hS => ?_)
  rw [List.append_assoc] at hP hD
  generalize hRA : [(q1, .inl (cW, 8, .inr (.inr (.inr (.inr (fun _ => none))))))] ++ (ob_w3 q2 u3 cI ob_z) = RA at hP hD
  refine W.widen (k := 3) (n := 112) (Nat.le_refl _) (Nat.le_refl _) ?_
  refine va_putF (D := (dC, dI)) (ci := 4) (v := .ref q2) (ty := .object "OathCoach$Tape") (C := RX4) (T := TX4) (N := 10) hx hb hts hi_X4 tyX4 tyX4_ok nmX4 hown hK hP hD hS 0 rfl rfl 1 (by decide) kw9 (fun _ h9 => h9) rfl hnm rfl (by decide +kernel) rfl rfl (Nat.le_of_ble_eq_true rfl) dX4_init_21 (fun H locs hP hD hS => ?_)
  replace hP : va_P (dC, dI) vwCl ([(o_b, .inr (4, [.ref q1, .ref q2, .null, .null, .null, .null, .null, .int 0, .int 0, .int 0]))] ++ RA) H := hP
  replace hD : va_D A ([(o_b, .inr (4, [.ref q1, .ref q2, .null, .null, .null, .null, .null, .int 0, .int 0, .int 0]))] ++ RA) := hD
  refine lv_aload_n hx hb dX4_init_24 rfl (lv_at hl 0 rfl) ?_
  refine va_new (ci := 1) (fs := [.int 0, .int 0, .int 0, .int 0, .int 0, .int 0, .int 0, .null, .null, .null, .null, .null]) (C := RX1) (T := TX1) (N := 12) hx hb hts hi_X1 tyX1 tyX1_ok hown kw10 kw11 kw12 hK hP hD hS hA rfl (fun j hj => by rcases (show j = 0 ∨ j = 1 ∨ j = 2 ∨ j = 3 ∨ j = 4 ∨ j = 5 ∨ j = 6 ∨ j = 7 ∨ j = 8 ∨ j = 9 ∨ j = 10 ∨ j = 11 by omega) with rfl | rfl | rfl | rfl | rfl | rfl | rfl | rfl | rfl | rfl | rfl | rfl <;> rfl) (Nat.le_of_ble_eq_true rfl) (Nat.le_of_ble_eq_true rfl) dX4_init_25 (fun q4 H hP hD hS => ?_)
  refine W.widen (k := 4) (n := 124) (Nat.le_refl _) (Nat.le_refl _) ?_
  refine lv_dup hx hb dX4_init_28 rfl ?_
  refine ob_Nv (wc := [(q4, .inr (1, [.int 0, .int 0, .int 0, .int 0, .int 0, .int 0, .int 0, .null, .null, .null, .null, .null]))]) (wr := [(o_b, .inr (4, [.ref q1, .ref q2, .null, .null, .null, .null, .null, .int 0, .int 0, .int 0]))] ++ RA) (b := q4) (As := []) (rest := [.ref q4, .ref o_b]) ⟨hx, hb, hml, hown, hts⟩ (mt_X1_init l dC dI cI cZ cR cW xs _ q4) (va_cnB 0 hts gX4_init_X1_init_n24 rfl rfl rfl hn2 kw12 (by decide +kernel) ⟨Nat.le_of_ble_eq_true rfl, Nat.le_of_ble_eq_true rfl⟩) rfl kw13 hK hE hP hD hS hA List.perm_append_comm hl rfl rfl (Nat.le_of_ble_eq_true rfl) ⟨Nat.le_of_ble_eq_true rfl, Nat.le_of_ble_eq_true rfl⟩ dX4_init_29 (fun u5 H locs hq hP hD hS => ?_)
  rw [List.append_assoc] at hP hD
  generalize hRB : RA ++ (ob_w1 q4 u5 cI ob_z) = RB at hP hD
  refine W.widen (k := 9) (n := 159) (Nat.le_refl _) (Nat.le_refl _) ?_
  refine va_putF (D := (dC, dI)) (ci := 4) (v := .ref q4) (ty := .object "OathCoach$Route") (C := RX4) (T := TX4) (N := 10) hx hb hts hi_X4 tyX4 tyX4_ok nmX4 hown hK hP hD hS 0 rfl rfl 2 (by decide) kw14 (fun _ h9 => h9) rfl hnm rfl (by decide +kernel) rfl rfl (Nat.le_of_ble_eq_true rfl) dX4_init_32 (fun H locs hP hD hS => ?_)
  replace hP : va_P (dC, dI) vwCl ([(o_b, .inr (4, [.ref q1, .ref q2, .ref q4, .null, .null, .null, .null, .int 0, .int 0, .int 0]))] ++ RB) H := hP
  replace hD : va_D A ([(o_b, .inr (4, [.ref q1, .ref q2, .ref q4, .null, .null, .null, .null, .int 0, .int 0, .int 0]))] ++ RB) := hD
  refine lv_aload_n hx hb dX4_init_35 rfl (lv_at hl 0 rfl) ?_
  refine va_new (ci := 1) (fs := [.int 0, .int 0, .int 0, .int 0, .int 0, .int 0, .int 0, .null, .null, .null, .null, .null]) (C := RX1) (T := TX1) (N := 12) hx hb hts hi_X1 tyX1 tyX1_ok hown kw10 kw11 kw12 hK hP hD hS hA rfl (fun j hj => by rcases (show j = 0 ∨ j = 1 ∨ j = 2 ∨ j = 3 ∨ j = 4 ∨ j = 5 ∨ j = 6 ∨ j = 7 ∨ j = 8 ∨ j = 9 ∨ j = 10 ∨ j = 11 by omega) with rfl | rfl | rfl | rfl | rfl | rfl | rfl | rfl | rfl | rfl | rfl | rfl <;> rfl) (Nat.le_of_ble_eq_true rfl) (Nat.le_of_ble_eq_true rfl) dX4_init_36 (fun q6 H hP hD hS => ?_)
  refine W.widen (k := 10) (n := 171) (Nat.le_refl _) (Nat.le_refl _) ?_
  refine lv_dup hx hb dX4_init_39 rfl ?_
  refine ob_Nv (wc := [(q6, .inr (1, [.int 0, .int 0, .int 0, .int 0, .int 0, .int 0, .int 0, .null, .null, .null, .null, .null]))]) (wr := [(o_b, .inr (4, [.ref q1, .ref q2, .ref q4, .null, .null, .null, .null, .int 0, .int 0, .int 0]))] ++ RB) (b := q6) (As := []) (rest := [.ref q6, .ref o_b]) ⟨hx, hb, hml, hown, hts⟩ (mt_X1_init l dC dI cI cZ cR cW xs _ q6) (va_cnB 0 hts gX4_init_X1_init_n24 rfl rfl rfl hn2 kw12 (by decide +kernel) ⟨Nat.le_of_ble_eq_true rfl, Nat.le_of_ble_eq_true rfl⟩) rfl kw13 hK hE hP hD hS hA List.perm_append_comm hl rfl rfl (Nat.le_of_ble_eq_true rfl) ⟨Nat.le_of_ble_eq_true rfl, Nat.le_of_ble_eq_true rfl⟩ dX4_init_40 (fun u7 H locs hq hP hD hS => ?_)
  rw [List.append_assoc] at hP hD
  generalize hRC : RB ++ (ob_w1 q6 u7 cI ob_z) = RC at hP hD
  refine W.widen (k := 15) (n := 206) (Nat.le_refl _) (Nat.le_refl _) ?_
  refine va_putF (D := (dC, dI)) (ci := 4) (v := .ref q6) (ty := .object "OathCoach$Route") (C := RX4) (T := TX4) (N := 10) hx hb hts hi_X4 tyX4 tyX4_ok nmX4 hown hK hP hD hS 0 rfl rfl 3 (by decide) kw15 (fun _ h9 => h9) rfl hnm rfl (by decide +kernel) rfl rfl (Nat.le_of_ble_eq_true rfl) dX4_init_43 (fun H locs hP hD hS => ?_)
  replace hP : va_P (dC, dI) vwCl ([(o_b, .inr (4, [.ref q1, .ref q2, .ref q4, .ref q6, .null, .null, .null, .int 0, .int 0, .int 0]))] ++ RC) H := hP
  replace hD : va_D A ([(o_b, .inr (4, [.ref q1, .ref q2, .ref q4, .ref q6, .null, .null, .null, .int 0, .int 0, .int 0]))] ++ RC) := hD
  refine lv_aload_n hx hb dX4_init_46 rfl (lv_at hl 0 rfl) ?_
  refine va_new (ci := 0) (fs := [.null, .int 0, .int 0]) (C := RX0) (T := TX0) (N := 3) hx hb hts hi_X0 tyX0 tyX0_ok hown kw16 kw17 kw18 hK hP hD hS hA rfl (fun j hj => by rcases (show j = 0 ∨ j = 1 ∨ j = 2 by omega) with rfl | rfl | rfl <;> rfl) (Nat.le_of_ble_eq_true rfl) (Nat.le_of_ble_eq_true rfl) dX4_init_47 (fun q8 H hP hD hS => ?_)
  refine W.widen (k := 16) (n := 209) (Nat.le_refl _) (Nat.le_refl _) ?_
  refine lv_dup hx hb dX4_init_50 rfl ?_
  refine ob_Nv (wc := [(q8, .inr (0, [.null, .int 0, .int 0]))]) (wr := [(o_b, .inr (4, [.ref q1, .ref q2, .ref q4, .ref q6, .null, .null, .null, .int 0, .int 0, .int 0]))] ++ RC) (b := q8) (As := []) (rest := [.ref q8, .ref o_b]) ⟨hx, hb, hml, hown, hts⟩ (mt_X0_init l dC dI cI cZ cR cW xs _ q8) (va_cnB 0 hts gX4_init_X0_init_n34 rfl rfl rfl hn3 kw18 (by decide +kernel) ⟨Nat.le_of_ble_eq_true rfl, Nat.le_of_ble_eq_true rfl⟩) rfl kw19 hK hE hP hD hS hA List.perm_append_comm hl rfl rfl (Nat.le_of_ble_eq_true rfl) ⟨Nat.le_of_ble_eq_true rfl, Nat.le_of_ble_eq_true rfl⟩ dX4_init_51 (fun u9 H locs hq hP hD hS => ?_)
  rw [List.append_assoc] at hP hD
  generalize hRD : RC ++ (ob_w0 q8 u9 ob_z ++ ob_wr (u9 0) cR 24 (fun _ => none)) = RD at hP hD
  refine W.widen (k := 17) (n := 233) (Nat.le_refl _) (Nat.le_refl _) ?_
  refine va_putF (D := (dC, dI)) (ci := 4) (v := .ref q8) (ty := .object "OathCoach$History") (C := RX4) (T := TX4) (N := 10) hx hb hts hi_X4 tyX4 tyX4_ok nmX4 hown hK hP hD hS 0 rfl rfl 4 (by decide) kw20 (fun _ h9 => h9) rfl hnm rfl (by decide +kernel) rfl rfl (Nat.le_of_ble_eq_true rfl) dX4_init_54 (fun H locs hP hD hS => ?_)
  replace hP : va_P (dC, dI) vwCl ([(o_b, .inr (4, [.ref q1, .ref q2, .ref q4, .ref q6, .ref q8, .null, .null, .int 0, .int 0, .int 0]))] ++ RD) H := hP
  replace hD : va_D A ([(o_b, .inr (4, [.ref q1, .ref q2, .ref q4, .ref q6, .ref q8, .null, .null, .int 0, .int 0, .int 0]))] ++ RD) := hD
  refine lv_aload_n hx hb dX4_init_57 rfl (lv_at hl 0 rfl) ?_
  refine lv_iconst (v := 2) hx hb dX4_init_58 (by decide) ?_
  refine va_newq hx hb hown kw10 ho1 hK hP hD hS hA (N' := 2) (by decide) (by decide) (Nat.le_of_ble_eq_true rfl) (Nat.le_of_ble_eq_true rfl) (Nat.le_of_ble_eq_true rfl) dX4_init_59 (fun q10 cA H hK1 hP hD hS => ?_)
  obtain rfl : cR = cA := (ob_sR hK1).symm
  clear hK1
  refine W.widen (k := 18) (n := 235) (Nat.le_refl _) (Nat.le_refl _) ?_
  rw [List.append_assoc] at hP hD
  generalize hRE : RD ++ [(q10, .inl (cR, 2, .inr (.inr (.inr (.inr (fun _ => none))))))] = RE at hP hD
  refine va_putF (D := (dC, dI)) (ci := 4) (v := .ref q10) (ty := .array (.object "OathCoach$Route")) (C := RX4) (T := TX4) (N := 10) hx hb hts hi_X4 tyX4 tyX4_ok nmX4 hown hK hP hD hS 0 rfl rfl 5 (by decide) kw21 (fun _ h9 => h9) rfl hnm rfl (by decide +kernel) rfl rfl (Nat.le_of_ble_eq_true rfl) dX4_init_62 (fun H locs hP hD hS => ?_)
  replace hP : va_P (dC, dI) vwCl ([(o_b, .inr (4, [.ref q1, .ref q2, .ref q4, .ref q6, .ref q8, .ref q10, .null, .int 0, .int 0, .int 0]))] ++ RE) H := hP
  replace hD : va_D A ([(o_b, .inr (4, [.ref q1, .ref q2, .ref q4, .ref q6, .ref q8, .ref q10, .null, .int 0, .int 0, .int 0]))] ++ RE) := hD
  refine lv_aload_n hx hb dX4_init_65 rfl (lv_at hl 0 rfl) ?_
  refine lv_bipush (v := 16) hx hb dX4_init_66 (by decide) ?_
  refine va_newa (a0 := (16, .inl (fun _ => 0))) (atype := .int) (ty := .int) (N' := 16) hx hb kw22 rfl hK hP hD hS hA (fun cA => ob_nc cA 16 .int rfl) (by decide) (by decide) (Nat.le_of_ble_eq_true rfl) (Nat.le_of_ble_eq_true rfl) (Nat.le_of_ble_eq_true rfl) dX4_init_68 (fun q11 cA H hK1 hP hD hS => ?_)
  obtain rfl : cI = cA := (ob_sI hK1).symm
  clear hK1
  refine W.widen (k := 19) (n := 251) (Nat.le_refl _) (Nat.le_refl _) ?_
  replace hP : va_P (dC, dI) vwCl (([(o_b, .inr (4, [.ref q1, .ref q2, .ref q4, .ref q6, .ref q8, .ref q10, .null, .int 0, .int 0, .int 0]))] ++ RE) ++ [(q11, .inl (cI, 16, .inl (fun _ => 0)))]) H := hP
  replace hD : va_D A (([(o_b, .inr (4, [.ref q1, .ref q2, .ref q4, .ref q6, .ref q8, .ref q10, .null, .int 0, .int 0, .int 0]))] ++ RE) ++ [(q11, .inl (cI, 16, .inl (fun _ => 0)))]) := hD
  rw [List.append_assoc] at hP hD
  generalize hRF : RE ++ [(q11, .inl (cI, 16, .inl (fun _ => 0)))] = RF at hP hD
  refine va_putF (D := (dC, dI)) (ci := 4) (v := .ref q11) (ty := .array .int) (C := RX4) (T := TX4) (N := 10) hx hb hts hi_X4 tyX4 tyX4_ok nmX4 hown hK hP hD hS 0 rfl rfl 6 (by decide) kw23 (fun _ h9 => h9) rfl hnm rfl (by decide +kernel) rfl rfl (Nat.le_of_ble_eq_true rfl) dX4_init_70 (fun H locs hP hD hS => ?_)
  replace hP : va_P (dC, dI) vwCl ([(o_b, .inr (4, [.ref q1, .ref q2, .ref q4, .ref q6, .ref q8, .ref q10, .ref q11, .int 0, .int 0, .int 0]))] ++ RF) H := hP
  replace hD : va_D A ([(o_b, .inr (4, [.ref q1, .ref q2, .ref q4, .ref q6, .ref q8, .ref q10, .ref q11, .int 0, .int 0, .int 0]))] ++ RF) := hD
  refine lv_aload_n hx hb dX4_init_73 rfl (lv_at hl 0 rfl) ?_
  refine lv_iconst (v := 0) hx hb dX4_init_74 (by decide) ?_
  refine va_put (D := (dC, dI)) (ci := 4) (v := .int 0) (ty := .int) (C := RX4) (T := TX4) (N := 10) hx hb hts hi_X4 tyX4 tyX4_ok nmX4 hown hK hP hD hS 0 rfl rfl 7 (by decide) kw24 (fun _ h9 => h9) rfl (by decide +kernel) rfl rfl (Nat.le_of_ble_eq_true rfl) dX4_init_75 (fun H locs hP hD hS => ?_)
  replace hP : va_P (dC, dI) vwCl ([(o_b, .inr (4, [.ref q1, .ref q2, .ref q4, .ref q6, .ref q8, .ref q10, .ref q11, .int 0, .int 0, .int 0]))] ++ RF) H := hP
  replace hD : va_D A ([(o_b, .inr (4, [.ref q1, .ref q2, .ref q4, .ref q6, .ref q8, .ref q10, .ref q11, .int 0, .int 0, .int 0]))] ++ RF) := hD
  refine lv_aload_n hx hb dX4_init_78 rfl (lv_at hl 0 rfl) ?_
  refine lv_iconst (v := 0) hx hb dX4_init_79 (by decide) ?_
  refine va_put (D := (dC, dI)) (ci := 4) (v := .int 0) (ty := .int) (C := RX4) (T := TX4) (N := 10) hx hb hts hi_X4 tyX4 tyX4_ok nmX4 hown hK hP hD hS 0 rfl rfl 8 (by decide) kw25 (fun _ h9 => h9) rfl (by decide +kernel) rfl rfl (Nat.le_of_ble_eq_true rfl) dX4_init_80 (fun H locs hP hD hS => ?_)
  replace hP : va_P (dC, dI) vwCl ([(o_b, .inr (4, [.ref q1, .ref q2, .ref q4, .ref q6, .ref q8, .ref q10, .ref q11, .int 0, .int 0, .int 0]))] ++ RF) H := hP
  replace hD : va_D A ([(o_b, .inr (4, [.ref q1, .ref q2, .ref q4, .ref q6, .ref q8, .ref q10, .ref q11, .int 0, .int 0, .int 0]))] ++ RF) := hD
  refine lv_aload_n hx hb dX4_init_83 rfl (lv_at hl 0 rfl) ?_
  refine lv_iconst (v := 0) hx hb dX4_init_84 (by decide) ?_
  refine va_put (D := (dC, dI)) (ci := 4) (v := .int 0) (ty := .int) (C := RX4) (T := TX4) (N := 10) hx hb hts hi_X4 tyX4 tyX4_ok nmX4 hown hK hP hD hS 0 rfl rfl 9 (by decide) kw26 (fun _ h9 => h9) rfl (by decide +kernel) rfl rfl (Nat.le_of_ble_eq_true rfl) dX4_init_85 (fun H locs hP hD hS => ?_)
  replace hP : va_P (dC, dI) vwCl ([(o_b, .inr (4, [.ref q1, .ref q2, .ref q4, .ref q6, .ref q8, .ref q10, .ref q11, .int 0, .int 0, .int 0]))] ++ RF) H := hP
  replace hD : va_D A ([(o_b, .inr (4, [.ref q1, .ref q2, .ref q4, .ref q6, .ref q8, .ref q10, .ref q11, .int 0, .int 0, .int 0]))] ++ RF) := hD
  refine lv_iconst (v := 0) hx hb dX4_init_88 (by decide) ?_
  refine lv_istore_n (lv' := [(1, .int (nI 0)), (0, .ref o_b)]) hx hb dX4_init_89 rfl hl (by decide) rfl (fun ls hl => ?_)
  generalize hRG : ob_w3 q2 u3 cI ob_z ++ (ob_w1 q4 u5 cI ob_z ++ (ob_w1 q6 u7 cI ob_z ++ (ob_w0 q8 u9 ob_z ++ (ob_wr (u9 0) cR 24 (fun _ => none) ++ ([(q10, .inl (cR, 2, .inr (.inr (.inr (.inr (fun _ => none))))))] ++ [(q11, .inl (cI, 16, .inl (fun _ => 0)))]))))) = RG
  have hRR : RF = [(q1, .inl (cW, 8, .inr (.inr (.inr (.inr (ob_rg (fun _ => (0, fun _ => 0)) 0))))))] ++ (ob_ry cI (fun _ => (0, fun _ => 0)) (fun _ => ob_zr) 0 ++ RG) := by
    rw [← hRF, ← hRE, ← hRD, ← hRC, ← hRB, ← hRA, ← hRG]
    simp only [List.append_assoc]
    rfl
  rw [hRR] at hP hD
  have loop : ∀ (d r : Nat) (ar : ob_AH) (H : Heap) (locs : List Loc) (ls : Array Slot), r + d = 8 → va_P (dC, dI) vwCl ([(o_b, .inr (4, [.ref q1, .ref q2, .ref q4, .ref q6, .ref q8, .ref q10, .ref q11, .int 0, .int 0, .int 0]))] ++ ([(q1, .inl (cW, 8, .inr (.inr (.inr (.inr (ob_rg ar r))))))] ++ (ob_ry cI ar (fun _ => ob_zr) r ++ RG))) H → va_D A ([(o_b, .inr (4, [.ref q1, .ref q2, .ref q4, .ref q6, .ref q8, .ref q10, .ref q11, .int 0, .int 0, .int 0]))] ++ ([(q1, .inl (cW, 8, .inr (.inr (.inr (.inr (ob_rg ar r))))))] ++ (ob_ry cI ar (fun _ => ob_zr) r ++ RG))) → va_S A s.heap H locs → lv_has ls 2 [(1, .int (nI r)), (0, .ref o_b)] → W p l e ({ frames := 2, cells := 35, slots := 603, locals := 60 } : Room) s m [Value.ref o_b].toArray below meth c H locs (19 + 2 * r) (251 + 44 * r) (MQ below (ob_QvE (dC, dI) (fun (_ : ob_AX) => True) (fun u => ob_wx o_b cI cR cW u ob_SZ) A) [Value.ref o_b].toArray s 35 603 A) (F0 m 90 ls []) := by
    intro d
    induction d with
    | zero =>
      intro r ar H locs ls hrd hP hD hS hl
      have hr8 : r = 8 := by omega
      subst hr8
      refine lv_iload_n hx hb dX4_init_90 rfl (lv_at hl 0 rfl) ?_
      refine lv_bipush (v := 8) hx hb dX4_init_91 (by decide) ?_
      refine lv_icmp_ge (tgt := 115) hx hb dX4_init_93 (by decide) (fun _ => ?_) (fun hc => absurd hc (by decide))
      refine W.widen (k := 35) (n := 603) (by omega) (by omega) ?_
      have hp : ([(o_b, .inr (4, [.ref q1, .ref q2, .ref q4, .ref q6, .ref q8, .ref q10, .ref q11, .int 0, .int 0, .int 0]))] ++ ([(q1, .inl (cW, 8, .inr (.inr (.inr (.inr (ob_rg ar 8))))))] ++ (ob_ry cI ar (fun _ => ob_zr) 8 ++ RG)) : va_W).Perm (ob_wx o_b cI cR cW ((fun j : Nat => if j = 0 then q1 else if j = 1 then q2 else if j = 2 then q4 else if j = 3 then q6 else if j = 4 then q8 else if j = 5 then q10 else if j = 6 then q11 else 0), ar, u3, u5, u7, u9, (fun _ => (0, fun _ => 0)), (fun _ => (0, fun _ => 0))) ob_SZ : va_W) := by
        rw [← hRG]
        refine (ob_pc _ _ _ _ _ _ _ _ _ _).trans ?_
        unfold ob_wx ob_SZ
        dsimp only
        rw [ob_dy0, ob_dy0]
        simp only [List.append_nil, List.nil_append]
        rw [← List.append_assoc]
        exact List.Perm.refl _
      exact ob_vretE (w' := fun u => ob_wx o_b cI cR cW u ob_SZ) _ hx hb hr hlocks trivial (ob_Pp hP hp) (ob_Dp hD hp) hS dX4_init_115
    | succ d ih =>
      intro r ar H locs ls hrd hP hD hS hl
      refine lv_iload_n hx hb dX4_init_90 rfl (lv_at hl 0 rfl) ?_
      refine lv_bipush (v := 8) hx hb dX4_init_91 (by decide) ?_
      refine lv_icmp_ge (tgt := 115) hx hb dX4_init_93 (by decide) (fun hc => absurd hc (nI_ge (b := 8) (by omega) (by omega))) (fun _ => ?_)
      refine lv_aload_n hx hb dX4_init_96 rfl (lv_at hl 1 rfl) ?_
      refine va_get (D := (dC, dI)) (ci := 4) (v := .ref q1) (C := RX4) (T := TX4) (N := 10) hx hb hts hi_X4 hown hK hP 0 rfl rfl 0 (by decide) kw4 (fun _ h9 => h9) rfl dX4_init_97 ?_
      refine lv_iload_n hx hb dX4_init_100 rfl (lv_at hl 0 rfl) ?_
      refine va_new (ci := 2) (fs := [.int 0, .int 0, .int 0, .null]) (C := RX2) (T := TX2) (N := 4) hx hb hts hi_X2 tyX2 tyX2_ok hown kw3 kw27 kw28 hK hP hD hS hA rfl (fun j hj => by rcases (show j = 0 ∨ j = 1 ∨ j = 2 ∨ j = 3 by omega) with rfl | rfl | rfl | rfl <;> rfl) (show 19 + 2 * r + 1 ≤ 35 by omega) (show 251 + 44 * r + 4 ≤ 603 by omega) dX4_init_101 (fun q12 H hP hD hS => ?_)
      refine lv_dup hx hb dX4_init_104 rfl ?_
      refine ob_Nv (wc := [(q12, .inr (2, [.int 0, .int 0, .int 0, .null]))]) (wr := [(o_b, .inr (4, [.ref q1, .ref q2, .ref q4, .ref q6, .ref q8, .ref q10, .ref q11, .int 0, .int 0, .int 0]))] ++ ([(q1, .inl (cW, 8, .inr (.inr (.inr (.inr (ob_rg ar r))))))] ++ (ob_ry cI ar (fun _ => ob_zr) r ++ RG))) (b := q12) (As := []) (rest := [.ref q12, .int (nI r), .ref q1]) ⟨hx, hb, hml, hown, hts⟩ (mt_X2_init l dC dI cI cZ cR cW xs _ q12) (va_cnB 0 hts gX4_init_X2_init_n57 rfl rfl rfl hn4 kw28 (by decide +kernel) ⟨Nat.le_of_ble_eq_true rfl, Nat.le_of_ble_eq_true rfl⟩) rfl kw29 hK hE hP hD hS hA List.perm_append_comm hl rfl rfl (Nat.le_of_ble_eq_true rfl) ⟨show 19 + 2 * r + 1 + 1 ≤ 35 by omega, show 251 + 44 * r + 4 + 40 ≤ 603 by omega⟩ dX4_init_105 (fun u13 H locs hq hP hD hS => ?_)
      have hp : (([(o_b, .inr (4, [.ref q1, .ref q2, .ref q4, .ref q6, .ref q8, .ref q10, .ref q11, .int 0, .int 0, .int 0]))] ++ ([(q1, .inl (cW, 8, .inr (.inr (.inr (.inr (ob_rg ar r))))))] ++ (ob_ry cI ar (fun _ => ob_zr) r ++ RG))) ++ ob_w2 q12 u13 cI ob_zr : va_W).Perm ([(o_b, .inr (4, [.ref q1, .ref q2, .ref q4, .ref q6, .ref q8, .ref q10, .ref q11, .int 0, .int 0, .int 0]))] ++ ([(q1, .inl (cW, 8, .inr (.inr (.inr (.inr (ob_rg ar r))))))] ++ (ob_w2 q12 u13 cI ob_zr ++ (ob_ry cI ar (fun _ => ob_zr) r ++ RG))) : va_W) := by
        rw [List.append_assoc, List.append_assoc]
        exact List.Perm.append_left _ (List.Perm.append_left _ List.perm_append_comm)
      replace hP := ob_Pp hP hp
      replace hD := ob_Dp hD hp
      refine va_astq hx hb hK hP hD hS 1 3 2 2 rfl rfl rfl rfl (vp_in_nI (show r < 8 by omega) (by omega)) dX4_init_108 (fun H locs hP hD hS => ?_)
      replace hP : va_P (dC, dI) vwCl ([(o_b, .inr (4, [.ref q1, .ref q2, .ref q4, .ref q6, .ref q8, .ref q10, .ref q11, .int 0, .int 0, .int 0]))] ++ ([(q1, .inl (cW, 8, .inr (.inr (.inr (.inr (va_up (ob_rg ar r) (Int32.toNatClampNeg (nI r)) (some q12)))))))] ++ (ob_w2 q12 u13 cI ob_zr ++ (ob_ry cI ar (fun _ => ob_zr) r ++ RG)))) H := hP
      replace hD : va_D A ([(o_b, .inr (4, [.ref q1, .ref q2, .ref q4, .ref q6, .ref q8, .ref q10, .ref q11, .int 0, .int 0, .int 0]))] ++ ([(q1, .inl (cW, 8, .inr (.inr (.inr (.inr (va_up (ob_rg ar r) (Int32.toNatClampNeg (nI r)) (some q12)))))))] ++ (ob_w2 q12 u13 cI ob_zr ++ (ob_ry cI ar (fun _ => ob_zr) r ++ RG)))) := hD
      rw [pu_cl (show r < 2147483648 by omega), ob_rg_s ar r q12 u13] at hP hD
      have hp2 : ([(o_b, .inr (4, [.ref q1, .ref q2, .ref q4, .ref q6, .ref q8, .ref q10, .ref q11, .int 0, .int 0, .int 0]))] ++ ([(q1, .inl (cW, 8, .inr (.inr (.inr (.inr (ob_rg (va_up ar r (q12, u13)) (r + 1)))))))] ++ (ob_w2 q12 u13 cI ob_zr ++ (ob_ry cI ar (fun _ => ob_zr) r ++ RG))) : va_W).Perm ([(o_b, .inr (4, [.ref q1, .ref q2, .ref q4, .ref q6, .ref q8, .ref q10, .ref q11, .int 0, .int 0, .int 0]))] ++ ([(q1, .inl (cW, 8, .inr (.inr (.inr (.inr (ob_rg (va_up ar r (q12, u13)) (r + 1)))))))] ++ (ob_ry cI (va_up ar r (q12, u13)) (fun _ => ob_zr) (r + 1) ++ RG)) : va_W) := by
        rw [ob_ry_s, ← List.append_assoc (ob_w2 q12 u13 cI ob_zr)]
        exact List.Perm.append_left _ (List.Perm.append_left _ (List.perm_append_comm.append_right _))
      refine lv_iinc (v := nI (r + 1)) (lv' := [(1, .int (nI (r + 1))), (0, .ref o_b)]) hx hb dX4_init_109 hl (k := 0) rfl (nI_1 r) (by decide) rfl (fun ls hl => ?_)
      refine lv_goto (tgt := 90) hx hb dX4_init_112 (by decide) ?_
      refine W.widen (k := 19 + 2 * (r + 1)) (n := 251 + 44 * (r + 1)) (show 19 + 2 * r + 1 + 1 ≤ 19 + 2 * (r + 1) by omega) (show 251 + 44 * r + 4 + 40 ≤ 251 + 44 * (r + 1) by omega) ?_
      exact ih (r + 1) (va_up ar r (q12, u13)) H locs ls (by omega) (ob_Pp hP hp2) (ob_Dp hD hp2) hS hl
  exact loop 8 0 (fun _ => (0, fun _ => 0)) H locs ls rfl hP hD hS hl
