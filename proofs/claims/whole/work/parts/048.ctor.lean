/-- places of a list, all of them once -/
theorem ob_ix {ws wc wr : va_W} (isC isR : List Nat) (hC : isC.map (fun i => ws[i]?) = wc.map some) (hR : isR.map (fun i => ws[i]?) = wr.map some) (hp : (isC ++ isR).isPerm (List.range ws.length) = true) : ws.Perm (wc ++ wr) := by
  have h1 : (isC ++ isR).Perm (List.range ws.length) := List.isPerm_iff.mp hp
  have h2 := h1.filterMap (fun i => ws[i]?)
  have h3 : (List.range ws.length).filterMap (fun i => ws[i]?) = ws := by
    apply List.ext_getElem?
    intro k
    have : (List.range ws.length).filterMap (fun i => ws[i]?) = (List.range ws.length).filterMap (fun i => ws[i]?) := rfl
    have h4 : (List.range ws.length).map (fun i => ws[i]?) = ws.map some := by
      apply List.ext_getElem?
      intro j
      rw [List.getElem?_map, List.getElem?_map]
      by_cases hj : j < ws.length
      · rw [List.getElem?_range hj, List.getElem?_eq_getElem hj]
        simp [hj]
      · rw [List.getElem?_eq_none (by simpa using hj), List.getElem?_eq_none (by simpa using hj)]
        rfl
    have h5 : (List.range ws.length).filterMap (fun i => ws[i]?) = ((List.range ws.length).map (fun i => ws[i]?)).filterMap id := by
      rw [List.filterMap_map]; rfl
    rw [h5, h4, List.filterMap_map]
    simp
  have h6 : ∀ (is : List Nat) (w : va_W), is.map (fun i => ws[i]?) = w.map some → is.filterMap (fun i => ws[i]?) = w := by
    intro is w hw
    have h7 : is.filterMap (fun i => ws[i]?) = (is.map (fun i => ws[i]?)).filterMap id := by rw [List.filterMap_map]; rfl
    rw [h7, hw, List.filterMap_map]
    simp
  rw [List.filterMap_append, h6 isC wc hC, h6 isR wr hR, h3] at h2
  exact h2.symm
theorem ob_nc (cA : ClassId) (n : Nat) (ty : FieldType) (h : defaultValue ty = .int 0) : vp_cell cA (n, .inl (fun _ => 0)) = arrV cA n (fun _ => defaultValue ty) := by rw [h]; rfl
def ob_zr : ob_B := (fun k => if k = 0 then 1 else 0, fun _ _ => 0)
def ob_zm : ob_B := (fun _ => 0, fun k => if k = 0 then upd (upd (upd (upd (upd (upd (upd (upd (fun _ => 0) 0 (-1)) 1 (-1)) 2 (-1)) 3 (-1)) 4 (-1)) 5 (-1)) 6 (-1)) 7 (-1) else fun _ => 0)
abbrev ob_AD : Type := (Nat → Nat) × (Nat → Option Nat) × (Nat → Nat) × (Nat → Nat → Nat) × (Nat → Nat) × (Nat → Nat) × (Nat → Nat) × (Nat → Nat)
/-- the class's world as its constructor leaves it: its addresses u -/
def ob_c0 (o : Nat) (cI cR cW : ClassId) (u : ob_AD) : va_W :=
  ob_w4 o u.1 cI ob_z ++ (ob_wr (u.1 0) cW 8 u.2.1 ++ (ob_w2 (u.2.2.1 0) (u.2.2.2.1 0) cI ob_zr ++ (ob_w2 (u.2.2.1 1) (u.2.2.2.1 1) cI ob_zr ++ (ob_w2 (u.2.2.1 2) (u.2.2.2.1 2) cI ob_zr ++ (ob_w2 (u.2.2.1 3) (u.2.2.2.1 3) cI ob_zr ++ (ob_w2 (u.2.2.1 4) (u.2.2.2.1 4) cI ob_zr ++ (ob_w2 (u.2.2.1 5) (u.2.2.2.1 5) cI ob_zr ++ (ob_w2 (u.2.2.1 6) (u.2.2.2.1 6) cI ob_zr ++ (ob_w2 (u.2.2.1 7) (u.2.2.2.1 7) cI ob_zr ++ (ob_w3 (u.1 1) u.2.2.2.2.1 cI ob_z ++ (ob_w1 (u.1 2) u.2.2.2.2.2.1 cI ob_z ++ (ob_w1 (u.1 3) u.2.2.2.2.2.2.1 cI ob_z ++ (ob_w0 (u.1 4) u.2.2.2.2.2.2.2 ob_z ++ (ob_wr (u.2.2.2.2.2.2.2 0) cR 24 (fun _ => none) ++ ob_wr (u.1 5) cR 2 (fun _ => none)))))))))))))))

set_option maxHeartbeats 400000 in
set_option maxRecDepth 100000 in
theorem mt_X1_init (l : Launch) (dC : Nat → ClassId) (dI : Nat → Nat → Nat) (cI cZ cR cW : ClassId) (xs : Nat → Nat) (sz : Nat) (o_b : Nat) : ob_M l yX1_init wsX1_init ({ frames := 1, cells := 5, slots := 35, locals := 40 } : Room) (dC, dI) (ob_ty cI cZ cR cW) xs [.ref o_b] [(o_b, .inr (1, [.int 0, .int 0, .int 0, .int 0, .int 0, .int 0, .int 0, .null, .null, .null, .null, .null]))] sz (ob_QvE (dC, dI) (fun (_ : Nat → Nat) => True) (fun a => (ob_w1 o_b a cI ob_z))) := by
  refine ob_in (cc := cX1_init) (maxL := 1) (ret := none) (own := RX1) (by decide) rfl rfl [(0, .ref o_b)] rfl (Nat.le_of_ble_eq_true rfl) ?_
  intro p e s m below meth c hx hb hr hml hown hts hlocks hnm hK A hA hE hP hD hS ls hl
  have hnm : meth.name = "<init>" := hnm
  obtain ⟨-, -, -, -, -, -, -, -, -, hn1, hn2, hn3, hn4, hn5, ho1, ho2⟩ := id hE
  have kw0 := hts (.methodLink RX1 3 objectInit) (by decide +kernel)
  have kw1 := hts (.instanceMethod objectInit) (by decide +kernel)
  have kw2 := hts (.code objectInit ⟨#[0xb1]⟩ 1 none) (by decide +kernel)
  have kw3 := hts (.fieldLink RX1 9 "OathCoach$Route" "at" "I") (by decide +kernel)
  have kw4 := hts (.fieldLink RX1 15 "OathCoach$Route" "home" "I") (by decide +kernel)
  have kw5 := hts (.fieldLink RX1 18 "OathCoach$Route" "hour" "I") (by decide +kernel)
  have kw6 := hts (.fieldLink RX1 21 "OathCoach$Route" "snow" "I") (by decide +kernel)
  have kw7 := hts (.fieldLink RX1 24 "OathCoach$Route" "oaths" "I") (by decide +kernel)
  have kw8 := hts (.fieldLink RX1 27 "OathCoach$Route" "timesKept" "I") (by decide +kernel)
  have kw9 := hts (.fieldLink RX1 30 "OathCoach$Route" "timesBroken" "I") (by decide +kernel)
  have kw10 := hts (.arrayClass .int) (by decide +kernel)
  have kw11 := hts (.fieldLink RX1 33 "OathCoach$Route" "kind" "[I") (by decide +kernel)
  have kw12 := hts (.fieldLink RX1 37 "OathCoach$Route" "place" "[I") (by decide +kernel)
  have kw13 := hts (.fieldLink RX1 40 "OathCoach$Route" "weight" "[I") (by decide +kernel)
  have kw14 := hts (.fieldLink RX1 43 "OathCoach$Route" "due" "[I") (by decide +kernel)
  have kw15 := hts (.fieldLink RX1 46 "OathCoach$Route" "came" "[I") (by decide +kernel)
  have hi_X1 : ∀ w ∈ u_ws RX1 TX1 12, w ∈ wsX1_init := by decide +kernel
  refine lv_aload_n hx hb dX1_init_0 rfl (lv_at hl 0 rfl) ?_
  refine W.objInit hx hb hown kw0 kw1 kw2 rfl (by rw [hml]; exact hl.1) rfl dX1_init_1 (Nat.le_of_ble_eq_true rfl) (Nat.le_of_ble_eq_true rfl) ?_
  refine W.eq (g2 := F0 m 4 ls []) rfl ?_
  refine lv_aload_n hx hb dX1_init_4 rfl (lv_at hl 0 rfl) ?_
  refine lv_iconst (v := 0) hx hb dX1_init_5 (by decide) ?_
  refine va_put (D := (dC, dI)) (ci := 1) (v := .int 0) (ty := .int) (C := RX1) (T := TX1) (N := 12) hx hb hts hi_X1 tyX1 tyX1_ok nmX1 hown hK hP hD hS 0 rfl rfl 0 (by decide) kw3 (fun _ h9 => h9) rfl (by decide +kernel) rfl rfl (Nat.le_of_ble_eq_true rfl) dX1_init_6 (fun H locs hP hD hS => ?_)
  replace hP : va_P (dC, dI) vwCl ([(o_b, .inr (1, [.int 0, .int 0, .int 0, .int 0, .int 0, .int 0, .int 0, .null, .null, .null, .null, .null]))]) H := hP
  replace hD : va_D A ([(o_b, .inr (1, [.int 0, .int 0, .int 0, .int 0, .int 0, .int 0, .int 0, .null, .null, .null, .null, .null]))]) := hD
  refine lv_aload_n hx hb dX1_init_9 rfl (lv_at hl 0 rfl) ?_
  refine lv_iconst (v := 0) hx hb dX1_init_10 (by decide) ?_
  refine va_put (D := (dC, dI)) (ci := 1) (v := .int 0) (ty := .int) (C := RX1) (T := TX1) (N := 12) hx hb hts hi_X1 tyX1 tyX1_ok nmX1 hown hK hP hD hS 0 rfl rfl 1 (by decide) kw4 (fun _ h9 => h9) rfl (by decide +kernel) rfl rfl (Nat.le_of_ble_eq_true rfl) dX1_init_11 (fun H locs hP hD hS => ?_)
  replace hP : va_P (dC, dI) vwCl ([(o_b, .inr (1, [.int 0, .int 0, .int 0, .int 0, .int 0, .int 0, .int 0, .null, .null, .null, .null, .null]))]) H := hP
  replace hD : va_D A ([(o_b, .inr (1, [.int 0, .int 0, .int 0, .int 0, .int 0, .int 0, .int 0, .null, .null, .null, .null, .null]))]) := hD
  refine lv_aload_n hx hb dX1_init_14 rfl (lv_at hl 0 rfl) ?_
  refine lv_iconst (v := 0) hx hb dX1_init_15 (by decide) ?_
  refine va_put (D := (dC, dI)) (ci := 1) (v := .int 0) (ty := .int) (C := RX1) (T := TX1) (N := 12) hx hb hts hi_X1 tyX1 tyX1_ok nmX1 hown hK hP hD hS 0 rfl rfl 2 (by decide) kw5 (fun _ h9 => h9) rfl (by decide +kernel) rfl rfl (Nat.le_of_ble_eq_true rfl) dX1_init_16 (fun H locs hP hD hS => ?_)
  replace hP : va_P (dC, dI) vwCl ([(o_b, .inr (1, [.int 0, .int 0, .int 0, .int 0, .int 0, .int 0, .int 0, .null, .null, .null, .null, .null]))]) H := hP
  replace hD : va_D A ([(o_b, .inr (1, [.int 0, .int 0, .int 0, .int 0, .int 0, .int 0, .int 0, .null, .null, .null, .null, .null]))]) := hD
  refine lv_aload_n hx hb dX1_init_19 rfl (lv_at hl 0 rfl) ?_
  refine lv_iconst (v := 0) hx hb dX1_init_20 (by decide) ?_
  refine va_put (D := (dC, dI)) (ci := 1) (v := .int 0) (ty := .int) (C := RX1) (T := TX1) (N := 12) hx hb hts hi_X1 tyX1 tyX1_ok nmX1 hown hK hP hD hS 0 rfl rfl 3 (by decide) kw6 (fun _ h9 => h9) rfl (by decide +kernel) rfl rfl (Nat.le_of_ble_eq_true rfl) dX1_init_21 (fun H locs hP hD hS => ?_)
  replace hP : va_P (dC, dI) vwCl ([(o_b, .inr (1, [.int 0, .int 0, .int 0, .int 0, .int 0, .int 0, .int 0, .null, .null, .null, .null, .null]))]) H := hP
  replace hD : va_D A ([(o_b, .inr (1, [.int 0, .int 0, .int 0, .int 0, .int 0, .int 0, .int 0, .null, .null, .null, .null, .null]))]) := hD
  refine lv_aload_n hx hb dX1_init_24 rfl (lv_at hl 0 rfl) ?_
  refine lv_iconst (v := 0) hx hb dX1_init_25 (by decide) ?_
  refine va_put (D := (dC, dI)) (ci := 1) (v := .int 0) (ty := .int) (C := RX1) (T := TX1) (N := 12) hx hb hts hi_X1 tyX1 tyX1_ok nmX1 hown hK hP hD hS 0 rfl rfl 4 (by decide) kw7 (fun _ h9 => h9) rfl (by decide +kernel) rfl rfl (Nat.le_of_ble_eq_true rfl) dX1_init_26 (fun H locs hP hD hS => ?_)
  replace hP : va_P (dC, dI) vwCl ([(o_b, .inr (1, [.int 0, .int 0, .int 0, .int 0, .int 0, .int 0, .int 0, .null, .null, .null, .null, .null]))]) H := hP
  replace hD : va_D A ([(o_b, .inr (1, [.int 0, .int 0, .int 0, .int 0, .int 0, .int 0, .int 0, .null, .null, .null, .null, .null]))]) := hD
  refine lv_aload_n hx hb dX1_init_29 rfl (lv_at hl 0 rfl) ?_
  refine lv_iconst (v := 0) hx hb dX1_init_30 (by decide) ?_
  refine va_put (D := (dC, dI)) (ci := 1) (v := .int 0) (ty := .int) (C := RX1) (T := TX1) (N := 12) hx hb hts hi_X1 tyX1 tyX1_ok nmX1 hown hK hP hD hS 0 rfl rfl 5 (by decide) kw8 (fun _ h9 => h9) rfl (by decide +kernel) rfl rfl (Nat.le_of_ble_eq_true rfl) dX1_init_31 (fun H locs hP hD hS => ?_)
  replace hP : va_P (dC, dI) vwCl ([(o_b, .inr (1, [.int 0, .int 0, .int 0, .int 0, .int 0, .int 0, .int 0, .null, .null, .null, .null, .null]))]) H := hP
  replace hD : va_D A ([(o_b, .inr (1, [.int 0, .int 0, .int 0, .int 0, .int 0, .int 0, .int 0, .null, .null, .null, .null, .null]))]) := hD
  refine lv_aload_n hx hb dX1_init_34 rfl (lv_at hl 0 rfl) ?_
  refine lv_iconst (v := 0) hx hb dX1_init_35 (by decide) ?_
  refine va_put (D := (dC, dI)) (ci := 1) (v := .int 0) (ty := .int) (C := RX1) (T := TX1) (N := 12) hx hb hts hi_X1 tyX1 tyX1_ok nmX1 hown hK hP hD hS 0 rfl rfl 6 (by decide) kw9 (fun _ h9 => h9) rfl (by decide +kernel) rfl rfl (Nat.le_of_ble_eq_true rfl) dX1_init_36 (fun H locs hP hD hS => ?_)
  replace hP : va_P (dC, dI) vwCl ([(o_b, .inr (1, [.int 0, .int 0, .int 0, .int 0, .int 0, .int 0, .int 0, .null, .null, .null, .null, .null]))]) H := hP
  replace hD : va_D A ([(o_b, .inr (1, [.int 0, .int 0, .int 0, .int 0, .int 0, .int 0, .int 0, .null, .null, .null, .null, .null]))]) := hD
  refine lv_aload_n hx hb dX1_init_39 rfl (lv_at hl 0 rfl) ?_
  refine lv_bipush (v := 7) hx hb dX1_init_40 (by decide) ?_
  refine va_newa (a0 := (7, .inl (fun _ => 0))) (atype := .int) (ty := .int) (N' := 7) hx hb kw10 rfl hK hP hD hS hA (fun cA => ob_nc cA 7 .int rfl) (by decide) (by decide) (Nat.le_of_ble_eq_true rfl) (Nat.le_of_ble_eq_true rfl) (Nat.le_of_ble_eq_true rfl) dX1_init_42 (fun q1 cA H hK1 hP hD hS => ?_)
  obtain rfl : cI = cA := (ob_sI hK1).symm
  clear hK1
  refine W.widen (k := 1) (n := 7) (Nat.le_refl _) (Nat.le_refl _) ?_
  replace hP : va_P (dC, dI) vwCl ([(o_b, .inr (1, [.int 0, .int 0, .int 0, .int 0, .int 0, .int 0, .int 0, .null, .null, .null, .null, .null])), (q1, .inl (cI, 7, .inl (fun _ => 0)))]) H := hP
  replace hD : va_D A ([(o_b, .inr (1, [.int 0, .int 0, .int 0, .int 0, .int 0, .int 0, .int 0, .null, .null, .null, .null, .null])), (q1, .inl (cI, 7, .inl (fun _ => 0)))]) := hD
  refine va_putF (D := (dC, dI)) (ci := 1) (v := .ref q1) (ty := .array .int) (C := RX1) (T := TX1) (N := 12) hx hb hts hi_X1 tyX1 tyX1_ok nmX1 hown hK hP hD hS 0 rfl rfl 7 (by decide) kw11 (fun _ h9 => h9) rfl hnm rfl (by decide +kernel) rfl rfl (Nat.le_of_ble_eq_true rfl) dX1_init_44 (fun H locs hP hD hS => ?_)
  replace hP : va_P (dC, dI) vwCl ([(o_b, .inr (1, [.int 0, .int 0, .int 0, .int 0, .int 0, .int 0, .int 0, .ref q1, .null, .null, .null, .null])), (q1, .inl (cI, 7, .inl (fun _ => 0)))]) H := hP
  replace hD : va_D A ([(o_b, .inr (1, [.int 0, .int 0, .int 0, .int 0, .int 0, .int 0, .int 0, .ref q1, .null, .null, .null, .null])), (q1, .inl (cI, 7, .inl (fun _ => 0)))]) := hD
  refine lv_aload_n hx hb dX1_init_47 rfl (lv_at hl 0 rfl) ?_
  refine lv_bipush (v := 7) hx hb dX1_init_48 (by decide) ?_
  refine va_newa (a0 := (7, .inl (fun _ => 0))) (atype := .int) (ty := .int) (N' := 7) hx hb kw10 rfl hK hP hD hS hA (fun cA => ob_nc cA 7 .int rfl) (by decide) (by decide) (Nat.le_of_ble_eq_true rfl) (Nat.le_of_ble_eq_true rfl) (Nat.le_of_ble_eq_true rfl) dX1_init_50 (fun q2 cA H hK1 hP hD hS => ?_)
  obtain rfl : cI = cA := (ob_sI hK1).symm
  clear hK1
  refine W.widen (k := 2) (n := 14) (Nat.le_refl _) (Nat.le_refl _) ?_
  replace hP : va_P (dC, dI) vwCl ([(o_b, .inr (1, [.int 0, .int 0, .int 0, .int 0, .int 0, .int 0, .int 0, .ref q1, .null, .null, .null, .null])), (q1, .inl (cI, 7, .inl (fun _ => 0))), (q2, .inl (cI, 7, .inl (fun _ => 0)))]) H := hP
  replace hD : va_D A ([(o_b, .inr (1, [.int 0, .int 0, .int 0, .int 0, .int 0, .int 0, .int 0, .ref q1, .null, .null, .null, .null])), (q1, .inl (cI, 7, .inl (fun _ => 0))), (q2, .inl (cI, 7, .inl (fun _ => 0)))]) := hD
  refine va_putF (D := (dC, dI)) (ci := 1) (v := .ref q2) (ty := .array .int) (C := RX1) (T := TX1) (N := 12) hx hb hts hi_X1 tyX1 tyX1_ok nmX1 hown hK hP hD hS 0 rfl rfl 8 (by decide) kw12 (fun _ h9 => h9) rfl hnm rfl (by decide +kernel) rfl rfl (Nat.le_of_ble_eq_true rfl) dX1_init_52 (fun H locs hP hD hS => ?_)
  replace hP : va_P (dC, dI) vwCl ([(o_b, .inr (1, [.int 0, .int 0, .int 0, .int 0, .int 0, .int 0, .int 0, .ref q1, .ref q2, .null, .null, .null])), (q1, .inl (cI, 7, .inl (fun _ => 0))), (q2, .inl (cI, 7, .inl (fun _ => 0)))]) H := hP
  replace hD : va_D A ([(o_b, .inr (1, [.int 0, .int 0, .int 0, .int 0, .int 0, .int 0, .int 0, .ref q1, .ref q2, .null, .null, .null])), (q1, .inl (cI, 7, .inl (fun _ => 0))), (q2, .inl (cI, 7, .inl (fun _ => 0)))]) := hD
  refine lv_aload_n hx hb dX1_init_55 rfl (lv_at hl 0 rfl) ?_
  refine lv_bipush (v := 7) hx hb dX1_init_56 (by decide) ?_
  refine va_newa (a0 := (7, .inl (fun _ => 0))) (atype := .int) (ty := .int) (N' := 7) hx hb kw10 rfl hK hP hD hS hA (fun cA => ob_nc cA 7 .int rfl) (by decide) (by decide) (Nat.le_of_ble_eq_true rfl) (Nat.le_of_ble_eq_true rfl) (Nat.le_of_ble_eq_true rfl) dX1_init_58 (fun q3 cA H hK1 hP hD hS => ?_)
  obtain rfl : cI = cA := (ob_sI hK1).symm
  clear hK1
  refine W.widen (k := 3) (n := 21) (Nat.le_refl _) (Nat.le_refl _) ?_
  replace hP : va_P (dC, dI) vwCl ([(o_b, .inr (1, [.int 0, .int 0, .int 0, .int 0, .int 0, .int 0, .int 0, .ref q1, .ref q2, .null, .null, .null])), (q1, .inl (cI, 7, .inl (fun _ => 0))), (q2, .inl (cI, 7, .inl (fun _ => 0))), (q3, .inl (cI, 7, .inl (fun _ => 0)))]) H := hP
  replace hD : va_D A ([(o_b, .inr (1, [.int 0, .int 0, .int 0, .int 0, .int 0, .int 0, .int 0, .ref q1, .ref q2, .null, .null, .null])), (q1, .inl (cI, 7, .inl (fun _ => 0))), (q2, .inl (cI, 7, .inl (fun _ => 0))), (q3, .inl (cI, 7, .inl (fun _ => 0)))]) := hD
  refine va_putF (D := (dC, dI)) (ci := 1) (v := .ref q3) (ty := .array .int) (C := RX1) (T := TX1) (N := 12) hx hb hts hi_X1 tyX1 tyX1_ok nmX1 hown hK hP hD hS 0 rfl rfl 9 (by decide) kw13 (fun _ h9 => h9) rfl hnm rfl (by decide +kernel) rfl rfl (Nat.le_of_ble_eq_true rfl) dX1_init_60 (fun H locs hP hD hS => ?_)
  replace hP : va_P (dC, dI) vwCl ([(o_b, .inr (1, [.int 0, .int 0, .int 0, .int 0, .int 0, .int 0, .int 0, .ref q1, .ref q2, .ref q3, .null, .null])), (q1, .inl (cI, 7, .inl (fun _ => 0))), (q2, .inl (cI, 7, .inl (fun _ => 0))), (q3, .inl (cI, 7, .inl (fun _ => 0)))]) H := hP
  replace hD : va_D A ([(o_b, .inr (1, [.int 0, .int 0, .int 0, .int 0, .int 0, .int 0, .int 0, .ref q1, .ref q2, .ref q3, .null, .null])), (q1, .inl (cI, 7, .inl (fun _ => 0))), (q2, .inl (cI, 7, .inl (fun _ => 0))), (q3, .inl (cI, 7, .inl (fun _ => 0)))]) := hD
  refine lv_aload_n hx hb dX1_init_63 rfl (lv_at hl 0 rfl) ?_
  refine lv_bipush (v := 7) hx hb dX1_init_64 (by decide) ?_
  refine va_newa (a0 := (7, .inl (fun _ => 0))) (atype := .int) (ty := .int) (N' := 7) hx hb kw10 rfl hK hP hD hS hA (fun cA => ob_nc cA 7 .int rfl) (by decide) (by decide) (Nat.le_of_ble_eq_true rfl) (Nat.le_of_ble_eq_true rfl) (Nat.le_of_ble_eq_true rfl) dX1_init_66 (fun q4 cA H hK1 hP hD hS => ?_)
  obtain rfl : cI = cA := (ob_sI hK1).symm
  clear hK1
  refine W.widen (k := 4) (n := 28) (Nat.le_refl _) (Nat.le_refl _) ?_
  replace hP : va_P (dC, dI) vwCl ([(o_b, .inr (1, [.int 0, .int 0, .int 0, .int 0, .int 0, .int 0, .int 0, .ref q1, .ref q2, .ref q3, .null, .null])), (q1, .inl (cI, 7, .inl (fun _ => 0))), (q2, .inl (cI, 7, .inl (fun _ => 0))), (q3, .inl (cI, 7, .inl (fun _ => 0))), (q4, .inl (cI, 7, .inl (fun _ => 0)))]) H := hP
  replace hD : va_D A ([(o_b, .inr (1, [.int 0, .int 0, .int 0, .int 0, .int 0, .int 0, .int 0, .ref q1, .ref q2, .ref q3, .null, .null])), (q1, .inl (cI, 7, .inl (fun _ => 0))), (q2, .inl (cI, 7, .inl (fun _ => 0))), (q3, .inl (cI, 7, .inl (fun _ => 0))), (q4, .inl (cI, 7, .inl (fun _ => 0)))]) := hD
  refine va_putF (D := (dC, dI)) (ci := 1) (v := .ref q4) (ty := .array .int) (C := RX1) (T := TX1) (N := 12) hx hb hts hi_X1 tyX1 tyX1_ok nmX1 hown hK hP hD hS 0 rfl rfl 10 (by decide) kw14 (fun _ h9 => h9) rfl hnm rfl (by decide +kernel) rfl rfl (Nat.le_of_ble_eq_true rfl) dX1_init_68 (fun H locs hP hD hS => ?_)
  replace hP : va_P (dC, dI) vwCl ([(o_b, .inr (1, [.int 0, .int 0, .int 0, .int 0, .int 0, .int 0, .int 0, .ref q1, .ref q2, .ref q3, .ref q4, .null])), (q1, .inl (cI, 7, .inl (fun _ => 0))), (q2, .inl (cI, 7, .inl (fun _ => 0))), (q3, .inl (cI, 7, .inl (fun _ => 0))), (q4, .inl (cI, 7, .inl (fun _ => 0)))]) H := hP
  replace hD : va_D A ([(o_b, .inr (1, [.int 0, .int 0, .int 0, .int 0, .int 0, .int 0, .int 0, .ref q1, .ref q2, .ref q3, .ref q4, .null])), (q1, .inl (cI, 7, .inl (fun _ => 0))), (q2, .inl (cI, 7, .inl (fun _ => 0))), (q3, .inl (cI, 7, .inl (fun _ => 0))), (q4, .inl (cI, 7, .inl (fun _ => 0)))]) := hD
  refine lv_aload_n hx hb dX1_init_71 rfl (lv_at hl 0 rfl) ?_
  refine lv_bipush (v := 7) hx hb dX1_init_72 (by decide) ?_
  refine va_newa (a0 := (7, .inl (fun _ => 0))) (atype := .int) (ty := .int) (N' := 7) hx hb kw10 rfl hK hP hD hS hA (fun cA => ob_nc cA 7 .int rfl) (by decide) (by decide) (Nat.le_of_ble_eq_true rfl) (Nat.le_of_ble_eq_true rfl) (Nat.le_of_ble_eq_true rfl) dX1_init_74 (fun q5 cA H hK1 hP hD hS => ?_)
  obtain rfl : cI = cA := (ob_sI hK1).symm
  clear hK1
  refine W.widen (k := 5) (n := 35) (Nat.le_refl _) (Nat.le_refl _) ?_
  replace hP : va_P (dC, dI) vwCl ([(o_b, .inr (1, [.int 0, .int 0, .int 0, .int 0, .int 0, .int 0, .int 0, .ref q1, .ref q2, .ref q3, .ref q4, .null])), (q1, .inl (cI, 7, .inl (fun _ => 0))), (q2, .inl (cI, 7, .inl (fun _ => 0))), (q3, .inl (cI, 7, .inl (fun _ => 0))), (q4, .inl (cI, 7, .inl (fun _ => 0))), (q5, .inl (cI, 7, .inl (fun _ => 0)))]) H := hP
  replace hD : va_D A ([(o_b, .inr (1, [.int 0, .int 0, .int 0, .int 0, .int 0, .int 0, .int 0, .ref q1, .ref q2, .ref q3, .ref q4, .null])), (q1, .inl (cI, 7, .inl (fun _ => 0))), (q2, .inl (cI, 7, .inl (fun _ => 0))), (q3, .inl (cI, 7, .inl (fun _ => 0))), (q4, .inl (cI, 7, .inl (fun _ => 0))), (q5, .inl (cI, 7, .inl (fun _ => 0)))]) := hD
  refine va_putF (D := (dC, dI)) (ci := 1) (v := .ref q5) (ty := .array .int) (C := RX1) (T := TX1) (N := 12) hx hb hts hi_X1 tyX1 tyX1_ok nmX1 hown hK hP hD hS 0 rfl rfl 11 (by decide) kw15 (fun _ h9 => h9) rfl hnm rfl (by decide +kernel) rfl rfl (Nat.le_of_ble_eq_true rfl) dX1_init_76 (fun H locs hP hD hS => ?_)
  replace hP : va_P (dC, dI) vwCl ([(o_b, .inr (1, [.int 0, .int 0, .int 0, .int 0, .int 0, .int 0, .int 0, .ref q1, .ref q2, .ref q3, .ref q4, .ref q5])), (q1, .inl (cI, 7, .inl (fun _ => 0))), (q2, .inl (cI, 7, .inl (fun _ => 0))), (q3, .inl (cI, 7, .inl (fun _ => 0))), (q4, .inl (cI, 7, .inl (fun _ => 0))), (q5, .inl (cI, 7, .inl (fun _ => 0)))]) H := hP
  replace hD : va_D A ([(o_b, .inr (1, [.int 0, .int 0, .int 0, .int 0, .int 0, .int 0, .int 0, .ref q1, .ref q2, .ref q3, .ref q4, .ref q5])), (q1, .inl (cI, 7, .inl (fun _ => 0))), (q2, .inl (cI, 7, .inl (fun _ => 0))), (q3, .inl (cI, 7, .inl (fun _ => 0))), (q4, .inl (cI, 7, .inl (fun _ => 0))), (q5, .inl (cI, 7, .inl (fun _ => 0)))]) := hD
  exact ob_vretE (w' := fun a => (ob_w1 o_b a cI ob_z)) (fun j : Nat => if j = 7 then q1 else if j = 8 then q2 else if j = 9 then q3 else if j = 10 then q4 else if j = 11 then q5 else 0) hx hb hr hlocks trivial (ob_sub (wc := (ob_w1 o_b (fun j : Nat => if j = 7 then q1 else if j = 8 then q2 else if j = 9 then q3 else if j = 10 then q4 else if j = 11 then q5 else 0) cI ob_z)) (isC := [0, 1, 2, 3, 4, 5]) hP rfl) (hD.sub [0, 1, 2, 3, 4, 5] rfl rfl) hS dX1_init_79

set_option maxHeartbeats 400000 in
set_option maxRecDepth 100000 in
theorem mt_X2_init (l : Launch) (dC : Nat → ClassId) (dI : Nat → Nat → Nat) (cI cZ cR cW : ClassId) (xs : Nat → Nat) (sz : Nat) (o_b : Nat) : ob_M l yX2_init wsX2_init ({ frames := 1, cells := 1, slots := 40, locals := 40 } : Room) (dC, dI) (ob_ty cI cZ cR cW) xs [.ref o_b] [(o_b, .inr (2, [.int 0, .int 0, .int 0, .null]))] sz (ob_QvE (dC, dI) (fun (_ : Nat → Nat) => True) (fun a => (ob_w2 o_b a cI ob_zr))) := by
  refine ob_in (cc := cX2_init) (maxL := 1) (ret := none) (own := RX2) (by decide) rfl rfl [(0, .ref o_b)] rfl (Nat.le_of_ble_eq_true rfl) ?_
  intro p e s m below meth c hx hb hr hml hown hts hlocks hnm hK A hA hE hP hD hS ls hl
  have hnm : meth.name = "<init>" := hnm
  obtain ⟨-, -, -, -, -, -, -, -, -, hn1, hn2, hn3, hn4, hn5, ho1, ho2⟩ := id hE
  have kw0 := hts (.methodLink RX2 3 objectInit) (by decide +kernel)
  have kw1 := hts (.instanceMethod objectInit) (by decide +kernel)
  have kw2 := hts (.code objectInit ⟨#[0xb1]⟩ 1 none) (by decide +kernel)
  have kw3 := hts (.fieldLink RX2 9 "OathCoach$Row" "missing" "Z") (by decide +kernel)
  have kw4 := hts (.fieldLink RX2 15 "OathCoach$Row" "lane" "I") (by decide +kernel)
  have kw5 := hts (.fieldLink RX2 19 "OathCoach$Row" "size" "I") (by decide +kernel)
  have kw6 := hts (.arrayClass .int) (by decide +kernel)
  have kw7 := hts (.fieldLink RX2 22 "OathCoach$Row" "items" "[I") (by decide +kernel)
  have hi_X2 : ∀ w ∈ u_ws RX2 TX2 4, w ∈ wsX2_init := by decide +kernel
  refine lv_aload_n hx hb dX2_init_0 rfl (lv_at hl 0 rfl) ?_
  refine W.objInit hx hb hown kw0 kw1 kw2 rfl (by rw [hml]; exact hl.1) rfl dX2_init_1 (Nat.le_of_ble_eq_true rfl) (Nat.le_of_ble_eq_true rfl) ?_
  refine W.eq (g2 := F0 m 4 ls []) rfl ?_
  refine lv_aload_n hx hb dX2_init_4 rfl (lv_at hl 0 rfl) ?_
  refine lv_iconst (v := 1) hx hb dX2_init_5 (by decide) ?_
  refine va_put (D := (dC, dI)) (ci := 2) (v := .int 1) (ty := .boolean) (C := RX2) (T := TX2) (N := 4) hx hb hts hi_X2 tyX2 tyX2_ok nmX2 hown hK hP hD hS 0 rfl rfl 0 (by decide) kw3 (fun _ h9 => h9) rfl (by decide +kernel) (by decide) rfl (Nat.le_of_ble_eq_true rfl) dX2_init_6 (fun H locs hP hD hS => ?_)
  replace hP : va_P (dC, dI) vwCl ([(o_b, .inr (2, [.int 1, .int 0, .int 0, .null]))]) H := hP
  replace hD : va_D A ([(o_b, .inr (2, [.int 1, .int 0, .int 0, .null]))]) := hD
  refine lv_aload_n hx hb dX2_init_9 rfl (lv_at hl 0 rfl) ?_
  refine lv_iconst (v := 0) hx hb dX2_init_10 (by decide) ?_
  refine va_put (D := (dC, dI)) (ci := 2) (v := .int 0) (ty := .int) (C := RX2) (T := TX2) (N := 4) hx hb hts hi_X2 tyX2 tyX2_ok nmX2 hown hK hP hD hS 0 rfl rfl 1 (by decide) kw4 (fun _ h9 => h9) rfl (by decide +kernel) rfl rfl (Nat.le_of_ble_eq_true rfl) dX2_init_11 (fun H locs hP hD hS => ?_)
  replace hP : va_P (dC, dI) vwCl ([(o_b, .inr (2, [.int 1, .int 0, .int 0, .null]))]) H := hP
  replace hD : va_D A ([(o_b, .inr (2, [.int 1, .int 0, .int 0, .null]))]) := hD
  refine lv_aload_n hx hb dX2_init_14 rfl (lv_at hl 0 rfl) ?_
  refine lv_iconst (v := 0) hx hb dX2_init_15 (by decide) ?_
  refine va_put (D := (dC, dI)) (ci := 2) (v := .int 0) (ty := .int) (C := RX2) (T := TX2) (N := 4) hx hb hts hi_X2 tyX2 tyX2_ok nmX2 hown hK hP hD hS 0 rfl rfl 2 (by decide) kw5 (fun _ h9 => h9) rfl (by decide +kernel) rfl rfl (Nat.le_of_ble_eq_true rfl) dX2_init_16 (fun H locs hP hD hS => ?_)
  replace hP : va_P (dC, dI) vwCl ([(o_b, .inr (2, [.int 1, .int 0, .int 0, .null]))]) H := hP
  replace hD : va_D A ([(o_b, .inr (2, [.int 1, .int 0, .int 0, .null]))]) := hD
  refine lv_aload_n hx hb dX2_init_19 rfl (lv_at hl 0 rfl) ?_
  refine lv_bipush (v := 40) hx hb dX2_init_20 (by decide) ?_
  refine va_newa (a0 := (40, .inl (fun _ => 0))) (atype := .int) (ty := .int) (N' := 40) hx hb kw6 rfl hK hP hD hS hA (fun cA => ob_nc cA 40 .int rfl) (by decide) (by decide) (Nat.le_of_ble_eq_true rfl) (Nat.le_of_ble_eq_true rfl) (Nat.le_of_ble_eq_true rfl) dX2_init_22 (fun q1 cA H hK1 hP hD hS => ?_)
  obtain rfl : cI = cA := (ob_sI hK1).symm
  clear hK1
  refine W.widen (k := 1) (n := 40) (Nat.le_refl _) (Nat.le_refl _) ?_
  replace hP : va_P (dC, dI) vwCl ([(o_b, .inr (2, [.int 1, .int 0, .int 0, .null])), (q1, .inl (cI, 40, .inl (fun _ => 0)))]) H := hP
  replace hD : va_D A ([(o_b, .inr (2, [.int 1, .int 0, .int 0, .null])), (q1, .inl (cI, 40, .inl (fun _ => 0)))]) := hD
  refine va_putF (D := (dC, dI)) (ci := 2) (v := .ref q1) (ty := .array .int) (C := RX2) (T := TX2) (N := 4) hx hb hts hi_X2 tyX2 tyX2_ok nmX2 hown hK hP hD hS 0 rfl rfl 3 (by decide) kw7 (fun _ h9 => h9) rfl hnm rfl (by decide +kernel) rfl rfl (Nat.le_of_ble_eq_true rfl) dX2_init_24 (fun H locs hP hD hS => ?_)
  replace hP : va_P (dC, dI) vwCl ([(o_b, .inr (2, [.int 1, .int 0, .int 0, .ref q1])), (q1, .inl (cI, 40, .inl (fun _ => 0)))]) H := hP
  replace hD : va_D A ([(o_b, .inr (2, [.int 1, .int 0, .int 0, .ref q1])), (q1, .inl (cI, 40, .inl (fun _ => 0)))]) := hD
  exact ob_vretE (w' := fun a => (ob_w2 o_b a cI ob_zr)) (fun j : Nat => if j = 3 then q1 else 0) hx hb hr hlocks trivial (ob_sub (wc := (ob_w2 o_b (fun j : Nat => if j = 3 then q1 else 0) cI ob_zr)) (isC := [0, 1]) hP rfl) (hD.sub [0, 1] rfl rfl) hS dX2_init_27

set_option maxHeartbeats 400000 in
set_option maxRecDepth 100000 in
theorem mt_X3_init (l : Launch) (dC : Nat → ClassId) (dI : Nat → Nat → Nat) (cI cZ cR cW : ClassId) (xs : Nat → Nat) (sz : Nat) (o_b : Nat) : ob_M l yX3_init wsX3_init ({ frames := 1, cells := 1, slots := 100, locals := 40 } : Room) (dC, dI) (ob_ty cI cZ cR cW) xs [.ref o_b] [(o_b, .inr (3, [.null, .int 0, .int 0, .int 0]))] sz (ob_QvE (dC, dI) (fun (_ : Nat → Nat) => True) (fun a => (ob_w3 o_b a cI ob_z))) := by
  refine ob_in (cc := cX3_init) (maxL := 1) (ret := none) (own := RX3) (by decide) rfl rfl [(0, .ref o_b)] rfl (Nat.le_of_ble_eq_true rfl) ?_
  intro p e s m below meth c hx hb hr hml hown hts hlocks hnm hK A hA hE hP hD hS ls hl
  have hnm : meth.name = "<init>" := hnm
  obtain ⟨-, -, -, -, -, -, -, -, -, hn1, hn2, hn3, hn4, hn5, ho1, ho2⟩ := id hE
  have kw0 := hts (.methodLink RX3 3 objectInit) (by decide +kernel)
  have kw1 := hts (.instanceMethod objectInit) (by decide +kernel)
  have kw2 := hts (.code objectInit ⟨#[0xb1]⟩ 1 none) (by decide +kernel)
  have kw3 := hts (.arrayClass .int) (by decide +kernel)
  have kw4 := hts (.fieldLink RX3 11 "OathCoach$Tape" "bytes" "[I") (by decide +kernel)
  have kw5 := hts (.fieldLink RX3 15 "OathCoach$Tape" "size" "I") (by decide +kernel)
  have kw6 := hts (.fieldLink RX3 19 "OathCoach$Tape" "at" "I") (by decide +kernel)
  have kw7 := hts (.fieldLink RX3 22 "OathCoach$Tape" "faultNumber" "I") (by decide +kernel)
  have hi_X3 : ∀ w ∈ u_ws RX3 TX3 4, w ∈ wsX3_init := by decide +kernel
  refine lv_aload_n hx hb dX3_init_0 rfl (lv_at hl 0 rfl) ?_
  refine W.objInit hx hb hown kw0 kw1 kw2 rfl (by rw [hml]; exact hl.1) rfl dX3_init_1 (Nat.le_of_ble_eq_true rfl) (Nat.le_of_ble_eq_true rfl) ?_
  refine W.eq (g2 := F0 m 4 ls []) rfl ?_
  refine lv_aload_n hx hb dX3_init_4 rfl (lv_at hl 0 rfl) ?_
  refine lv_bipush (v := 100) hx hb dX3_init_5 (by decide) ?_
  refine va_newa (a0 := (100, .inl (fun _ => 0))) (atype := .int) (ty := .int) (N' := 100) hx hb kw3 rfl hK hP hD hS hA (fun cA => ob_nc cA 100 .int rfl) (by decide) (by decide) (Nat.le_of_ble_eq_true rfl) (Nat.le_of_ble_eq_true rfl) (Nat.le_of_ble_eq_true rfl) dX3_init_7 (fun q1 cA H hK1 hP hD hS => ?_)
  obtain rfl : cI = cA := (ob_sI hK1).symm
  clear hK1
  refine W.widen (k := 1) (n := 100) (Nat.le_refl _) (Nat.le_refl _) ?_
  replace hP : va_P (dC, dI) vwCl ([(o_b, .inr (3, [.null, .int 0, .int 0, .int 0])), (q1, .inl (cI, 100, .inl (fun _ => 0)))]) H := hP
  replace hD : va_D A ([(o_b, .inr (3, [.null, .int 0, .int 0, .int 0])), (q1, .inl (cI, 100, .inl (fun _ => 0)))]) := hD
  refine va_putF (D := (dC, dI)) (ci := 3) (v := .ref q1) (ty := .array .int) (C := RX3) (T := TX3) (N := 4) hx hb hts hi_X3 tyX3 tyX3_ok nmX3 hown hK hP hD hS 0 rfl rfl 0 (by decide) kw4 (fun _ h9 => h9) rfl hnm rfl (by decide +kernel) rfl rfl (Nat.le_of_ble_eq_true rfl) dX3_init_9 (fun H locs hP hD hS => ?_)
  replace hP : va_P (dC, dI) vwCl ([(o_b, .inr (3, [.ref q1, .int 0, .int 0, .int 0])), (q1, .inl (cI, 100, .inl (fun _ => 0)))]) H := hP
  replace hD : va_D A ([(o_b, .inr (3, [.ref q1, .int 0, .int 0, .int 0])), (q1, .inl (cI, 100, .inl (fun _ => 0)))]) := hD
  refine lv_aload_n hx hb dX3_init_12 rfl (lv_at hl 0 rfl) ?_
  refine lv_iconst (v := 0) hx hb dX3_init_13 (by decide) ?_
  refine va_put (D := (dC, dI)) (ci := 3) (v := .int 0) (ty := .int) (C := RX3) (T := TX3) (N := 4) hx hb hts hi_X3 tyX3 tyX3_ok nmX3 hown hK hP hD hS 0 rfl rfl 1 (by decide) kw5 (fun _ h9 => h9) rfl (by decide +kernel) rfl rfl (Nat.le_of_ble_eq_true rfl) dX3_init_14 (fun H locs hP hD hS => ?_)
  replace hP : va_P (dC, dI) vwCl ([(o_b, .inr (3, [.ref q1, .int 0, .int 0, .int 0])), (q1, .inl (cI, 100, .inl (fun _ => 0)))]) H := hP
  replace hD : va_D A ([(o_b, .inr (3, [.ref q1, .int 0, .int 0, .int 0])), (q1, .inl (cI, 100, .inl (fun _ => 0)))]) := hD
  refine lv_aload_n hx hb dX3_init_17 rfl (lv_at hl 0 rfl) ?_
  refine lv_iconst (v := 0) hx hb dX3_init_18 (by decide) ?_
  refine va_put (D := (dC, dI)) (ci := 3) (v := .int 0) (ty := .int) (C := RX3) (T := TX3) (N := 4) hx hb hts hi_X3 tyX3 tyX3_ok nmX3 hown hK hP hD hS 0 rfl rfl 2 (by decide) kw6 (fun _ h9 => h9) rfl (by decide +kernel) rfl rfl (Nat.le_of_ble_eq_true rfl) dX3_init_19 (fun H locs hP hD hS => ?_)
  replace hP : va_P (dC, dI) vwCl ([(o_b, .inr (3, [.ref q1, .int 0, .int 0, .int 0])), (q1, .inl (cI, 100, .inl (fun _ => 0)))]) H := hP
  replace hD : va_D A ([(o_b, .inr (3, [.ref q1, .int 0, .int 0, .int 0])), (q1, .inl (cI, 100, .inl (fun _ => 0)))]) := hD
  refine lv_aload_n hx hb dX3_init_22 rfl (lv_at hl 0 rfl) ?_
  refine lv_iconst (v := 0) hx hb dX3_init_23 (by decide) ?_
  refine va_put (D := (dC, dI)) (ci := 3) (v := .int 0) (ty := .int) (C := RX3) (T := TX3) (N := 4) hx hb hts hi_X3 tyX3 tyX3_ok nmX3 hown hK hP hD hS 0 rfl rfl 3 (by decide) kw7 (fun _ h9 => h9) rfl (by decide +kernel) rfl rfl (Nat.le_of_ble_eq_true rfl) dX3_init_24 (fun H locs hP hD hS => ?_)
  replace hP : va_P (dC, dI) vwCl ([(o_b, .inr (3, [.ref q1, .int 0, .int 0, .int 0])), (q1, .inl (cI, 100, .inl (fun _ => 0)))]) H := hP
  replace hD : va_D A ([(o_b, .inr (3, [.ref q1, .int 0, .int 0, .int 0])), (q1, .inl (cI, 100, .inl (fun _ => 0)))]) := hD
  exact ob_vretE (w' := fun a => (ob_w3 o_b a cI ob_z)) (fun j : Nat => if j = 0 then q1 else 0) hx hb hr hlocks trivial (ob_sub (wc := (ob_w3 o_b (fun j : Nat => if j = 0 then q1 else 0) cI ob_z)) (isC := [0, 1]) hP rfl) (hD.sub [0, 1] rfl rfl) hS dX3_init_27

set_option maxHeartbeats 400000 in
set_option maxRecDepth 100000 in
theorem mt_X0_init (l : Launch) (dC : Nat → ClassId) (dI : Nat → Nat → Nat) (cI cZ cR cW : ClassId) (xs : Nat → Nat) (sz : Nat) (o_b : Nat) : ob_M l yX0_init wsX0_init ({ frames := 1, cells := 1, slots := 24, locals := 40 } : Room) (dC, dI) (ob_ty cI cZ cR cW) xs [.ref o_b] [(o_b, .inr (0, [.null, .int 0, .int 0]))] sz (ob_QvE (dC, dI) (fun (_ : Nat → Nat) => True) (fun a => (ob_w0 o_b a ob_z ++ ob_wr (a 0) cR 24 (fun _ => none)))) := by
  refine ob_in (cc := cX0_init) (maxL := 1) (ret := none) (own := RX0) (by decide) rfl rfl [(0, .ref o_b)] rfl (Nat.le_of_ble_eq_true rfl) ?_
  intro p e s m below meth c hx hb hr hml hown hts hlocks hnm hK A hA hE hP hD hS ls hl
  have hnm : meth.name = "<init>" := hnm
  obtain ⟨-, -, -, -, -, -, -, -, -, hn1, hn2, hn3, hn4, hn5, ho1, ho2⟩ := id hE
  have kw0 := hts (.methodLink RX0 3 objectInit) (by decide +kernel)
  have kw1 := hts (.instanceMethod objectInit) (by decide +kernel)
  have kw2 := hts (.code objectInit ⟨#[0xb1]⟩ 1 none) (by decide +kernel)
  have kw3 := hts (.classLink RX0 9 RX1) (by decide +kernel)
  have kw4 := hts (.fieldLink RX0 11 "OathCoach$History" "before" "[LOathCoach$Route;") (by decide +kernel)
  have kw5 := hts (.fieldLink RX0 17 "OathCoach$History" "oldest" "I") (by decide +kernel)
  have kw6 := hts (.fieldLink RX0 21 "OathCoach$History" "size" "I") (by decide +kernel)
  have hi_X0 : ∀ w ∈ u_ws RX0 TX0 3, w ∈ wsX0_init := by decide +kernel
  refine lv_aload_n hx hb dX0_init_0 rfl (lv_at hl 0 rfl) ?_
  refine W.objInit hx hb hown kw0 kw1 kw2 rfl (by rw [hml]; exact hl.1) rfl dX0_init_1 (Nat.le_of_ble_eq_true rfl) (Nat.le_of_ble_eq_true rfl) ?_
  refine W.eq (g2 := F0 m 4 ls []) rfl ?_
  refine lv_aload_n hx hb dX0_init_4 rfl (lv_at hl 0 rfl) ?_
  refine lv_bipush (v := 24) hx hb dX0_init_5 (by decide) ?_
  refine va_newq hx hb hown kw3 ho1 hK hP hD hS hA (N' := 24) (by decide) (by decide) (Nat.le_of_ble_eq_true rfl) (Nat.le_of_ble_eq_true rfl) (Nat.le_of_ble_eq_true rfl) dX0_init_7 (fun q1 cA H hK1 hP hD hS => ?_)
  obtain rfl : cR = cA := (ob_sR hK1).symm
  clear hK1
  refine W.widen (k := 1) (n := 24) (Nat.le_refl _) (Nat.le_refl _) ?_
  replace hP : va_P (dC, dI) vwCl ([(o_b, .inr (0, [.null, .int 0, .int 0])), (q1, .inl (cR, 24, .inr (.inr (.inr (.inr (fun _ => none))))))]) H := hP
  replace hD : va_D A ([(o_b, .inr (0, [.null, .int 0, .int 0])), (q1, .inl (cR, 24, .inr (.inr (.inr (.inr (fun _ => none))))))]) := hD
  refine va_putF (D := (dC, dI)) (ci := 0) (v := .ref q1) (ty := .array (.object "OathCoach$Route")) (C := RX0) (T := TX0) (N := 3) hx hb hts hi_X0 tyX0 tyX0_ok nmX0 hown hK hP hD hS 0 rfl rfl 0 (by decide) kw4 (fun _ h9 => h9) rfl hnm rfl (by decide +kernel) rfl rfl (Nat.le_of_ble_eq_true rfl) dX0_init_10 (fun H locs hP hD hS => ?_)
  replace hP : va_P (dC, dI) vwCl ([(o_b, .inr (0, [.ref q1, .int 0, .int 0])), (q1, .inl (cR, 24, .inr (.inr (.inr (.inr (fun _ => none))))))]) H := hP
  replace hD : va_D A ([(o_b, .inr (0, [.ref q1, .int 0, .int 0])), (q1, .inl (cR, 24, .inr (.inr (.inr (.inr (fun _ => none))))))]) := hD
  refine lv_aload_n hx hb dX0_init_13 rfl (lv_at hl 0 rfl) ?_
  refine lv_iconst (v := 0) hx hb dX0_init_14 (by decide) ?_
  refine va_put (D := (dC, dI)) (ci := 0) (v := .int 0) (ty := .int) (C := RX0) (T := TX0) (N := 3) hx hb hts hi_X0 tyX0 tyX0_ok nmX0 hown hK hP hD hS 0 rfl rfl 1 (by decide) kw5 (fun _ h9 => h9) rfl (by decide +kernel) rfl rfl (Nat.le_of_ble_eq_true rfl) dX0_init_15 (fun H locs hP hD hS => ?_)
  replace hP : va_P (dC, dI) vwCl ([(o_b, .inr (0, [.ref q1, .int 0, .int 0])), (q1, .inl (cR, 24, .inr (.inr (.inr (.inr (fun _ => none))))))]) H := hP
  replace hD : va_D A ([(o_b, .inr (0, [.ref q1, .int 0, .int 0])), (q1, .inl (cR, 24, .inr (.inr (.inr (.inr (fun _ => none))))))]) := hD
  refine lv_aload_n hx hb dX0_init_18 rfl (lv_at hl 0 rfl) ?_
  refine lv_iconst (v := 0) hx hb dX0_init_19 (by decide) ?_
  refine va_put (D := (dC, dI)) (ci := 0) (v := .int 0) (ty := .int) (C := RX0) (T := TX0) (N := 3) hx hb hts hi_X0 tyX0 tyX0_ok nmX0 hown hK hP hD hS 0 rfl rfl 2 (by decide) kw6 (fun _ h9 => h9) rfl (by decide +kernel) rfl rfl (Nat.le_of_ble_eq_true rfl) dX0_init_20 (fun H locs hP hD hS => ?_)
  replace hP : va_P (dC, dI) vwCl ([(o_b, .inr (0, [.ref q1, .int 0, .int 0])), (q1, .inl (cR, 24, .inr (.inr (.inr (.inr (fun _ => none))))))]) H := hP
  replace hD : va_D A ([(o_b, .inr (0, [.ref q1, .int 0, .int 0])), (q1, .inl (cR, 24, .inr (.inr (.inr (.inr (fun _ => none))))))]) := hD
  exact ob_vretE (w' := fun a => (ob_w0 o_b a ob_z ++ ob_wr (a 0) cR 24 (fun _ => none))) (fun j : Nat => if j = 0 then q1 else 0) hx hb hr hlocks trivial (ob_sub (wc := (ob_w0 o_b (fun j : Nat => if j = 0 then q1 else 0) ob_z ++ ob_wr ((fun j : Nat => if j = 0 then q1 else 0) 0) cR 24 (fun _ => none))) (isC := [0, 1]) hP rfl) (hD.sub [0, 1] rfl rfl) hS dX0_init_23

set_option maxHeartbeats 400000 in
set_option maxRecDepth 100000 in
theorem mt_X5_init (l : Launch) (dC : Nat → ClassId) (dI : Nat → Nat → Nat) (cI cZ cR cW : ClassId) (xs : Nat → Nat) (sz : Nat) (o_b : Nat) : ob_M l yX5_init wsX5_init ({ frames := 1, cells := 13, slots := 1755, locals := 40 } : Room) (dC, dI) (ob_ty cI cZ cR cW) xs [.ref o_b] [(o_b, .inr (5, [.null, .null, .null, .int 0, .int 0, .null, .int 0, .int 0, .int 0, .int 0, .int 0, .int 0, .null, .null, .null, .null, .null, .null, .int 0, .null, .int 0, .null, .null]))] sz (ob_QvE (dC, dI) (fun (_ : Nat → Nat) => True) (fun a => (ob_w5 o_b a cI cZ ob_zm))) := by
  refine ob_in (cc := cX5_init) (maxL := 2) (ret := none) (own := RX5) (by decide) rfl rfl [(0, .ref o_b)] rfl (Nat.le_of_ble_eq_true rfl) ?_
  intro p e s m below meth c hx hb hr hml hown hts hlocks hnm hK A hA hE hP hD hS ls hl
  have hnm : meth.name = "<init>" := hnm
  obtain ⟨-, -, -, -, -, -, -, -, -, hn1, hn2, hn3, hn4, hn5, ho1, ho2⟩ := id hE
  have kw0 := hts (.methodLink RX5 1 objectInit) (by decide +kernel)
  have kw1 := hts (.instanceMethod objectInit) (by decide +kernel)
  have kw2 := hts (.code objectInit ⟨#[0xb1]⟩ 1 none) (by decide +kernel)
  have kw3 := hts (.arrayClass .int) (by decide +kernel)
  have kw4 := hts (.fieldLink RX5 7 "OathCoachModel" "lane" "[I") (by decide +kernel)
  have kw5 := hts (.fieldLink RX5 13 "OathCoachModel" "size" "[I") (by decide +kernel)
  have kw6 := hts (.fieldLink RX5 16 "OathCoachModel" "items" "[I") (by decide +kernel)
  have kw7 := hts (.fieldLink RX5 19 "OathCoachModel" "tape" "[I") (by decide +kernel)
  have kw8 := hts (.fieldLink RX5 22 "OathCoachModel" "now" "[I") (by decide +kernel)
  have kw9 := hts (.fieldLink RX5 25 "OathCoachModel" "read" "[I") (by decide +kernel)
  have kw10 := hts (.fieldLink RX5 28 "OathCoachModel" "tried" "[I") (by decide +kernel)
  have kw11 := hts (.fieldLink RX5 31 "OathCoachModel" "image" "[I") (by decide +kernel)
  have kw12 := hts (.arrayClass .boolean) (by decide +kernel)
  have kw13 := hts (.fieldLink RX5 34 "OathCoachModel" "isKept" "[Z") (by decide +kernel)
  have kw14 := hts (.fieldLink RX5 38 "OathCoachModel" "actOf" "[I") (by decide +kernel)
  have kw15 := hts (.fieldLink RX5 41 "OathCoachModel" "trace" "[I") (by decide +kernel)
  have kw16 := hts (.fieldLink RX5 44 "OathCoachModel" "told" "[I") (by decide +kernel)
  have kw17 := hts (.fieldLink RX5 47 "OathCoachModel" "places" "[I") (by decide +kernel)
  have hi_X5 : ∀ w ∈ u_ws RX5 TX5 23, w ∈ wsX5_init := by decide +kernel
  refine lv_aload_n hx hb dX5_init_0 rfl (lv_at hl 0 rfl) ?_
  refine W.objInit hx hb hown kw0 kw1 kw2 rfl (by rw [hml]; exact hl.1) rfl dX5_init_1 (Nat.le_of_ble_eq_true rfl) (Nat.le_of_ble_eq_true rfl) ?_
  refine W.eq (g2 := F0 m 4 ls []) rfl ?_
  refine lv_aload_n hx hb dX5_init_4 rfl (lv_at hl 0 rfl) ?_
  refine lv_bipush (v := 8) hx hb dX5_init_5 (by decide) ?_
  refine va_newa (a0 := (8, .inl (fun _ => 0))) (atype := .int) (ty := .int) (N' := 8) hx hb kw3 rfl hK hP hD hS hA (fun cA => ob_nc cA 8 .int rfl) (by decide) (by decide) (Nat.le_of_ble_eq_true rfl) (Nat.le_of_ble_eq_true rfl) (Nat.le_of_ble_eq_true rfl) dX5_init_7 (fun q1 cA H hK1 hP hD hS => ?_)
  obtain rfl : cI = cA := (ob_sI hK1).symm
  clear hK1
  refine W.widen (k := 1) (n := 8) (Nat.le_refl _) (Nat.le_refl _) ?_
  replace hP : va_P (dC, dI) vwCl ([(o_b, .inr (5, [.null, .null, .null, .int 0, .int 0, .null, .int 0, .int 0, .int 0, .int 0, .int 0, .int 0, .null, .null, .null, .null, .null, .null, .int 0, .null, .int 0, .null, .null])), (q1, .inl (cI, 8, .inl (fun _ => 0)))]) H := hP
  replace hD : va_D A ([(o_b, .inr (5, [.null, .null, .null, .int 0, .int 0, .null, .int 0, .int 0, .int 0, .int 0, .int 0, .int 0, .null, .null, .null, .null, .null, .null, .int 0, .null, .int 0, .null, .null])), (q1, .inl (cI, 8, .inl (fun _ => 0)))]) := hD
  refine va_putF (D := (dC, dI)) (ci := 5) (v := .ref q1) (ty := .array .int) (C := RX5) (T := TX5) (N := 23) hx hb hts hi_X5 tyX5 tyX5_ok nmX5 hown hK hP hD hS 0 rfl rfl 0 (by decide) kw4 (fun _ h9 => h9) rfl hnm rfl (by decide +kernel) rfl rfl (Nat.le_of_ble_eq_true rfl) dX5_init_9 (fun H locs hP hD hS => ?_)
  replace hP : va_P (dC, dI) vwCl ([(o_b, .inr (5, [.ref q1, .null, .null, .int 0, .int 0, .null, .int 0, .int 0, .int 0, .int 0, .int 0, .int 0, .null, .null, .null, .null, .null, .null, .int 0, .null, .int 0, .null, .null])), (q1, .inl (cI, 8, .inl (fun _ => 0)))]) H := hP
  replace hD : va_D A ([(o_b, .inr (5, [.ref q1, .null, .null, .int 0, .int 0, .null, .int 0, .int 0, .int 0, .int 0, .int 0, .int 0, .null, .null, .null, .null, .null, .null, .int 0, .null, .int 0, .null, .null])), (q1, .inl (cI, 8, .inl (fun _ => 0)))]) := hD
  refine lv_aload_n hx hb dX5_init_12 rfl (lv_at hl 0 rfl) ?_
  refine lv_bipush (v := 8) hx hb dX5_init_13 (by decide) ?_
  refine va_newa (a0 := (8, .inl (fun _ => 0))) (atype := .int) (ty := .int) (N' := 8) hx hb kw3 rfl hK hP hD hS hA (fun cA => ob_nc cA 8 .int rfl) (by decide) (by decide) (Nat.le_of_ble_eq_true rfl) (Nat.le_of_ble_eq_true rfl) (Nat.le_of_ble_eq_true rfl) dX5_init_15 (fun q2 cA H hK1 hP hD hS => ?_)
  obtain rfl : cI = cA := (ob_sI hK1).symm
  clear hK1
  refine W.widen (k := 2) (n := 16) (Nat.le_refl _) (Nat.le_refl _) ?_
  replace hP : va_P (dC, dI) vwCl ([(o_b, .inr (5, [.ref q1, .null, .null, .int 0, .int 0, .null, .int 0, .int 0, .int 0, .int 0, .int 0, .int 0, .null, .null, .null, .null, .null, .null, .int 0, .null, .int 0, .null, .null])), (q1, .inl (cI, 8, .inl (fun _ => 0))), (q2, .inl (cI, 8, .inl (fun _ => 0)))]) H := hP
  replace hD : va_D A ([(o_b, .inr (5, [.ref q1, .null, .null, .int 0, .int 0, .null, .int 0, .int 0, .int 0, .int 0, .int 0, .int 0, .null, .null, .null, .null, .null, .null, .int 0, .null, .int 0, .null, .null])), (q1, .inl (cI, 8, .inl (fun _ => 0))), (q2, .inl (cI, 8, .inl (fun _ => 0)))]) := hD
  refine va_putF (D := (dC, dI)) (ci := 5) (v := .ref q2) (ty := .array .int) (C := RX5) (T := TX5) (N := 23) hx hb hts hi_X5 tyX5 tyX5_ok nmX5 hown hK hP hD hS 0 rfl rfl 1 (by decide) kw5 (fun _ h9 => h9) rfl hnm rfl (by decide +kernel) rfl rfl (Nat.le_of_ble_eq_true rfl) dX5_init_17 (fun H locs hP hD hS => ?_)
  replace hP : va_P (dC, dI) vwCl ([(o_b, .inr (5, [.ref q1, .ref q2, .null, .int 0, .int 0, .null, .int 0, .int 0, .int 0, .int 0, .int 0, .int 0, .null, .null, .null, .null, .null, .null, .int 0, .null, .int 0, .null, .null])), (q1, .inl (cI, 8, .inl (fun _ => 0))), (q2, .inl (cI, 8, .inl (fun _ => 0)))]) H := hP
  replace hD : va_D A ([(o_b, .inr (5, [.ref q1, .ref q2, .null, .int 0, .int 0, .null, .int 0, .int 0, .int 0, .int 0, .int 0, .int 0, .null, .null, .null, .null, .null, .null, .int 0, .null, .int 0, .null, .null])), (q1, .inl (cI, 8, .inl (fun _ => 0))), (q2, .inl (cI, 8, .inl (fun _ => 0)))]) := hD
  refine lv_aload_n hx hb dX5_init_20 rfl (lv_at hl 0 rfl) ?_
  refine lv_sipush (v := 320) hx hb dX5_init_21 (by decide) ?_
  refine va_newa (a0 := (320, .inl (fun _ => 0))) (atype := .int) (ty := .int) (N' := 320) hx hb kw3 rfl hK hP hD hS hA (fun cA => ob_nc cA 320 .int rfl) (by decide) (by decide) (Nat.le_of_ble_eq_true rfl) (Nat.le_of_ble_eq_true rfl) (Nat.le_of_ble_eq_true rfl) dX5_init_24 (fun q3 cA H hK1 hP hD hS => ?_)
  obtain rfl : cI = cA := (ob_sI hK1).symm
  clear hK1
  refine W.widen (k := 3) (n := 336) (Nat.le_refl _) (Nat.le_refl _) ?_
  replace hP : va_P (dC, dI) vwCl ([(o_b, .inr (5, [.ref q1, .ref q2, .null, .int 0, .int 0, .null, .int 0, .int 0, .int 0, .int 0, .int 0, .int 0, .null, .null, .null, .null, .null, .null, .int 0, .null, .int 0, .null, .null])), (q1, .inl (cI, 8, .inl (fun _ => 0))), (q2, .inl (cI, 8, .inl (fun _ => 0))), (q3, .inl (cI, 320, .inl (fun _ => 0)))]) H := hP
  replace hD : va_D A ([(o_b, .inr (5, [.ref q1, .ref q2, .null, .int 0, .int 0, .null, .int 0, .int 0, .int 0, .int 0, .int 0, .int 0, .null, .null, .null, .null, .null, .null, .int 0, .null, .int 0, .null, .null])), (q1, .inl (cI, 8, .inl (fun _ => 0))), (q2, .inl (cI, 8, .inl (fun _ => 0))), (q3, .inl (cI, 320, .inl (fun _ => 0)))]) := hD
  refine va_putF (D := (dC, dI)) (ci := 5) (v := .ref q3) (ty := .array .int) (C := RX5) (T := TX5) (N := 23) hx hb hts hi_X5 tyX5 tyX5_ok nmX5 hown hK hP hD hS 0 rfl rfl 2 (by decide) kw6 (fun _ h9 => h9) rfl hnm rfl (by decide +kernel) rfl rfl (Nat.le_of_ble_eq_true rfl) dX5_init_26 (fun H locs hP hD hS => ?_)
  replace hP : va_P (dC, dI) vwCl ([(o_b, .inr (5, [.ref q1, .ref q2, .ref q3, .int 0, .int 0, .null, .int 0, .int 0, .int 0, .int 0, .int 0, .int 0, .null, .null, .null, .null, .null, .null, .int 0, .null, .int 0, .null, .null])), (q1, .inl (cI, 8, .inl (fun _ => 0))), (q2, .inl (cI, 8, .inl (fun _ => 0))), (q3, .inl (cI, 320, .inl (fun _ => 0)))]) H := hP
  replace hD : va_D A ([(o_b, .inr (5, [.ref q1, .ref q2, .ref q3, .int 0, .int 0, .null, .int 0, .int 0, .int 0, .int 0, .int 0, .int 0, .null, .null, .null, .null, .null, .null, .int 0, .null, .int 0, .null, .null])), (q1, .inl (cI, 8, .inl (fun _ => 0))), (q2, .inl (cI, 8, .inl (fun _ => 0))), (q3, .inl (cI, 320, .inl (fun _ => 0)))]) := hD
  refine lv_aload_n hx hb dX5_init_29 rfl (lv_at hl 0 rfl) ?_
  refine lv_bipush (v := 100) hx hb dX5_init_30 (by decide) ?_
  refine va_newa (a0 := (100, .inl (fun _ => 0))) (atype := .int) (ty := .int) (N' := 100) hx hb kw3 rfl hK hP hD hS hA (fun cA => ob_nc cA 100 .int rfl) (by decide) (by decide) (Nat.le_of_ble_eq_true rfl) (Nat.le_of_ble_eq_true rfl) (Nat.le_of_ble_eq_true rfl) dX5_init_32 (fun q4 cA H hK1 hP hD hS => ?_)
  obtain rfl : cI = cA := (ob_sI hK1).symm
  clear hK1
  refine W.widen (k := 4) (n := 436) (Nat.le_refl _) (Nat.le_refl _) ?_
  replace hP : va_P (dC, dI) vwCl ([(o_b, .inr (5, [.ref q1, .ref q2, .ref q3, .int 0, .int 0, .null, .int 0, .int 0, .int 0, .int 0, .int 0, .int 0, .null, .null, .null, .null, .null, .null, .int 0, .null, .int 0, .null, .null])), (q1, .inl (cI, 8, .inl (fun _ => 0))), (q2, .inl (cI, 8, .inl (fun _ => 0))), (q3, .inl (cI, 320, .inl (fun _ => 0))), (q4, .inl (cI, 100, .inl (fun _ => 0)))]) H := hP
  replace hD : va_D A ([(o_b, .inr (5, [.ref q1, .ref q2, .ref q3, .int 0, .int 0, .null, .int 0, .int 0, .int 0, .int 0, .int 0, .int 0, .null, .null, .null, .null, .null, .null, .int 0, .null, .int 0, .null, .null])), (q1, .inl (cI, 8, .inl (fun _ => 0))), (q2, .inl (cI, 8, .inl (fun _ => 0))), (q3, .inl (cI, 320, .inl (fun _ => 0))), (q4, .inl (cI, 100, .inl (fun _ => 0)))]) := hD
  refine va_putF (D := (dC, dI)) (ci := 5) (v := .ref q4) (ty := .array .int) (C := RX5) (T := TX5) (N := 23) hx hb hts hi_X5 tyX5 tyX5_ok nmX5 hown hK hP hD hS 0 rfl rfl 5 (by decide) kw7 (fun _ h9 => h9) rfl hnm rfl (by decide +kernel) rfl rfl (Nat.le_of_ble_eq_true rfl) dX5_init_34 (fun H locs hP hD hS => ?_)
  replace hP : va_P (dC, dI) vwCl ([(o_b, .inr (5, [.ref q1, .ref q2, .ref q3, .int 0, .int 0, .ref q4, .int 0, .int 0, .int 0, .int 0, .int 0, .int 0, .null, .null, .null, .null, .null, .null, .int 0, .null, .int 0, .null, .null])), (q1, .inl (cI, 8, .inl (fun _ => 0))), (q2, .inl (cI, 8, .inl (fun _ => 0))), (q3, .inl (cI, 320, .inl (fun _ => 0))), (q4, .inl (cI, 100, .inl (fun _ => 0)))]) H := hP
  replace hD : va_D A ([(o_b, .inr (5, [.ref q1, .ref q2, .ref q3, .int 0, .int 0, .ref q4, .int 0, .int 0, .int 0, .int 0, .int 0, .int 0, .null, .null, .null, .null, .null, .null, .int 0, .null, .int 0, .null, .null])), (q1, .inl (cI, 8, .inl (fun _ => 0))), (q2, .inl (cI, 8, .inl (fun _ => 0))), (q3, .inl (cI, 320, .inl (fun _ => 0))), (q4, .inl (cI, 100, .inl (fun _ => 0)))]) := hD
  refine lv_aload_n hx hb dX5_init_37 rfl (lv_at hl 0 rfl) ?_
  refine lv_bipush (v := 42) hx hb dX5_init_38 (by decide) ?_
  refine va_newa (a0 := (42, .inl (fun _ => 0))) (atype := .int) (ty := .int) (N' := 42) hx hb kw3 rfl hK hP hD hS hA (fun cA => ob_nc cA 42 .int rfl) (by decide) (by decide) (Nat.le_of_ble_eq_true rfl) (Nat.le_of_ble_eq_true rfl) (Nat.le_of_ble_eq_true rfl) dX5_init_40 (fun q5 cA H hK1 hP hD hS => ?_)
  obtain rfl : cI = cA := (ob_sI hK1).symm
  clear hK1
  refine W.widen (k := 5) (n := 478) (Nat.le_refl _) (Nat.le_refl _) ?_
  replace hP : va_P (dC, dI) vwCl ([(o_b, .inr (5, [.ref q1, .ref q2, .ref q3, .int 0, .int 0, .ref q4, .int 0, .int 0, .int 0, .int 0, .int 0, .int 0, .null, .null, .null, .null, .null, .null, .int 0, .null, .int 0, .null, .null])), (q1, .inl (cI, 8, .inl (fun _ => 0))), (q2, .inl (cI, 8, .inl (fun _ => 0))), (q3, .inl (cI, 320, .inl (fun _ => 0))), (q4, .inl (cI, 100, .inl (fun _ => 0))), (q5, .inl (cI, 42, .inl (fun _ => 0)))]) H := hP
  replace hD : va_D A ([(o_b, .inr (5, [.ref q1, .ref q2, .ref q3, .int 0, .int 0, .ref q4, .int 0, .int 0, .int 0, .int 0, .int 0, .int 0, .null, .null, .null, .null, .null, .null, .int 0, .null, .int 0, .null, .null])), (q1, .inl (cI, 8, .inl (fun _ => 0))), (q2, .inl (cI, 8, .inl (fun _ => 0))), (q3, .inl (cI, 320, .inl (fun _ => 0))), (q4, .inl (cI, 100, .inl (fun _ => 0))), (q5, .inl (cI, 42, .inl (fun _ => 0)))]) := hD
  refine va_putF (D := (dC, dI)) (ci := 5) (v := .ref q5) (ty := .array .int) (C := RX5) (T := TX5) (N := 23) hx hb hts hi_X5 tyX5 tyX5_ok nmX5 hown hK hP hD hS 0 rfl rfl 12 (by decide) kw8 (fun _ h9 => h9) rfl hnm rfl (by decide +kernel) rfl rfl (Nat.le_of_ble_eq_true rfl) dX5_init_42 (fun H locs hP hD hS => ?_)
  replace hP : va_P (dC, dI) vwCl ([(o_b, .inr (5, [.ref q1, .ref q2, .ref q3, .int 0, .int 0, .ref q4, .int 0, .int 0, .int 0, .int 0, .int 0, .int 0, .ref q5, .null, .null, .null, .null, .null, .int 0, .null, .int 0, .null, .null])), (q1, .inl (cI, 8, .inl (fun _ => 0))), (q2, .inl (cI, 8, .inl (fun _ => 0))), (q3, .inl (cI, 320, .inl (fun _ => 0))), (q4, .inl (cI, 100, .inl (fun _ => 0))), (q5, .inl (cI, 42, .inl (fun _ => 0)))]) H := hP
  replace hD : va_D A ([(o_b, .inr (5, [.ref q1, .ref q2, .ref q3, .int 0, .int 0, .ref q4, .int 0, .int 0, .int 0, .int 0, .int 0, .int 0, .ref q5, .null, .null, .null, .null, .null, .int 0, .null, .int 0, .null, .null])), (q1, .inl (cI, 8, .inl (fun _ => 0))), (q2, .inl (cI, 8, .inl (fun _ => 0))), (q3, .inl (cI, 320, .inl (fun _ => 0))), (q4, .inl (cI, 100, .inl (fun _ => 0))), (q5, .inl (cI, 42, .inl (fun _ => 0)))]) := hD
  refine lv_aload_n hx hb dX5_init_45 rfl (lv_at hl 0 rfl) ?_
  refine lv_bipush (v := 42) hx hb dX5_init_46 (by decide) ?_
  refine va_newa (a0 := (42, .inl (fun _ => 0))) (atype := .int) (ty := .int) (N' := 42) hx hb kw3 rfl hK hP hD hS hA (fun cA => ob_nc cA 42 .int rfl) (by decide) (by decide) (Nat.le_of_ble_eq_true rfl) (Nat.le_of_ble_eq_true rfl) (Nat.le_of_ble_eq_true rfl) dX5_init_48 (fun q6 cA H hK1 hP hD hS => ?_)
  obtain rfl : cI = cA := (ob_sI hK1).symm
  clear hK1
  refine W.widen (k := 6) (n := 520) (Nat.le_refl _) (Nat.le_refl _) ?_
  replace hP : va_P (dC, dI) vwCl ([(o_b, .inr (5, [.ref q1, .ref q2, .ref q3, .int 0, .int 0, .ref q4, .int 0, .int 0, .int 0, .int 0, .int 0, .int 0, .ref q5, .null, .null, .null, .null, .null, .int 0, .null, .int 0, .null, .null])), (q1, .inl (cI, 8, .inl (fun _ => 0))), (q2, .inl (cI, 8, .inl (fun _ => 0))), (q3, .inl (cI, 320, .inl (fun _ => 0))), (q4, .inl (cI, 100, .inl (fun _ => 0))), (q5, .inl (cI, 42, .inl (fun _ => 0))), (q6, .inl (cI, 42, .inl (fun _ => 0)))]) H := hP
  replace hD : va_D A ([(o_b, .inr (5, [.ref q1, .ref q2, .ref q3, .int 0, .int 0, .ref q4, .int 0, .int 0, .int 0, .int 0, .int 0, .int 0, .ref q5, .null, .null, .null, .null, .null, .int 0, .null, .int 0, .null, .null])), (q1, .inl (cI, 8, .inl (fun _ => 0))), (q2, .inl (cI, 8, .inl (fun _ => 0))), (q3, .inl (cI, 320, .inl (fun _ => 0))), (q4, .inl (cI, 100, .inl (fun _ => 0))), (q5, .inl (cI, 42, .inl (fun _ => 0))), (q6, .inl (cI, 42, .inl (fun _ => 0)))]) := hD
  refine va_putF (D := (dC, dI)) (ci := 5) (v := .ref q6) (ty := .array .int) (C := RX5) (T := TX5) (N := 23) hx hb hts hi_X5 tyX5 tyX5_ok nmX5 hown hK hP hD hS 0 rfl rfl 13 (by decide) kw9 (fun _ h9 => h9) rfl hnm rfl (by decide +kernel) rfl rfl (Nat.le_of_ble_eq_true rfl) dX5_init_50 (fun H locs hP hD hS => ?_)
  replace hP : va_P (dC, dI) vwCl ([(o_b, .inr (5, [.ref q1, .ref q2, .ref q3, .int 0, .int 0, .ref q4, .int 0, .int 0, .int 0, .int 0, .int 0, .int 0, .ref q5, .ref q6, .null, .null, .null, .null, .int 0, .null, .int 0, .null, .null])), (q1, .inl (cI, 8, .inl (fun _ => 0))), (q2, .inl (cI, 8, .inl (fun _ => 0))), (q3, .inl (cI, 320, .inl (fun _ => 0))), (q4, .inl (cI, 100, .inl (fun _ => 0))), (q5, .inl (cI, 42, .inl (fun _ => 0))), (q6, .inl (cI, 42, .inl (fun _ => 0)))]) H := hP
  replace hD : va_D A ([(o_b, .inr (5, [.ref q1, .ref q2, .ref q3, .int 0, .int 0, .ref q4, .int 0, .int 0, .int 0, .int 0, .int 0, .int 0, .ref q5, .ref q6, .null, .null, .null, .null, .int 0, .null, .int 0, .null, .null])), (q1, .inl (cI, 8, .inl (fun _ => 0))), (q2, .inl (cI, 8, .inl (fun _ => 0))), (q3, .inl (cI, 320, .inl (fun _ => 0))), (q4, .inl (cI, 100, .inl (fun _ => 0))), (q5, .inl (cI, 42, .inl (fun _ => 0))), (q6, .inl (cI, 42, .inl (fun _ => 0)))]) := hD
  refine lv_aload_n hx hb dX5_init_53 rfl (lv_at hl 0 rfl) ?_
  refine lv_bipush (v := 42) hx hb dX5_init_54 (by decide) ?_
  refine va_newa (a0 := (42, .inl (fun _ => 0))) (atype := .int) (ty := .int) (N' := 42) hx hb kw3 rfl hK hP hD hS hA (fun cA => ob_nc cA 42 .int rfl) (by decide) (by decide) (Nat.le_of_ble_eq_true rfl) (Nat.le_of_ble_eq_true rfl) (Nat.le_of_ble_eq_true rfl) dX5_init_56 (fun q7 cA H hK1 hP hD hS => ?_)
  obtain rfl : cI = cA := (ob_sI hK1).symm
  clear hK1
  refine W.widen (k := 7) (n := 562) (Nat.le_refl _) (Nat.le_refl _) ?_
  replace hP : va_P (dC, dI) vwCl ([(o_b, .inr (5, [.ref q1, .ref q2, .ref q3, .int 0, .int 0, .ref q4, .int 0, .int 0, .int 0, .int 0, .int 0, .int 0, .ref q5, .ref q6, .null, .null, .null, .null, .int 0, .null, .int 0, .null, .null])), (q1, .inl (cI, 8, .inl (fun _ => 0))), (q2, .inl (cI, 8, .inl (fun _ => 0))), (q3, .inl (cI, 320, .inl (fun _ => 0))), (q4, .inl (cI, 100, .inl (fun _ => 0))), (q5, .inl (cI, 42, .inl (fun _ => 0))), (q6, .inl (cI, 42, .inl (fun _ => 0))), (q7, .inl (cI, 42, .inl (fun _ => 0)))]) H := hP
  replace hD : va_D A ([(o_b, .inr (5, [.ref q1, .ref q2, .ref q3, .int 0, .int 0, .ref q4, .int 0, .int 0, .int 0, .int 0, .int 0, .int 0, .ref q5, .ref q6, .null, .null, .null, .null, .int 0, .null, .int 0, .null, .null])), (q1, .inl (cI, 8, .inl (fun _ => 0))), (q2, .inl (cI, 8, .inl (fun _ => 0))), (q3, .inl (cI, 320, .inl (fun _ => 0))), (q4, .inl (cI, 100, .inl (fun _ => 0))), (q5, .inl (cI, 42, .inl (fun _ => 0))), (q6, .inl (cI, 42, .inl (fun _ => 0))), (q7, .inl (cI, 42, .inl (fun _ => 0)))]) := hD
  refine va_putF (D := (dC, dI)) (ci := 5) (v := .ref q7) (ty := .array .int) (C := RX5) (T := TX5) (N := 23) hx hb hts hi_X5 tyX5 tyX5_ok nmX5 hown hK hP hD hS 0 rfl rfl 14 (by decide) kw10 (fun _ h9 => h9) rfl hnm rfl (by decide +kernel) rfl rfl (Nat.le_of_ble_eq_true rfl) dX5_init_58 (fun H locs hP hD hS => ?_)
  replace hP : va_P (dC, dI) vwCl ([(o_b, .inr (5, [.ref q1, .ref q2, .ref q3, .int 0, .int 0, .ref q4, .int 0, .int 0, .int 0, .int 0, .int 0, .int 0, .ref q5, .ref q6, .ref q7, .null, .null, .null, .int 0, .null, .int 0, .null, .null])), (q1, .inl (cI, 8, .inl (fun _ => 0))), (q2, .inl (cI, 8, .inl (fun _ => 0))), (q3, .inl (cI, 320, .inl (fun _ => 0))), (q4, .inl (cI, 100, .inl (fun _ => 0))), (q5, .inl (cI, 42, .inl (fun _ => 0))), (q6, .inl (cI, 42, .inl (fun _ => 0))), (q7, .inl (cI, 42, .inl (fun _ => 0)))]) H := hP
  replace hD : va_D A ([(o_b, .inr (5, [.ref q1, .ref q2, .ref q3, .int 0, .int 0, .ref q4, .int 0, .int 0, .int 0, .int 0, .int 0, .int 0, .ref q5, .ref q6, .ref q7, .null, .null, .null, .int 0, .null, .int 0, .null, .null])), (q1, .inl (cI, 8, .inl (fun _ => 0))), (q2, .inl (cI, 8, .inl (fun _ => 0))), (q3, .inl (cI, 320, .inl (fun _ => 0))), (q4, .inl (cI, 100, .inl (fun _ => 0))), (q5, .inl (cI, 42, .inl (fun _ => 0))), (q6, .inl (cI, 42, .inl (fun _ => 0))), (q7, .inl (cI, 42, .inl (fun _ => 0)))]) := hD
  refine lv_aload_n hx hb dX5_init_61 rfl (lv_at hl 0 rfl) ?_
  refine lv_bipush (v := 84) hx hb dX5_init_62 (by decide) ?_
  refine va_newa (a0 := (84, .inl (fun _ => 0))) (atype := .int) (ty := .int) (N' := 84) hx hb kw3 rfl hK hP hD hS hA (fun cA => ob_nc cA 84 .int rfl) (by decide) (by decide) (Nat.le_of_ble_eq_true rfl) (Nat.le_of_ble_eq_true rfl) (Nat.le_of_ble_eq_true rfl) dX5_init_64 (fun q8 cA H hK1 hP hD hS => ?_)
  obtain rfl : cI = cA := (ob_sI hK1).symm
  clear hK1
  refine W.widen (k := 8) (n := 646) (Nat.le_refl _) (Nat.le_refl _) ?_
  replace hP : va_P (dC, dI) vwCl ([(o_b, .inr (5, [.ref q1, .ref q2, .ref q3, .int 0, .int 0, .ref q4, .int 0, .int 0, .int 0, .int 0, .int 0, .int 0, .ref q5, .ref q6, .ref q7, .null, .null, .null, .int 0, .null, .int 0, .null, .null])), (q1, .inl (cI, 8, .inl (fun _ => 0))), (q2, .inl (cI, 8, .inl (fun _ => 0))), (q3, .inl (cI, 320, .inl (fun _ => 0))), (q4, .inl (cI, 100, .inl (fun _ => 0))), (q5, .inl (cI, 42, .inl (fun _ => 0))), (q6, .inl (cI, 42, .inl (fun _ => 0))), (q7, .inl (cI, 42, .inl (fun _ => 0))), (q8, .inl (cI, 84, .inl (fun _ => 0)))]) H := hP
  replace hD : va_D A ([(o_b, .inr (5, [.ref q1, .ref q2, .ref q3, .int 0, .int 0, .ref q4, .int 0, .int 0, .int 0, .int 0, .int 0, .int 0, .ref q5, .ref q6, .ref q7, .null, .null, .null, .int 0, .null, .int 0, .null, .null])), (q1, .inl (cI, 8, .inl (fun _ => 0))), (q2, .inl (cI, 8, .inl (fun _ => 0))), (q3, .inl (cI, 320, .inl (fun _ => 0))), (q4, .inl (cI, 100, .inl (fun _ => 0))), (q5, .inl (cI, 42, .inl (fun _ => 0))), (q6, .inl (cI, 42, .inl (fun _ => 0))), (q7, .inl (cI, 42, .inl (fun _ => 0))), (q8, .inl (cI, 84, .inl (fun _ => 0)))]) := hD
  refine va_putF (D := (dC, dI)) (ci := 5) (v := .ref q8) (ty := .array .int) (C := RX5) (T := TX5) (N := 23) hx hb hts hi_X5 tyX5 tyX5_ok nmX5 hown hK hP hD hS 0 rfl rfl 15 (by decide) kw11 (fun _ h9 => h9) rfl hnm rfl (by decide +kernel) rfl rfl (Nat.le_of_ble_eq_true rfl) dX5_init_66 (fun H locs hP hD hS => ?_)
  replace hP : va_P (dC, dI) vwCl ([(o_b, .inr (5, [.ref q1, .ref q2, .ref q3, .int 0, .int 0, .ref q4, .int 0, .int 0, .int 0, .int 0, .int 0, .int 0, .ref q5, .ref q6, .ref q7, .ref q8, .null, .null, .int 0, .null, .int 0, .null, .null])), (q1, .inl (cI, 8, .inl (fun _ => 0))), (q2, .inl (cI, 8, .inl (fun _ => 0))), (q3, .inl (cI, 320, .inl (fun _ => 0))), (q4, .inl (cI, 100, .inl (fun _ => 0))), (q5, .inl (cI, 42, .inl (fun _ => 0))), (q6, .inl (cI, 42, .inl (fun _ => 0))), (q7, .inl (cI, 42, .inl (fun _ => 0))), (q8, .inl (cI, 84, .inl (fun _ => 0)))]) H := hP
  replace hD : va_D A ([(o_b, .inr (5, [.ref q1, .ref q2, .ref q3, .int 0, .int 0, .ref q4, .int 0, .int 0, .int 0, .int 0, .int 0, .int 0, .ref q5, .ref q6, .ref q7, .ref q8, .null, .null, .int 0, .null, .int 0, .null, .null])), (q1, .inl (cI, 8, .inl (fun _ => 0))), (q2, .inl (cI, 8, .inl (fun _ => 0))), (q3, .inl (cI, 320, .inl (fun _ => 0))), (q4, .inl (cI, 100, .inl (fun _ => 0))), (q5, .inl (cI, 42, .inl (fun _ => 0))), (q6, .inl (cI, 42, .inl (fun _ => 0))), (q7, .inl (cI, 42, .inl (fun _ => 0))), (q8, .inl (cI, 84, .inl (fun _ => 0)))]) := hD
  refine lv_aload_n hx hb dX5_init_69 rfl (lv_at hl 0 rfl) ?_
  refine lv_iconst (v := 2) hx hb dX5_init_70 (by decide) ?_
  refine va_newa (a0 := (2, .inl (fun _ => 0))) (atype := .boolean) (ty := .boolean) (N' := 2) hx hb kw12 rfl hK hP hD hS hA (fun cA => ob_nc cA 2 .boolean rfl) (by decide) (by decide) (Nat.le_of_ble_eq_true rfl) (Nat.le_of_ble_eq_true rfl) (Nat.le_of_ble_eq_true rfl) dX5_init_71 (fun q9 cA H hK1 hP hD hS => ?_)
  obtain rfl : cZ = cA := (ob_sZ hK1).symm
  clear hK1
  refine W.widen (k := 9) (n := 648) (Nat.le_refl _) (Nat.le_refl _) ?_
  replace hP : va_P (dC, dI) vwCl ([(o_b, .inr (5, [.ref q1, .ref q2, .ref q3, .int 0, .int 0, .ref q4, .int 0, .int 0, .int 0, .int 0, .int 0, .int 0, .ref q5, .ref q6, .ref q7, .ref q8, .null, .null, .int 0, .null, .int 0, .null, .null])), (q1, .inl (cI, 8, .inl (fun _ => 0))), (q2, .inl (cI, 8, .inl (fun _ => 0))), (q3, .inl (cI, 320, .inl (fun _ => 0))), (q4, .inl (cI, 100, .inl (fun _ => 0))), (q5, .inl (cI, 42, .inl (fun _ => 0))), (q6, .inl (cI, 42, .inl (fun _ => 0))), (q7, .inl (cI, 42, .inl (fun _ => 0))), (q8, .inl (cI, 84, .inl (fun _ => 0))), (q9, .inl (cZ, 2, .inl (fun _ => 0)))]) H := hP
  replace hD : va_D A ([(o_b, .inr (5, [.ref q1, .ref q2, .ref q3, .int 0, .int 0, .ref q4, .int 0, .int 0, .int 0, .int 0, .int 0, .int 0, .ref q5, .ref q6, .ref q7, .ref q8, .null, .null, .int 0, .null, .int 0, .null, .null])), (q1, .inl (cI, 8, .inl (fun _ => 0))), (q2, .inl (cI, 8, .inl (fun _ => 0))), (q3, .inl (cI, 320, .inl (fun _ => 0))), (q4, .inl (cI, 100, .inl (fun _ => 0))), (q5, .inl (cI, 42, .inl (fun _ => 0))), (q6, .inl (cI, 42, .inl (fun _ => 0))), (q7, .inl (cI, 42, .inl (fun _ => 0))), (q8, .inl (cI, 84, .inl (fun _ => 0))), (q9, .inl (cZ, 2, .inl (fun _ => 0)))]) := hD
  refine va_putF (D := (dC, dI)) (ci := 5) (v := .ref q9) (ty := .array .boolean) (C := RX5) (T := TX5) (N := 23) hx hb hts hi_X5 tyX5 tyX5_ok nmX5 hown hK hP hD hS 0 rfl rfl 16 (by decide) kw13 (fun _ h9 => h9) rfl hnm rfl (by decide +kernel) rfl rfl (Nat.le_of_ble_eq_true rfl) dX5_init_73 (fun H locs hP hD hS => ?_)
  replace hP : va_P (dC, dI) vwCl ([(o_b, .inr (5, [.ref q1, .ref q2, .ref q3, .int 0, .int 0, .ref q4, .int 0, .int 0, .int 0, .int 0, .int 0, .int 0, .ref q5, .ref q6, .ref q7, .ref q8, .ref q9, .null, .int 0, .null, .int 0, .null, .null])), (q1, .inl (cI, 8, .inl (fun _ => 0))), (q2, .inl (cI, 8, .inl (fun _ => 0))), (q3, .inl (cI, 320, .inl (fun _ => 0))), (q4, .inl (cI, 100, .inl (fun _ => 0))), (q5, .inl (cI, 42, .inl (fun _ => 0))), (q6, .inl (cI, 42, .inl (fun _ => 0))), (q7, .inl (cI, 42, .inl (fun _ => 0))), (q8, .inl (cI, 84, .inl (fun _ => 0))), (q9, .inl (cZ, 2, .inl (fun _ => 0)))]) H := hP
  replace hD : va_D A ([(o_b, .inr (5, [.ref q1, .ref q2, .ref q3, .int 0, .int 0, .ref q4, .int 0, .int 0, .int 0, .int 0, .int 0, .int 0, .ref q5, .ref q6, .ref q7, .ref q8, .ref q9, .null, .int 0, .null, .int 0, .null, .null])), (q1, .inl (cI, 8, .inl (fun _ => 0))), (q2, .inl (cI, 8, .inl (fun _ => 0))), (q3, .inl (cI, 320, .inl (fun _ => 0))), (q4, .inl (cI, 100, .inl (fun _ => 0))), (q5, .inl (cI, 42, .inl (fun _ => 0))), (q6, .inl (cI, 42, .inl (fun _ => 0))), (q7, .inl (cI, 42, .inl (fun _ => 0))), (q8, .inl (cI, 84, .inl (fun _ => 0))), (q9, .inl (cZ, 2, .inl (fun _ => 0)))]) := hD
  refine lv_aload_n hx hb dX5_init_76 rfl (lv_at hl 0 rfl) ?_
  refine lv_sipush (v := 1008) hx hb dX5_init_77 (by decide) ?_
  refine va_newa (a0 := (1008, .inl (fun _ => 0))) (atype := .int) (ty := .int) (N' := 1008) hx hb kw3 rfl hK hP hD hS hA (fun cA => ob_nc cA 1008 .int rfl) (by decide) (by decide) (Nat.le_of_ble_eq_true rfl) (Nat.le_of_ble_eq_true rfl) (Nat.le_of_ble_eq_true rfl) dX5_init_80 (fun q10 cA H hK1 hP hD hS => ?_)
  obtain rfl : cI = cA := (ob_sI hK1).symm
  clear hK1
  refine W.widen (k := 10) (n := 1656) (Nat.le_refl _) (Nat.le_refl _) ?_
  replace hP : va_P (dC, dI) vwCl ([(o_b, .inr (5, [.ref q1, .ref q2, .ref q3, .int 0, .int 0, .ref q4, .int 0, .int 0, .int 0, .int 0, .int 0, .int 0, .ref q5, .ref q6, .ref q7, .ref q8, .ref q9, .null, .int 0, .null, .int 0, .null, .null])), (q1, .inl (cI, 8, .inl (fun _ => 0))), (q2, .inl (cI, 8, .inl (fun _ => 0))), (q3, .inl (cI, 320, .inl (fun _ => 0))), (q4, .inl (cI, 100, .inl (fun _ => 0))), (q5, .inl (cI, 42, .inl (fun _ => 0))), (q6, .inl (cI, 42, .inl (fun _ => 0))), (q7, .inl (cI, 42, .inl (fun _ => 0))), (q8, .inl (cI, 84, .inl (fun _ => 0))), (q9, .inl (cZ, 2, .inl (fun _ => 0))), (q10, .inl (cI, 1008, .inl (fun _ => 0)))]) H := hP
  replace hD : va_D A ([(o_b, .inr (5, [.ref q1, .ref q2, .ref q3, .int 0, .int 0, .ref q4, .int 0, .int 0, .int 0, .int 0, .int 0, .int 0, .ref q5, .ref q6, .ref q7, .ref q8, .ref q9, .null, .int 0, .null, .int 0, .null, .null])), (q1, .inl (cI, 8, .inl (fun _ => 0))), (q2, .inl (cI, 8, .inl (fun _ => 0))), (q3, .inl (cI, 320, .inl (fun _ => 0))), (q4, .inl (cI, 100, .inl (fun _ => 0))), (q5, .inl (cI, 42, .inl (fun _ => 0))), (q6, .inl (cI, 42, .inl (fun _ => 0))), (q7, .inl (cI, 42, .inl (fun _ => 0))), (q8, .inl (cI, 84, .inl (fun _ => 0))), (q9, .inl (cZ, 2, .inl (fun _ => 0))), (q10, .inl (cI, 1008, .inl (fun _ => 0)))]) := hD
  refine va_putF (D := (dC, dI)) (ci := 5) (v := .ref q10) (ty := .array .int) (C := RX5) (T := TX5) (N := 23) hx hb hts hi_X5 tyX5 tyX5_ok nmX5 hown hK hP hD hS 0 rfl rfl 17 (by decide) kw14 (fun _ h9 => h9) rfl hnm rfl (by decide +kernel) rfl rfl (Nat.le_of_ble_eq_true rfl) dX5_init_82 (fun H locs hP hD hS => ?_)
  replace hP : va_P (dC, dI) vwCl ([(o_b, .inr (5, [.ref q1, .ref q2, .ref q3, .int 0, .int 0, .ref q4, .int 0, .int 0, .int 0, .int 0, .int 0, .int 0, .ref q5, .ref q6, .ref q7, .ref q8, .ref q9, .ref q10, .int 0, .null, .int 0, .null, .null])), (q1, .inl (cI, 8, .inl (fun _ => 0))), (q2, .inl (cI, 8, .inl (fun _ => 0))), (q3, .inl (cI, 320, .inl (fun _ => 0))), (q4, .inl (cI, 100, .inl (fun _ => 0))), (q5, .inl (cI, 42, .inl (fun _ => 0))), (q6, .inl (cI, 42, .inl (fun _ => 0))), (q7, .inl (cI, 42, .inl (fun _ => 0))), (q8, .inl (cI, 84, .inl (fun _ => 0))), (q9, .inl (cZ, 2, .inl (fun _ => 0))), (q10, .inl (cI, 1008, .inl (fun _ => 0)))]) H := hP
  replace hD : va_D A ([(o_b, .inr (5, [.ref q1, .ref q2, .ref q3, .int 0, .int 0, .ref q4, .int 0, .int 0, .int 0, .int 0, .int 0, .int 0, .ref q5, .ref q6, .ref q7, .ref q8, .ref q9, .ref q10, .int 0, .null, .int 0, .null, .null])), (q1, .inl (cI, 8, .inl (fun _ => 0))), (q2, .inl (cI, 8, .inl (fun _ => 0))), (q3, .inl (cI, 320, .inl (fun _ => 0))), (q4, .inl (cI, 100, .inl (fun _ => 0))), (q5, .inl (cI, 42, .inl (fun _ => 0))), (q6, .inl (cI, 42, .inl (fun _ => 0))), (q7, .inl (cI, 42, .inl (fun _ => 0))), (q8, .inl (cI, 84, .inl (fun _ => 0))), (q9, .inl (cZ, 2, .inl (fun _ => 0))), (q10, .inl (cI, 1008, .inl (fun _ => 0)))]) := hD
  refine lv_aload_n hx hb dX5_init_85 rfl (lv_at hl 0 rfl) ?_
  refine lv_bipush (v := 16) hx hb dX5_init_86 (by decide) ?_
  refine va_newa (a0 := (16, .inl (fun _ => 0))) (atype := .int) (ty := .int) (N' := 16) hx hb kw3 rfl hK hP hD hS hA (fun cA => ob_nc cA 16 .int rfl) (by decide) (by decide) (Nat.le_of_ble_eq_true rfl) (Nat.le_of_ble_eq_true rfl) (Nat.le_of_ble_eq_true rfl) dX5_init_88 (fun q11 cA H hK1 hP hD hS => ?_)
  obtain rfl : cI = cA := (ob_sI hK1).symm
  clear hK1
  refine W.widen (k := 11) (n := 1672) (Nat.le_refl _) (Nat.le_refl _) ?_
  replace hP : va_P (dC, dI) vwCl ([(o_b, .inr (5, [.ref q1, .ref q2, .ref q3, .int 0, .int 0, .ref q4, .int 0, .int 0, .int 0, .int 0, .int 0, .int 0, .ref q5, .ref q6, .ref q7, .ref q8, .ref q9, .ref q10, .int 0, .null, .int 0, .null, .null])), (q1, .inl (cI, 8, .inl (fun _ => 0))), (q2, .inl (cI, 8, .inl (fun _ => 0))), (q3, .inl (cI, 320, .inl (fun _ => 0))), (q4, .inl (cI, 100, .inl (fun _ => 0))), (q5, .inl (cI, 42, .inl (fun _ => 0))), (q6, .inl (cI, 42, .inl (fun _ => 0))), (q7, .inl (cI, 42, .inl (fun _ => 0))), (q8, .inl (cI, 84, .inl (fun _ => 0))), (q9, .inl (cZ, 2, .inl (fun _ => 0))), (q10, .inl (cI, 1008, .inl (fun _ => 0))), (q11, .inl (cI, 16, .inl (fun _ => 0)))]) H := hP
  replace hD : va_D A ([(o_b, .inr (5, [.ref q1, .ref q2, .ref q3, .int 0, .int 0, .ref q4, .int 0, .int 0, .int 0, .int 0, .int 0, .int 0, .ref q5, .ref q6, .ref q7, .ref q8, .ref q9, .ref q10, .int 0, .null, .int 0, .null, .null])), (q1, .inl (cI, 8, .inl (fun _ => 0))), (q2, .inl (cI, 8, .inl (fun _ => 0))), (q3, .inl (cI, 320, .inl (fun _ => 0))), (q4, .inl (cI, 100, .inl (fun _ => 0))), (q5, .inl (cI, 42, .inl (fun _ => 0))), (q6, .inl (cI, 42, .inl (fun _ => 0))), (q7, .inl (cI, 42, .inl (fun _ => 0))), (q8, .inl (cI, 84, .inl (fun _ => 0))), (q9, .inl (cZ, 2, .inl (fun _ => 0))), (q10, .inl (cI, 1008, .inl (fun _ => 0))), (q11, .inl (cI, 16, .inl (fun _ => 0)))]) := hD
  refine va_putF (D := (dC, dI)) (ci := 5) (v := .ref q11) (ty := .array .int) (C := RX5) (T := TX5) (N := 23) hx hb hts hi_X5 tyX5 tyX5_ok nmX5 hown hK hP hD hS 0 rfl rfl 19 (by decide) kw15 (fun _ h9 => h9) rfl hnm rfl (by decide +kernel) rfl rfl (Nat.le_of_ble_eq_true rfl) dX5_init_90 (fun H locs hP hD hS => ?_)
  replace hP : va_P (dC, dI) vwCl ([(o_b, .inr (5, [.ref q1, .ref q2, .ref q3, .int 0, .int 0, .ref q4, .int 0, .int 0, .int 0, .int 0, .int 0, .int 0, .ref q5, .ref q6, .ref q7, .ref q8, .ref q9, .ref q10, .int 0, .ref q11, .int 0, .null, .null])), (q1, .inl (cI, 8, .inl (fun _ => 0))), (q2, .inl (cI, 8, .inl (fun _ => 0))), (q3, .inl (cI, 320, .inl (fun _ => 0))), (q4, .inl (cI, 100, .inl (fun _ => 0))), (q5, .inl (cI, 42, .inl (fun _ => 0))), (q6, .inl (cI, 42, .inl (fun _ => 0))), (q7, .inl (cI, 42, .inl (fun _ => 0))), (q8, .inl (cI, 84, .inl (fun _ => 0))), (q9, .inl (cZ, 2, .inl (fun _ => 0))), (q10, .inl (cI, 1008, .inl (fun _ => 0))), (q11, .inl (cI, 16, .inl (fun _ => 0)))]) H := hP
  replace hD : va_D A ([(o_b, .inr (5, [.ref q1, .ref q2, .ref q3, .int 0, .int 0, .ref q4, .int 0, .int 0, .int 0, .int 0, .int 0, .int 0, .ref q5, .ref q6, .ref q7, .ref q8, .ref q9, .ref q10, .int 0, .ref q11, .int 0, .null, .null])), (q1, .inl (cI, 8, .inl (fun _ => 0))), (q2, .inl (cI, 8, .inl (fun _ => 0))), (q3, .inl (cI, 320, .inl (fun _ => 0))), (q4, .inl (cI, 100, .inl (fun _ => 0))), (q5, .inl (cI, 42, .inl (fun _ => 0))), (q6, .inl (cI, 42, .inl (fun _ => 0))), (q7, .inl (cI, 42, .inl (fun _ => 0))), (q8, .inl (cI, 84, .inl (fun _ => 0))), (q9, .inl (cZ, 2, .inl (fun _ => 0))), (q10, .inl (cI, 1008, .inl (fun _ => 0))), (q11, .inl (cI, 16, .inl (fun _ => 0)))]) := hD
  refine lv_aload_n hx hb dX5_init_93 rfl (lv_at hl 0 rfl) ?_
  refine lv_bipush (v := 12) hx hb dX5_init_94 (by decide) ?_
  refine va_newa (a0 := (12, .inl (fun _ => 0))) (atype := .int) (ty := .int) (N' := 12) hx hb kw3 rfl hK hP hD hS hA (fun cA => ob_nc cA 12 .int rfl) (by decide) (by decide) (Nat.le_of_ble_eq_true rfl) (Nat.le_of_ble_eq_true rfl) (Nat.le_of_ble_eq_true rfl) dX5_init_96 (fun q12 cA H hK1 hP hD hS => ?_)
  obtain rfl : cI = cA := (ob_sI hK1).symm
  clear hK1
  refine W.widen (k := 12) (n := 1684) (Nat.le_refl _) (Nat.le_refl _) ?_
  replace hP : va_P (dC, dI) vwCl ([(o_b, .inr (5, [.ref q1, .ref q2, .ref q3, .int 0, .int 0, .ref q4, .int 0, .int 0, .int 0, .int 0, .int 0, .int 0, .ref q5, .ref q6, .ref q7, .ref q8, .ref q9, .ref q10, .int 0, .ref q11, .int 0, .null, .null])), (q1, .inl (cI, 8, .inl (fun _ => 0))), (q2, .inl (cI, 8, .inl (fun _ => 0))), (q3, .inl (cI, 320, .inl (fun _ => 0))), (q4, .inl (cI, 100, .inl (fun _ => 0))), (q5, .inl (cI, 42, .inl (fun _ => 0))), (q6, .inl (cI, 42, .inl (fun _ => 0))), (q7, .inl (cI, 42, .inl (fun _ => 0))), (q8, .inl (cI, 84, .inl (fun _ => 0))), (q9, .inl (cZ, 2, .inl (fun _ => 0))), (q10, .inl (cI, 1008, .inl (fun _ => 0))), (q11, .inl (cI, 16, .inl (fun _ => 0))), (q12, .inl (cI, 12, .inl (fun _ => 0)))]) H := hP
  replace hD : va_D A ([(o_b, .inr (5, [.ref q1, .ref q2, .ref q3, .int 0, .int 0, .ref q4, .int 0, .int 0, .int 0, .int 0, .int 0, .int 0, .ref q5, .ref q6, .ref q7, .ref q8, .ref q9, .ref q10, .int 0, .ref q11, .int 0, .null, .null])), (q1, .inl (cI, 8, .inl (fun _ => 0))), (q2, .inl (cI, 8, .inl (fun _ => 0))), (q3, .inl (cI, 320, .inl (fun _ => 0))), (q4, .inl (cI, 100, .inl (fun _ => 0))), (q5, .inl (cI, 42, .inl (fun _ => 0))), (q6, .inl (cI, 42, .inl (fun _ => 0))), (q7, .inl (cI, 42, .inl (fun _ => 0))), (q8, .inl (cI, 84, .inl (fun _ => 0))), (q9, .inl (cZ, 2, .inl (fun _ => 0))), (q10, .inl (cI, 1008, .inl (fun _ => 0))), (q11, .inl (cI, 16, .inl (fun _ => 0))), (q12, .inl (cI, 12, .inl (fun _ => 0)))]) := hD
  refine va_putF (D := (dC, dI)) (ci := 5) (v := .ref q12) (ty := .array .int) (C := RX5) (T := TX5) (N := 23) hx hb hts hi_X5 tyX5 tyX5_ok nmX5 hown hK hP hD hS 0 rfl rfl 21 (by decide) kw16 (fun _ h9 => h9) rfl hnm rfl (by decide +kernel) rfl rfl (Nat.le_of_ble_eq_true rfl) dX5_init_98 (fun H locs hP hD hS => ?_)
  replace hP : va_P (dC, dI) vwCl ([(o_b, .inr (5, [.ref q1, .ref q2, .ref q3, .int 0, .int 0, .ref q4, .int 0, .int 0, .int 0, .int 0, .int 0, .int 0, .ref q5, .ref q6, .ref q7, .ref q8, .ref q9, .ref q10, .int 0, .ref q11, .int 0, .ref q12, .null])), (q1, .inl (cI, 8, .inl (fun _ => 0))), (q2, .inl (cI, 8, .inl (fun _ => 0))), (q3, .inl (cI, 320, .inl (fun _ => 0))), (q4, .inl (cI, 100, .inl (fun _ => 0))), (q5, .inl (cI, 42, .inl (fun _ => 0))), (q6, .inl (cI, 42, .inl (fun _ => 0))), (q7, .inl (cI, 42, .inl (fun _ => 0))), (q8, .inl (cI, 84, .inl (fun _ => 0))), (q9, .inl (cZ, 2, .inl (fun _ => 0))), (q10, .inl (cI, 1008, .inl (fun _ => 0))), (q11, .inl (cI, 16, .inl (fun _ => 0))), (q12, .inl (cI, 12, .inl (fun _ => 0)))]) H := hP
  replace hD : va_D A ([(o_b, .inr (5, [.ref q1, .ref q2, .ref q3, .int 0, .int 0, .ref q4, .int 0, .int 0, .int 0, .int 0, .int 0, .int 0, .ref q5, .ref q6, .ref q7, .ref q8, .ref q9, .ref q10, .int 0, .ref q11, .int 0, .ref q12, .null])), (q1, .inl (cI, 8, .inl (fun _ => 0))), (q2, .inl (cI, 8, .inl (fun _ => 0))), (q3, .inl (cI, 320, .inl (fun _ => 0))), (q4, .inl (cI, 100, .inl (fun _ => 0))), (q5, .inl (cI, 42, .inl (fun _ => 0))), (q6, .inl (cI, 42, .inl (fun _ => 0))), (q7, .inl (cI, 42, .inl (fun _ => 0))), (q8, .inl (cI, 84, .inl (fun _ => 0))), (q9, .inl (cZ, 2, .inl (fun _ => 0))), (q10, .inl (cI, 1008, .inl (fun _ => 0))), (q11, .inl (cI, 16, .inl (fun _ => 0))), (q12, .inl (cI, 12, .inl (fun _ => 0)))]) := hD
  refine lv_aload_n hx hb dX5_init_101 rfl (lv_at hl 0 rfl) ?_
  refine lv_bipush (v := 71) hx hb dX5_init_102 (by decide) ?_
  refine va_newa (a0 := (71, .inl (fun _ => 0))) (atype := .int) (ty := .int) (N' := 71) hx hb kw3 rfl hK hP hD hS hA (fun cA => ob_nc cA 71 .int rfl) (by decide) (by decide) (Nat.le_of_ble_eq_true rfl) (Nat.le_of_ble_eq_true rfl) (Nat.le_of_ble_eq_true rfl) dX5_init_104 (fun q13 cA H hK1 hP hD hS => ?_)
  obtain rfl : cI = cA := (ob_sI hK1).symm
  clear hK1
  refine W.widen (k := 13) (n := 1755) (Nat.le_refl _) (Nat.le_refl _) ?_
  replace hP : va_P (dC, dI) vwCl ([(o_b, .inr (5, [.ref q1, .ref q2, .ref q3, .int 0, .int 0, .ref q4, .int 0, .int 0, .int 0, .int 0, .int 0, .int 0, .ref q5, .ref q6, .ref q7, .ref q8, .ref q9, .ref q10, .int 0, .ref q11, .int 0, .ref q12, .null])), (q1, .inl (cI, 8, .inl (fun _ => 0))), (q2, .inl (cI, 8, .inl (fun _ => 0))), (q3, .inl (cI, 320, .inl (fun _ => 0))), (q4, .inl (cI, 100, .inl (fun _ => 0))), (q5, .inl (cI, 42, .inl (fun _ => 0))), (q6, .inl (cI, 42, .inl (fun _ => 0))), (q7, .inl (cI, 42, .inl (fun _ => 0))), (q8, .inl (cI, 84, .inl (fun _ => 0))), (q9, .inl (cZ, 2, .inl (fun _ => 0))), (q10, .inl (cI, 1008, .inl (fun _ => 0))), (q11, .inl (cI, 16, .inl (fun _ => 0))), (q12, .inl (cI, 12, .inl (fun _ => 0))), (q13, .inl (cI, 71, .inl (fun _ => 0)))]) H := hP
  replace hD : va_D A ([(o_b, .inr (5, [.ref q1, .ref q2, .ref q3, .int 0, .int 0, .ref q4, .int 0, .int 0, .int 0, .int 0, .int 0, .int 0, .ref q5, .ref q6, .ref q7, .ref q8, .ref q9, .ref q10, .int 0, .ref q11, .int 0, .ref q12, .null])), (q1, .inl (cI, 8, .inl (fun _ => 0))), (q2, .inl (cI, 8, .inl (fun _ => 0))), (q3, .inl (cI, 320, .inl (fun _ => 0))), (q4, .inl (cI, 100, .inl (fun _ => 0))), (q5, .inl (cI, 42, .inl (fun _ => 0))), (q6, .inl (cI, 42, .inl (fun _ => 0))), (q7, .inl (cI, 42, .inl (fun _ => 0))), (q8, .inl (cI, 84, .inl (fun _ => 0))), (q9, .inl (cZ, 2, .inl (fun _ => 0))), (q10, .inl (cI, 1008, .inl (fun _ => 0))), (q11, .inl (cI, 16, .inl (fun _ => 0))), (q12, .inl (cI, 12, .inl (fun _ => 0))), (q13, .inl (cI, 71, .inl (fun _ => 0)))]) := hD
  refine va_putF (D := (dC, dI)) (ci := 5) (v := .ref q13) (ty := .array .int) (C := RX5) (T := TX5) (N := 23) hx hb hts hi_X5 tyX5 tyX5_ok nmX5 hown hK hP hD hS 0 rfl rfl 22 (by decide) kw17 (fun _ h9 => h9) rfl hnm rfl (by decide +kernel) rfl rfl (Nat.le_of_ble_eq_true rfl) dX5_init_106 (fun H locs hP hD hS => ?_)
  replace hP : va_P (dC, dI) vwCl ([(o_b, .inr (5, [.ref q1, .ref q2, .ref q3, .int 0, .int 0, .ref q4, .int 0, .int 0, .int 0, .int 0, .int 0, .int 0, .ref q5, .ref q6, .ref q7, .ref q8, .ref q9, .ref q10, .int 0, .ref q11, .int 0, .ref q12, .ref q13])), (q1, .inl (cI, 8, .inl (fun _ => 0))), (q2, .inl (cI, 8, .inl (fun _ => 0))), (q3, .inl (cI, 320, .inl (fun _ => 0))), (q4, .inl (cI, 100, .inl (fun _ => 0))), (q5, .inl (cI, 42, .inl (fun _ => 0))), (q6, .inl (cI, 42, .inl (fun _ => 0))), (q7, .inl (cI, 42, .inl (fun _ => 0))), (q8, .inl (cI, 84, .inl (fun _ => 0))), (q9, .inl (cZ, 2, .inl (fun _ => 0))), (q10, .inl (cI, 1008, .inl (fun _ => 0))), (q11, .inl (cI, 16, .inl (fun _ => 0))), (q12, .inl (cI, 12, .inl (fun _ => 0))), (q13, .inl (cI, 71, .inl (fun _ => 0)))]) H := hP
  replace hD : va_D A ([(o_b, .inr (5, [.ref q1, .ref q2, .ref q3, .int 0, .int 0, .ref q4, .int 0, .int 0, .int 0, .int 0, .int 0, .int 0, .ref q5, .ref q6, .ref q7, .ref q8, .ref q9, .ref q10, .int 0, .ref q11, .int 0, .ref q12, .ref q13])), (q1, .inl (cI, 8, .inl (fun _ => 0))), (q2, .inl (cI, 8, .inl (fun _ => 0))), (q3, .inl (cI, 320, .inl (fun _ => 0))), (q4, .inl (cI, 100, .inl (fun _ => 0))), (q5, .inl (cI, 42, .inl (fun _ => 0))), (q6, .inl (cI, 42, .inl (fun _ => 0))), (q7, .inl (cI, 42, .inl (fun _ => 0))), (q8, .inl (cI, 84, .inl (fun _ => 0))), (q9, .inl (cZ, 2, .inl (fun _ => 0))), (q10, .inl (cI, 1008, .inl (fun _ => 0))), (q11, .inl (cI, 16, .inl (fun _ => 0))), (q12, .inl (cI, 12, .inl (fun _ => 0))), (q13, .inl (cI, 71, .inl (fun _ => 0)))]) := hD
  refine lv_iconst (v := 0) hx hb dX5_init_109 (by decide) ?_
  refine lv_istore_n (lv' := [(1, .int 0), (0, .ref o_b)]) hx hb dX5_init_110 rfl hl (by decide) rfl (fun ls hl => ?_)
  refine lv_iload_n hx hb dX5_init_111 rfl (lv_at hl 0 rfl) ?_
  refine lv_bipush (v := 8) hx hb dX5_init_112 (by decide) ?_
  refine lv_icmp_ge (tgt := 130) hx hb dX5_init_114 (by decide) (fun hc => absurd hc (by decide)) (fun _ => ?_)
  refine lv_aload_n hx hb dX5_init_117 rfl (lv_at hl 1 rfl) ?_
  refine va_get (D := (dC, dI)) (ci := 5) (v := .ref q1) (C := RX5) (T := TX5) (N := 23) hx hb hts hi_X5 hown hK hP 0 rfl rfl 0 (by decide) kw4 (fun _ h9 => h9) rfl dX5_init_118 ?_
  refine lv_iload_n hx hb dX5_init_121 rfl (lv_at hl 0 rfl) ?_
  refine lv_iconst (v := (-1)) hx hb dX5_init_122 (by decide) ?_
  refine va_iast hx hb hK hP hD hS 1 0 rfl rfl (by unfold vp_in; decide) dX5_init_123 (fun H locs hP hD hS => ?_)
  replace hP : va_P (dC, dI) vwCl ([(o_b, .inr (5, [.ref q1, .ref q2, .ref q3, .int 0, .int 0, .ref q4, .int 0, .int 0, .int 0, .int 0, .int 0, .int 0, .ref q5, .ref q6, .ref q7, .ref q8, .ref q9, .ref q10, .int 0, .ref q11, .int 0, .ref q12, .ref q13])), (q1, .inl (cI, 8, .inl (upd (fun _ => 0) 0 (-1)))), (q2, .inl (cI, 8, .inl (fun _ => 0))), (q3, .inl (cI, 320, .inl (fun _ => 0))), (q4, .inl (cI, 100, .inl (fun _ => 0))), (q5, .inl (cI, 42, .inl (fun _ => 0))), (q6, .inl (cI, 42, .inl (fun _ => 0))), (q7, .inl (cI, 42, .inl (fun _ => 0))), (q8, .inl (cI, 84, .inl (fun _ => 0))), (q9, .inl (cZ, 2, .inl (fun _ => 0))), (q10, .inl (cI, 1008, .inl (fun _ => 0))), (q11, .inl (cI, 16, .inl (fun _ => 0))), (q12, .inl (cI, 12, .inl (fun _ => 0))), (q13, .inl (cI, 71, .inl (fun _ => 0)))]) H := hP
  replace hD : va_D A ([(o_b, .inr (5, [.ref q1, .ref q2, .ref q3, .int 0, .int 0, .ref q4, .int 0, .int 0, .int 0, .int 0, .int 0, .int 0, .ref q5, .ref q6, .ref q7, .ref q8, .ref q9, .ref q10, .int 0, .ref q11, .int 0, .ref q12, .ref q13])), (q1, .inl (cI, 8, .inl (upd (fun _ => 0) 0 (-1)))), (q2, .inl (cI, 8, .inl (fun _ => 0))), (q3, .inl (cI, 320, .inl (fun _ => 0))), (q4, .inl (cI, 100, .inl (fun _ => 0))), (q5, .inl (cI, 42, .inl (fun _ => 0))), (q6, .inl (cI, 42, .inl (fun _ => 0))), (q7, .inl (cI, 42, .inl (fun _ => 0))), (q8, .inl (cI, 84, .inl (fun _ => 0))), (q9, .inl (cZ, 2, .inl (fun _ => 0))), (q10, .inl (cI, 1008, .inl (fun _ => 0))), (q11, .inl (cI, 16, .inl (fun _ => 0))), (q12, .inl (cI, 12, .inl (fun _ => 0))), (q13, .inl (cI, 71, .inl (fun _ => 0)))]) := hD
  refine lv_iinc (v := 1) (lv' := [(1, .int 1), (0, .ref o_b)]) hx hb dX5_init_124 hl (k := 0) rfl (by decide) (by decide) rfl (fun ls hl => ?_)
  refine lv_goto (tgt := 111) hx hb dX5_init_127 (by decide) ?_
  refine lv_iload_n hx hb dX5_init_111 rfl (lv_at hl 0 rfl) ?_
  refine lv_bipush (v := 8) hx hb dX5_init_112 (by decide) ?_
  refine lv_icmp_ge (tgt := 130) hx hb dX5_init_114 (by decide) (fun hc => absurd hc (by decide)) (fun _ => ?_)
  refine lv_aload_n hx hb dX5_init_117 rfl (lv_at hl 1 rfl) ?_
  refine va_get (D := (dC, dI)) (ci := 5) (v := .ref q1) (C := RX5) (T := TX5) (N := 23) hx hb hts hi_X5 hown hK hP 0 rfl rfl 0 (by decide) kw4 (fun _ h9 => h9) rfl dX5_init_118 ?_
  refine lv_iload_n hx hb dX5_init_121 rfl (lv_at hl 0 rfl) ?_
  refine lv_iconst (v := (-1)) hx hb dX5_init_122 (by decide) ?_
  refine va_iast hx hb hK hP hD hS 1 0 rfl rfl (by unfold vp_in; decide) dX5_init_123 (fun H locs hP hD hS => ?_)
  replace hP : va_P (dC, dI) vwCl ([(o_b, .inr (5, [.ref q1, .ref q2, .ref q3, .int 0, .int 0, .ref q4, .int 0, .int 0, .int 0, .int 0, .int 0, .int 0, .ref q5, .ref q6, .ref q7, .ref q8, .ref q9, .ref q10, .int 0, .ref q11, .int 0, .ref q12, .ref q13])), (q1, .inl (cI, 8, .inl (upd (upd (fun _ => 0) 0 (-1)) 1 (-1)))), (q2, .inl (cI, 8, .inl (fun _ => 0))), (q3, .inl (cI, 320, .inl (fun _ => 0))), (q4, .inl (cI, 100, .inl (fun _ => 0))), (q5, .inl (cI, 42, .inl (fun _ => 0))), (q6, .inl (cI, 42, .inl (fun _ => 0))), (q7, .inl (cI, 42, .inl (fun _ => 0))), (q8, .inl (cI, 84, .inl (fun _ => 0))), (q9, .inl (cZ, 2, .inl (fun _ => 0))), (q10, .inl (cI, 1008, .inl (fun _ => 0))), (q11, .inl (cI, 16, .inl (fun _ => 0))), (q12, .inl (cI, 12, .inl (fun _ => 0))), (q13, .inl (cI, 71, .inl (fun _ => 0)))]) H := hP
  replace hD : va_D A ([(o_b, .inr (5, [.ref q1, .ref q2, .ref q3, .int 0, .int 0, .ref q4, .int 0, .int 0, .int 0, .int 0, .int 0, .int 0, .ref q5, .ref q6, .ref q7, .ref q8, .ref q9, .ref q10, .int 0, .ref q11, .int 0, .ref q12, .ref q13])), (q1, .inl (cI, 8, .inl (upd (upd (fun _ => 0) 0 (-1)) 1 (-1)))), (q2, .inl (cI, 8, .inl (fun _ => 0))), (q3, .inl (cI, 320, .inl (fun _ => 0))), (q4, .inl (cI, 100, .inl (fun _ => 0))), (q5, .inl (cI, 42, .inl (fun _ => 0))), (q6, .inl (cI, 42, .inl (fun _ => 0))), (q7, .inl (cI, 42, .inl (fun _ => 0))), (q8, .inl (cI, 84, .inl (fun _ => 0))), (q9, .inl (cZ, 2, .inl (fun _ => 0))), (q10, .inl (cI, 1008, .inl (fun _ => 0))), (q11, .inl (cI, 16, .inl (fun _ => 0))), (q12, .inl (cI, 12, .inl (fun _ => 0))), (q13, .inl (cI, 71, .inl (fun _ => 0)))]) := hD
  refine lv_iinc (v := 2) (lv' := [(1, .int 2), (0, .ref o_b)]) hx hb dX5_init_124 hl (k := 0) rfl (by decide) (by decide) rfl (fun ls hl => ?_)
  refine lv_goto (tgt := 111) hx hb dX5_init_127 (by decide) ?_
  refine lv_iload_n hx hb dX5_init_111 rfl (lv_at hl 0 rfl) ?_
  refine lv_bipush (v := 8) hx hb dX5_init_112 (by decide) ?_
  refine lv_icmp_ge (tgt := 130) hx hb dX5_init_114 (by decide) (fun hc => absurd hc (by decide)) (fun _ => ?_)
  refine lv_aload_n hx hb dX5_init_117 rfl (lv_at hl 1 rfl) ?_
  refine va_get (D := (dC, dI)) (ci := 5) (v := .ref q1) (C := RX5) (T := TX5) (N := 23) hx hb hts hi_X5 hown hK hP 0 rfl rfl 0 (by decide) kw4 (fun _ h9 => h9) rfl dX5_init_118 ?_
  refine lv_iload_n hx hb dX5_init_121 rfl (lv_at hl 0 rfl) ?_
  refine lv_iconst (v := (-1)) hx hb dX5_init_122 (by decide) ?_
  refine va_iast hx hb hK hP hD hS 1 0 rfl rfl (by unfold vp_in; decide) dX5_init_123 (fun H locs hP hD hS => ?_)
  replace hP : va_P (dC, dI) vwCl ([(o_b, .inr (5, [.ref q1, .ref q2, .ref q3, .int 0, .int 0, .ref q4, .int 0, .int 0, .int 0, .int 0, .int 0, .int 0, .ref q5, .ref q6, .ref q7, .ref q8, .ref q9, .ref q10, .int 0, .ref q11, .int 0, .ref q12, .ref q13])), (q1, .inl (cI, 8, .inl (upd (upd (upd (fun _ => 0) 0 (-1)) 1 (-1)) 2 (-1)))), (q2, .inl (cI, 8, .inl (fun _ => 0))), (q3, .inl (cI, 320, .inl (fun _ => 0))), (q4, .inl (cI, 100, .inl (fun _ => 0))), (q5, .inl (cI, 42, .inl (fun _ => 0))), (q6, .inl (cI, 42, .inl (fun _ => 0))), (q7, .inl (cI, 42, .inl (fun _ => 0))), (q8, .inl (cI, 84, .inl (fun _ => 0))), (q9, .inl (cZ, 2, .inl (fun _ => 0))), (q10, .inl (cI, 1008, .inl (fun _ => 0))), (q11, .inl (cI, 16, .inl (fun _ => 0))), (q12, .inl (cI, 12, .inl (fun _ => 0))), (q13, .inl (cI, 71, .inl (fun _ => 0)))]) H := hP
  replace hD : va_D A ([(o_b, .inr (5, [.ref q1, .ref q2, .ref q3, .int 0, .int 0, .ref q4, .int 0, .int 0, .int 0, .int 0, .int 0, .int 0, .ref q5, .ref q6, .ref q7, .ref q8, .ref q9, .ref q10, .int 0, .ref q11, .int 0, .ref q12, .ref q13])), (q1, .inl (cI, 8, .inl (upd (upd (upd (fun _ => 0) 0 (-1)) 1 (-1)) 2 (-1)))), (q2, .inl (cI, 8, .inl (fun _ => 0))), (q3, .inl (cI, 320, .inl (fun _ => 0))), (q4, .inl (cI, 100, .inl (fun _ => 0))), (q5, .inl (cI, 42, .inl (fun _ => 0))), (q6, .inl (cI, 42, .inl (fun _ => 0))), (q7, .inl (cI, 42, .inl (fun _ => 0))), (q8, .inl (cI, 84, .inl (fun _ => 0))), (q9, .inl (cZ, 2, .inl (fun _ => 0))), (q10, .inl (cI, 1008, .inl (fun _ => 0))), (q11, .inl (cI, 16, .inl (fun _ => 0))), (q12, .inl (cI, 12, .inl (fun _ => 0))), (q13, .inl (cI, 71, .inl (fun _ => 0)))]) := hD
  refine lv_iinc (v := 3) (lv' := [(1, .int 3), (0, .ref o_b)]) hx hb dX5_init_124 hl (k := 0) rfl (by decide) (by decide) rfl (fun ls hl => ?_)
  refine lv_goto (tgt := 111) hx hb dX5_init_127 (by decide) ?_
  refine lv_iload_n hx hb dX5_init_111 rfl (lv_at hl 0 rfl) ?_
  refine lv_bipush (v := 8) hx hb dX5_init_112 (by decide) ?_
  refine lv_icmp_ge (tgt := 130) hx hb dX5_init_114 (by decide) (fun hc => absurd hc (by decide)) (fun _ => ?_)
  refine lv_aload_n hx hb dX5_init_117 rfl (lv_at hl 1 rfl) ?_
  refine va_get (D := (dC, dI)) (ci := 5) (v := .ref q1) (C := RX5) (T := TX5) (N := 23) hx hb hts hi_X5 hown hK hP 0 rfl rfl 0 (by decide) kw4 (fun _ h9 => h9) rfl dX5_init_118 ?_
  refine lv_iload_n hx hb dX5_init_121 rfl (lv_at hl 0 rfl) ?_
  refine lv_iconst (v := (-1)) hx hb dX5_init_122 (by decide) ?_
  refine va_iast hx hb hK hP hD hS 1 0 rfl rfl (by unfold vp_in; decide) dX5_init_123 (fun H locs hP hD hS => ?_)
  replace hP : va_P (dC, dI) vwCl ([(o_b, .inr (5, [.ref q1, .ref q2, .ref q3, .int 0, .int 0, .ref q4, .int 0, .int 0, .int 0, .int 0, .int 0, .int 0, .ref q5, .ref q6, .ref q7, .ref q8, .ref q9, .ref q10, .int 0, .ref q11, .int 0, .ref q12, .ref q13])), (q1, .inl (cI, 8, .inl (upd (upd (upd (upd (fun _ => 0) 0 (-1)) 1 (-1)) 2 (-1)) 3 (-1)))), (q2, .inl (cI, 8, .inl (fun _ => 0))), (q3, .inl (cI, 320, .inl (fun _ => 0))), (q4, .inl (cI, 100, .inl (fun _ => 0))), (q5, .inl (cI, 42, .inl (fun _ => 0))), (q6, .inl (cI, 42, .inl (fun _ => 0))), (q7, .inl (cI, 42, .inl (fun _ => 0))), (q8, .inl (cI, 84, .inl (fun _ => 0))), (q9, .inl (cZ, 2, .inl (fun _ => 0))), (q10, .inl (cI, 1008, .inl (fun _ => 0))), (q11, .inl (cI, 16, .inl (fun _ => 0))), (q12, .inl (cI, 12, .inl (fun _ => 0))), (q13, .inl (cI, 71, .inl (fun _ => 0)))]) H := hP
  replace hD : va_D A ([(o_b, .inr (5, [.ref q1, .ref q2, .ref q3, .int 0, .int 0, .ref q4, .int 0, .int 0, .int 0, .int 0, .int 0, .int 0, .ref q5, .ref q6, .ref q7, .ref q8, .ref q9, .ref q10, .int 0, .ref q11, .int 0, .ref q12, .ref q13])), (q1, .inl (cI, 8, .inl (upd (upd (upd (upd (fun _ => 0) 0 (-1)) 1 (-1)) 2 (-1)) 3 (-1)))), (q2, .inl (cI, 8, .inl (fun _ => 0))), (q3, .inl (cI, 320, .inl (fun _ => 0))), (q4, .inl (cI, 100, .inl (fun _ => 0))), (q5, .inl (cI, 42, .inl (fun _ => 0))), (q6, .inl (cI, 42, .inl (fun _ => 0))), (q7, .inl (cI, 42, .inl (fun _ => 0))), (q8, .inl (cI, 84, .inl (fun _ => 0))), (q9, .inl (cZ, 2, .inl (fun _ => 0))), (q10, .inl (cI, 1008, .inl (fun _ => 0))), (q11, .inl (cI, 16, .inl (fun _ => 0))), (q12, .inl (cI, 12, .inl (fun _ => 0))), (q13, .inl (cI, 71, .inl (fun _ => 0)))]) := hD
  refine lv_iinc (v := 4) (lv' := [(1, .int 4), (0, .ref o_b)]) hx hb dX5_init_124 hl (k := 0) rfl (by decide) (by decide) rfl (fun ls hl => ?_)
  refine lv_goto (tgt := 111) hx hb dX5_init_127 (by decide) ?_
  refine lv_iload_n hx hb dX5_init_111 rfl (lv_at hl 0 rfl) ?_
  refine lv_bipush (v := 8) hx hb dX5_init_112 (by decide) ?_
  refine lv_icmp_ge (tgt := 130) hx hb dX5_init_114 (by decide) (fun hc => absurd hc (by decide)) (fun _ => ?_)
  refine lv_aload_n hx hb dX5_init_117 rfl (lv_at hl 1 rfl) ?_
  refine va_get (D := (dC, dI)) (ci := 5) (v := .ref q1) (C := RX5) (T := TX5) (N := 23) hx hb hts hi_X5 hown hK hP 0 rfl rfl 0 (by decide) kw4 (fun _ h9 => h9) rfl dX5_init_118 ?_
  refine lv_iload_n hx hb dX5_init_121 rfl (lv_at hl 0 rfl) ?_
  refine lv_iconst (v := (-1)) hx hb dX5_init_122 (by decide) ?_
  refine va_iast hx hb hK hP hD hS 1 0 rfl rfl (by unfold vp_in; decide) dX5_init_123 (fun H locs hP hD hS => ?_)
  replace hP : va_P (dC, dI) vwCl ([(o_b, .inr (5, [.ref q1, .ref q2, .ref q3, .int 0, .int 0, .ref q4, .int 0, .int 0, .int 0, .int 0, .int 0, .int 0, .ref q5, .ref q6, .ref q7, .ref q8, .ref q9, .ref q10, .int 0, .ref q11, .int 0, .ref q12, .ref q13])), (q1, .inl (cI, 8, .inl (upd (upd (upd (upd (upd (fun _ => 0) 0 (-1)) 1 (-1)) 2 (-1)) 3 (-1)) 4 (-1)))), (q2, .inl (cI, 8, .inl (fun _ => 0))), (q3, .inl (cI, 320, .inl (fun _ => 0))), (q4, .inl (cI, 100, .inl (fun _ => 0))), (q5, .inl (cI, 42, .inl (fun _ => 0))), (q6, .inl (cI, 42, .inl (fun _ => 0))), (q7, .inl (cI, 42, .inl (fun _ => 0))), (q8, .inl (cI, 84, .inl (fun _ => 0))), (q9, .inl (cZ, 2, .inl (fun _ => 0))), (q10, .inl (cI, 1008, .inl (fun _ => 0))), (q11, .inl (cI, 16, .inl (fun _ => 0))), (q12, .inl (cI, 12, .inl (fun _ => 0))), (q13, .inl (cI, 71, .inl (fun _ => 0)))]) H := hP
  replace hD : va_D A ([(o_b, .inr (5, [.ref q1, .ref q2, .ref q3, .int 0, .int 0, .ref q4, .int 0, .int 0, .int 0, .int 0, .int 0, .int 0, .ref q5, .ref q6, .ref q7, .ref q8, .ref q9, .ref q10, .int 0, .ref q11, .int 0, .ref q12, .ref q13])), (q1, .inl (cI, 8, .inl (upd (upd (upd (upd (upd (fun _ => 0) 0 (-1)) 1 (-1)) 2 (-1)) 3 (-1)) 4 (-1)))), (q2, .inl (cI, 8, .inl (fun _ => 0))), (q3, .inl (cI, 320, .inl (fun _ => 0))), (q4, .inl (cI, 100, .inl (fun _ => 0))), (q5, .inl (cI, 42, .inl (fun _ => 0))), (q6, .inl (cI, 42, .inl (fun _ => 0))), (q7, .inl (cI, 42, .inl (fun _ => 0))), (q8, .inl (cI, 84, .inl (fun _ => 0))), (q9, .inl (cZ, 2, .inl (fun _ => 0))), (q10, .inl (cI, 1008, .inl (fun _ => 0))), (q11, .inl (cI, 16, .inl (fun _ => 0))), (q12, .inl (cI, 12, .inl (fun _ => 0))), (q13, .inl (cI, 71, .inl (fun _ => 0)))]) := hD
  refine lv_iinc (v := 5) (lv' := [(1, .int 5), (0, .ref o_b)]) hx hb dX5_init_124 hl (k := 0) rfl (by decide) (by decide) rfl (fun ls hl => ?_)
  refine lv_goto (tgt := 111) hx hb dX5_init_127 (by decide) ?_
  refine lv_iload_n hx hb dX5_init_111 rfl (lv_at hl 0 rfl) ?_
  refine lv_bipush (v := 8) hx hb dX5_init_112 (by decide) ?_
  refine lv_icmp_ge (tgt := 130) hx hb dX5_init_114 (by decide) (fun hc => absurd hc (by decide)) (fun _ => ?_)
  refine lv_aload_n hx hb dX5_init_117 rfl (lv_at hl 1 rfl) ?_
  refine va_get (D := (dC, dI)) (ci := 5) (v := .ref q1) (C := RX5) (T := TX5) (N := 23) hx hb hts hi_X5 hown hK hP 0 rfl rfl 0 (by decide) kw4 (fun _ h9 => h9) rfl dX5_init_118 ?_
  refine lv_iload_n hx hb dX5_init_121 rfl (lv_at hl 0 rfl) ?_
  refine lv_iconst (v := (-1)) hx hb dX5_init_122 (by decide) ?_
  refine va_iast hx hb hK hP hD hS 1 0 rfl rfl (by unfold vp_in; decide) dX5_init_123 (fun H locs hP hD hS => ?_)
  replace hP : va_P (dC, dI) vwCl ([(o_b, .inr (5, [.ref q1, .ref q2, .ref q3, .int 0, .int 0, .ref q4, .int 0, .int 0, .int 0, .int 0, .int 0, .int 0, .ref q5, .ref q6, .ref q7, .ref q8, .ref q9, .ref q10, .int 0, .ref q11, .int 0, .ref q12, .ref q13])), (q1, .inl (cI, 8, .inl (upd (upd (upd (upd (upd (upd (fun _ => 0) 0 (-1)) 1 (-1)) 2 (-1)) 3 (-1)) 4 (-1)) 5 (-1)))), (q2, .inl (cI, 8, .inl (fun _ => 0))), (q3, .inl (cI, 320, .inl (fun _ => 0))), (q4, .inl (cI, 100, .inl (fun _ => 0))), (q5, .inl (cI, 42, .inl (fun _ => 0))), (q6, .inl (cI, 42, .inl (fun _ => 0))), (q7, .inl (cI, 42, .inl (fun _ => 0))), (q8, .inl (cI, 84, .inl (fun _ => 0))), (q9, .inl (cZ, 2, .inl (fun _ => 0))), (q10, .inl (cI, 1008, .inl (fun _ => 0))), (q11, .inl (cI, 16, .inl (fun _ => 0))), (q12, .inl (cI, 12, .inl (fun _ => 0))), (q13, .inl (cI, 71, .inl (fun _ => 0)))]) H := hP
  replace hD : va_D A ([(o_b, .inr (5, [.ref q1, .ref q2, .ref q3, .int 0, .int 0, .ref q4, .int 0, .int 0, .int 0, .int 0, .int 0, .int 0, .ref q5, .ref q6, .ref q7, .ref q8, .ref q9, .ref q10, .int 0, .ref q11, .int 0, .ref q12, .ref q13])), (q1, .inl (cI, 8, .inl (upd (upd (upd (upd (upd (upd (fun _ => 0) 0 (-1)) 1 (-1)) 2 (-1)) 3 (-1)) 4 (-1)) 5 (-1)))), (q2, .inl (cI, 8, .inl (fun _ => 0))), (q3, .inl (cI, 320, .inl (fun _ => 0))), (q4, .inl (cI, 100, .inl (fun _ => 0))), (q5, .inl (cI, 42, .inl (fun _ => 0))), (q6, .inl (cI, 42, .inl (fun _ => 0))), (q7, .inl (cI, 42, .inl (fun _ => 0))), (q8, .inl (cI, 84, .inl (fun _ => 0))), (q9, .inl (cZ, 2, .inl (fun _ => 0))), (q10, .inl (cI, 1008, .inl (fun _ => 0))), (q11, .inl (cI, 16, .inl (fun _ => 0))), (q12, .inl (cI, 12, .inl (fun _ => 0))), (q13, .inl (cI, 71, .inl (fun _ => 0)))]) := hD
  refine lv_iinc (v := 6) (lv' := [(1, .int 6), (0, .ref o_b)]) hx hb dX5_init_124 hl (k := 0) rfl (by decide) (by decide) rfl (fun ls hl => ?_)
  refine lv_goto (tgt := 111) hx hb dX5_init_127 (by decide) ?_
  refine lv_iload_n hx hb dX5_init_111 rfl (lv_at hl 0 rfl) ?_
  refine lv_bipush (v := 8) hx hb dX5_init_112 (by decide) ?_
  refine lv_icmp_ge (tgt := 130) hx hb dX5_init_114 (by decide) (fun hc => absurd hc (by decide)) (fun _ => ?_)
  refine lv_aload_n hx hb dX5_init_117 rfl (lv_at hl 1 rfl) ?_
  refine va_get (D := (dC, dI)) (ci := 5) (v := .ref q1) (C := RX5) (T := TX5) (N := 23) hx hb hts hi_X5 hown hK hP 0 rfl rfl 0 (by decide) kw4 (fun _ h9 => h9) rfl dX5_init_118 ?_
  refine lv_iload_n hx hb dX5_init_121 rfl (lv_at hl 0 rfl) ?_
  refine lv_iconst (v := (-1)) hx hb dX5_init_122 (by decide) ?_
  refine va_iast hx hb hK hP hD hS 1 0 rfl rfl (by unfold vp_in; decide) dX5_init_123 (fun H locs hP hD hS => ?_)
  replace hP : va_P (dC, dI) vwCl ([(o_b, .inr (5, [.ref q1, .ref q2, .ref q3, .int 0, .int 0, .ref q4, .int 0, .int 0, .int 0, .int 0, .int 0, .int 0, .ref q5, .ref q6, .ref q7, .ref q8, .ref q9, .ref q10, .int 0, .ref q11, .int 0, .ref q12, .ref q13])), (q1, .inl (cI, 8, .inl (upd (upd (upd (upd (upd (upd (upd (fun _ => 0) 0 (-1)) 1 (-1)) 2 (-1)) 3 (-1)) 4 (-1)) 5 (-1)) 6 (-1)))), (q2, .inl (cI, 8, .inl (fun _ => 0))), (q3, .inl (cI, 320, .inl (fun _ => 0))), (q4, .inl (cI, 100, .inl (fun _ => 0))), (q5, .inl (cI, 42, .inl (fun _ => 0))), (q6, .inl (cI, 42, .inl (fun _ => 0))), (q7, .inl (cI, 42, .inl (fun _ => 0))), (q8, .inl (cI, 84, .inl (fun _ => 0))), (q9, .inl (cZ, 2, .inl (fun _ => 0))), (q10, .inl (cI, 1008, .inl (fun _ => 0))), (q11, .inl (cI, 16, .inl (fun _ => 0))), (q12, .inl (cI, 12, .inl (fun _ => 0))), (q13, .inl (cI, 71, .inl (fun _ => 0)))]) H := hP
  replace hD : va_D A ([(o_b, .inr (5, [.ref q1, .ref q2, .ref q3, .int 0, .int 0, .ref q4, .int 0, .int 0, .int 0, .int 0, .int 0, .int 0, .ref q5, .ref q6, .ref q7, .ref q8, .ref q9, .ref q10, .int 0, .ref q11, .int 0, .ref q12, .ref q13])), (q1, .inl (cI, 8, .inl (upd (upd (upd (upd (upd (upd (upd (fun _ => 0) 0 (-1)) 1 (-1)) 2 (-1)) 3 (-1)) 4 (-1)) 5 (-1)) 6 (-1)))), (q2, .inl (cI, 8, .inl (fun _ => 0))), (q3, .inl (cI, 320, .inl (fun _ => 0))), (q4, .inl (cI, 100, .inl (fun _ => 0))), (q5, .inl (cI, 42, .inl (fun _ => 0))), (q6, .inl (cI, 42, .inl (fun _ => 0))), (q7, .inl (cI, 42, .inl (fun _ => 0))), (q8, .inl (cI, 84, .inl (fun _ => 0))), (q9, .inl (cZ, 2, .inl (fun _ => 0))), (q10, .inl (cI, 1008, .inl (fun _ => 0))), (q11, .inl (cI, 16, .inl (fun _ => 0))), (q12, .inl (cI, 12, .inl (fun _ => 0))), (q13, .inl (cI, 71, .inl (fun _ => 0)))]) := hD
  refine lv_iinc (v := 7) (lv' := [(1, .int 7), (0, .ref o_b)]) hx hb dX5_init_124 hl (k := 0) rfl (by decide) (by decide) rfl (fun ls hl => ?_)
  refine lv_goto (tgt := 111) hx hb dX5_init_127 (by decide) ?_
  refine lv_iload_n hx hb dX5_init_111 rfl (lv_at hl 0 rfl) ?_
  refine lv_bipush (v := 8) hx hb dX5_init_112 (by decide) ?_
  refine lv_icmp_ge (tgt := 130) hx hb dX5_init_114 (by decide) (fun hc => absurd hc (by decide)) (fun _ => ?_)
  refine lv_aload_n hx hb dX5_init_117 rfl (lv_at hl 1 rfl) ?_
  refine va_get (D := (dC, dI)) (ci := 5) (v := .ref q1) (C := RX5) (T := TX5) (N := 23) hx hb hts hi_X5 hown hK hP 0 rfl rfl 0 (by decide) kw4 (fun _ h9 => h9) rfl dX5_init_118 ?_
  refine lv_iload_n hx hb dX5_init_121 rfl (lv_at hl 0 rfl) ?_
  refine lv_iconst (v := (-1)) hx hb dX5_init_122 (by decide) ?_
  refine va_iast hx hb hK hP hD hS 1 0 rfl rfl (by unfold vp_in; decide) dX5_init_123 (fun H locs hP hD hS => ?_)
  replace hP : va_P (dC, dI) vwCl ([(o_b, .inr (5, [.ref q1, .ref q2, .ref q3, .int 0, .int 0, .ref q4, .int 0, .int 0, .int 0, .int 0, .int 0, .int 0, .ref q5, .ref q6, .ref q7, .ref q8, .ref q9, .ref q10, .int 0, .ref q11, .int 0, .ref q12, .ref q13])), (q1, .inl (cI, 8, .inl (upd (upd (upd (upd (upd (upd (upd (upd (fun _ => 0) 0 (-1)) 1 (-1)) 2 (-1)) 3 (-1)) 4 (-1)) 5 (-1)) 6 (-1)) 7 (-1)))), (q2, .inl (cI, 8, .inl (fun _ => 0))), (q3, .inl (cI, 320, .inl (fun _ => 0))), (q4, .inl (cI, 100, .inl (fun _ => 0))), (q5, .inl (cI, 42, .inl (fun _ => 0))), (q6, .inl (cI, 42, .inl (fun _ => 0))), (q7, .inl (cI, 42, .inl (fun _ => 0))), (q8, .inl (cI, 84, .inl (fun _ => 0))), (q9, .inl (cZ, 2, .inl (fun _ => 0))), (q10, .inl (cI, 1008, .inl (fun _ => 0))), (q11, .inl (cI, 16, .inl (fun _ => 0))), (q12, .inl (cI, 12, .inl (fun _ => 0))), (q13, .inl (cI, 71, .inl (fun _ => 0)))]) H := hP
  replace hD : va_D A ([(o_b, .inr (5, [.ref q1, .ref q2, .ref q3, .int 0, .int 0, .ref q4, .int 0, .int 0, .int 0, .int 0, .int 0, .int 0, .ref q5, .ref q6, .ref q7, .ref q8, .ref q9, .ref q10, .int 0, .ref q11, .int 0, .ref q12, .ref q13])), (q1, .inl (cI, 8, .inl (upd (upd (upd (upd (upd (upd (upd (upd (fun _ => 0) 0 (-1)) 1 (-1)) 2 (-1)) 3 (-1)) 4 (-1)) 5 (-1)) 6 (-1)) 7 (-1)))), (q2, .inl (cI, 8, .inl (fun _ => 0))), (q3, .inl (cI, 320, .inl (fun _ => 0))), (q4, .inl (cI, 100, .inl (fun _ => 0))), (q5, .inl (cI, 42, .inl (fun _ => 0))), (q6, .inl (cI, 42, .inl (fun _ => 0))), (q7, .inl (cI, 42, .inl (fun _ => 0))), (q8, .inl (cI, 84, .inl (fun _ => 0))), (q9, .inl (cZ, 2, .inl (fun _ => 0))), (q10, .inl (cI, 1008, .inl (fun _ => 0))), (q11, .inl (cI, 16, .inl (fun _ => 0))), (q12, .inl (cI, 12, .inl (fun _ => 0))), (q13, .inl (cI, 71, .inl (fun _ => 0)))]) := hD
  refine lv_iinc (v := 8) (lv' := [(1, .int 8), (0, .ref o_b)]) hx hb dX5_init_124 hl (k := 0) rfl (by decide) (by decide) rfl (fun ls hl => ?_)
  refine lv_goto (tgt := 111) hx hb dX5_init_127 (by decide) ?_
  refine lv_iload_n hx hb dX5_init_111 rfl (lv_at hl 0 rfl) ?_
  refine lv_bipush (v := 8) hx hb dX5_init_112 (by decide) ?_
  refine lv_icmp_ge (tgt := 130) hx hb dX5_init_114 (by decide) (fun _ => ?_) (fun hc => absurd hc (by decide))
  exact ob_vretE (w' := fun a => (ob_w5 o_b a cI cZ ob_zm)) (fun j : Nat => if j = 0 then q1 else if j = 1 then q2 else if j = 2 then q3 else if j = 5 then q4 else if j = 12 then q5 else if j = 13 then q6 else if j = 14 then q7 else if j = 15 then q8 else if j = 16 then q9 else if j = 17 then q10 else if j = 19 then q11 else if j = 21 then q12 else if j = 22 then q13 else 0) hx hb hr hlocks trivial (ob_sub (wc := (ob_w5 o_b (fun j : Nat => if j = 0 then q1 else if j = 1 then q2 else if j = 2 then q3 else if j = 5 then q4 else if j = 12 then q5 else if j = 13 then q6 else if j = 14 then q7 else if j = 15 then q8 else if j = 16 then q9 else if j = 17 then q10 else if j = 19 then q11 else if j = 21 then q12 else if j = 22 then q13 else 0) cI cZ ob_zm)) (isC := [0, 1, 2, 3, 4, 5, 6, 7, 8, 9, 10, 11, 12, 13]) hP rfl) (hD.sub [0, 1, 2, 3, 4, 5, 6, 7, 8, 9, 10, 11, 12, 13] rfl rfl) hS dX5_init_130
