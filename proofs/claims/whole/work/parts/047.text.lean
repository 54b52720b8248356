def fd_J0_coder_7d493    : Option (Int32) := some (0)
set_option maxHeartbeats 4000000 in
set_option maxRecDepth 100000 in
theorem mt_J0_coder_7d493 (l : Launch) (dC : Nat → ClassId) (dI : Nat → Nat → Nat) (cI cZ cR cW : ClassId) (xs : Nat → Nat) (sz : Nat)     (rr : Int32) (hd : fd_J0_coder_7d493  = some (rr)) : ob_M l yJ0_coder_7d493 wsJ0_coder_7d493 ({ frames := 0, cells := 0, slots := 0, locals := 0 } : Room) (dC, dI) (ob_ty cI cZ cR cW) xs [.ref (xs 3)] ([] : va_W) sz (ob_Qi (dC, dI) rr ([] : va_W)) := by
  rw [fd_J0_coder_7d493] at hd
  refine ob_in (cc := cJ0_coder_7d493) (maxL := 1) (ret := (some .byte)) (own := RJ0) (by decide) rfl rfl [(0, .ref (xs 3))] rfl (Nat.le_of_ble_eq_true rfl) ?_
  intro p e s m below meth c hx hb hr hml hown hts hlocks hnm hK A hA hE hP hD hS ls hl
  have kw0 := hts (.fieldLink RJ0 38 "java/lang/String" "COMPACT_STRINGS" "Z") (by decide +kernel)
  have kw1 := hts (.fieldLink RJ0 15 "java/lang/String" "coder" "B") (by decide +kernel)
  obtain ⟨hE1, hE2, hE3, hE4, hE5, hE6, hE7, hE8, hE9, -⟩ := id hE
  have hET : va_T .byte (xs 4) 5 (fun j => .int (([111, 109, 108, 102, 118] : List Int32).getD j 0)) A s s.heap := (hE8.1 0 (by decide)).2.2.2
  refine va_gets hx hb hE9 hS hown kw0 (fun _ h9 => h9) dJ0_coder_7d493_0 ?_
  refine lv_if_eq (tgt := 13) hx hb dJ0_coder_7d493_3 (by decide) (fun hc => absurd hc (by decide)) (fun _ => ?_)
  refine lv_aload_n hx hb dJ0_coder_7d493_6 rfl (lv_at hl 0 rfl) ?_
  refine vk_getf (v := .int 0) hx hb (hE8.1 0 (by decide)).2.1 hS hown kw1 (fun _ h9 => h9) dJ0_coder_7d493_7 ?_
  refine lv_goto (tgt := 14) hx hb dJ0_coder_7d493_10 (by decide) ?_
  have e1 := Option.some.inj hd
  subst e1
  exact ob_zret hx hb hr hlocks (by decide) hP hD hS dJ0_coder_7d493_14

def fd_J0_isLatin1_aae02    : Option (Int32) := some (1)
set_option maxHeartbeats 4000000 in
set_option maxRecDepth 100000 in
theorem mt_J0_isLatin1_aae02 (l : Launch) (dC : Nat → ClassId) (dI : Nat → Nat → Nat) (cI cZ cR cW : ClassId) (xs : Nat → Nat) (sz : Nat)     (rr : Int32) (hd : fd_J0_isLatin1_aae02  = some (rr)) : ob_M l yJ0_isLatin1_aae02 wsJ0_isLatin1_aae02 ({ frames := 0, cells := 0, slots := 0, locals := 0 } : Room) (dC, dI) (ob_ty cI cZ cR cW) xs [.ref (xs 3)] ([] : va_W) sz (ob_Qi (dC, dI) rr ([] : va_W)) := by
  rw [fd_J0_isLatin1_aae02] at hd
  refine ob_in (cc := cJ0_isLatin1_aae02) (maxL := 1) (ret := (some .boolean)) (own := RJ0) (by decide) rfl rfl [(0, .ref (xs 3))] rfl (Nat.le_of_ble_eq_true rfl) ?_
  intro p e s m below meth c hx hb hr hml hown hts hlocks hnm hK A hA hE hP hD hS ls hl
  have kw0 := hts (.fieldLink RJ0 38 "java/lang/String" "COMPACT_STRINGS" "Z") (by decide +kernel)
  have kw1 := hts (.fieldLink RJ0 15 "java/lang/String" "coder" "B") (by decide +kernel)
  obtain ⟨hE1, hE2, hE3, hE4, hE5, hE6, hE7, hE8, hE9, -⟩ := id hE
  have hET : va_T .byte (xs 4) 5 (fun j => .int (([111, 109, 108, 102, 118] : List Int32).getD j 0)) A s s.heap := (hE8.1 0 (by decide)).2.2.2
  refine va_gets hx hb hE9 hS hown kw0 (fun _ h9 => h9) dJ0_isLatin1_aae02_0 ?_
  refine lv_if_eq (tgt := 17) hx hb dJ0_isLatin1_aae02_3 (by decide) (fun hc => absurd hc (by decide)) (fun _ => ?_)
  refine lv_aload_n hx hb dJ0_isLatin1_aae02_6 rfl (lv_at hl 0 rfl) ?_
  refine vk_getf (v := .int 0) hx hb (hE8.1 0 (by decide)).2.1 hS hown kw1 (fun _ h9 => h9) dJ0_isLatin1_aae02_7 ?_
  refine lv_if_ne (tgt := 17) hx hb dJ0_isLatin1_aae02_10 (by decide) (fun hc => absurd hc (by decide)) (fun _ => ?_)
  refine lv_iconst (v := 1) hx hb dJ0_isLatin1_aae02_13 (by decide) ?_
  refine lv_goto (tgt := 18) hx hb dJ0_isLatin1_aae02_14 (by decide) ?_
  have e1 := Option.some.inj hd
  subst e1
  exact ob_zret hx hb hr hlocks (by decide) hP hD hS dJ0_isLatin1_aae02_18

def fd_J0_length_8abf5    : Option (Int32) := ob_b1 (fd_J0_coder_7d493) (fun r_1 => some (5 >>> (r_1 &&& 31)))
set_option maxHeartbeats 4000000 in
set_option maxRecDepth 100000 in
theorem mt_J0_length_8abf5 (l : Launch) (dC : Nat → ClassId) (dI : Nat → Nat → Nat) (cI cZ cR cW : ClassId) (xs : Nat → Nat) (sz : Nat)     (rr : Int32) (hd : fd_J0_length_8abf5  = some (rr)) : ob_M l yJ0_length_8abf5 wsJ0_length_8abf5 ({ frames := 1, cells := 0, slots := 0, locals := 20 } : Room) (dC, dI) (ob_ty cI cZ cR cW) xs [.ref (xs 3)] ([] : va_W) sz (ob_Qi (dC, dI) rr ([] : va_W)) := by
  rw [fd_J0_length_8abf5] at hd
  refine ob_in (cc := cJ0_length_8abf5) (maxL := 1) (ret := (some .int)) (own := RJ0) (by decide) rfl rfl [(0, .ref (xs 3))] rfl (Nat.le_of_ble_eq_true rfl) ?_
  intro p e s m below meth c hx hb hr hml hown hts hlocks hnm hK A hA hE hP hD hS ls hl
  have kw0 := hts (.fieldLink RJ0 9 "java/lang/String" "value" "[B") (by decide +kernel)
  obtain ⟨hE1, hE2, hE3, hE4, hE5, hE6, hE7, hE8, hE9, -⟩ := id hE
  have hET : va_T .byte (xs 4) 5 (fun j => .int (([111, 109, 108, 102, 118] : List Int32).getD j 0)) A s s.heap := (hE8.1 0 (by decide)).2.2.2
  refine lv_aload_n hx hb dJ0_length_8abf5_0 rfl (lv_at hl 0 rfl) ?_
  refine vk_getf (v := .ref (xs 4)) hx hb (hE8.1 0 (by decide)).2.2.1 hS hown kw0 (fun _ h9 => h9) dJ0_length_8abf5_1 ?_
  refine va_tlen (v := 5) hx hb hET hS (by decide) dJ0_length_8abf5_4 ?_
  refine lv_aload_n hx hb dJ0_length_8abf5_5 rfl (lv_at hl 0 rfl) ?_
  obtain ⟨r_1, hc_6, hd⟩ := ob_s1 hd
  refine ob_Ui (b := xs 3) (As := []) (rest := [.int 5]) ⟨hx, hb, hml, hown, hts⟩ (mt_J0_coder_7d493 l dC dI cI cZ cR cW xs _  r_1 hc_6) (cwV 0 hts gJ0_length_8abf5_J0_coder_7d493 rfl rfl rfl (by decide +kernel) ⟨Nat.le_of_ble_eq_true rfl, Nat.le_of_ble_eq_true rfl⟩) hK hE hP hD hS hA (vk_recv (i := 0) (N := 1) (adK := fun _ => xs 3) hE8 (by decide) hS) hl rfl rfl (Nat.le_of_ble_eq_true rfl) ⟨Nat.le_of_ble_eq_true rfl, Nat.le_of_ble_eq_true rfl⟩ dJ0_length_8abf5_6 (fun H locs hP hD hS => ?_)
  refine W.widen (k := 0) (n := 0) (Nat.le_refl _) (Nat.le_refl _) ?_
  refine lv_ishr hx hb dJ0_length_8abf5_9 ?_
  have e1 := Option.some.inj hd
  subst e1
  exact ob_iret hx hb hr hlocks hP hD hS dJ0_length_8abf5_10

def fd_J1_canEncode_9a6ad   (x0 : Int32) : Option (Int32) := if x0 < 0 then (some (0)) else (if 255 < x0 then (some (0)) else (some (1)))
set_option maxHeartbeats 4000000 in
set_option maxRecDepth 100000 in
theorem mt_J1_canEncode_9a6ad (l : Launch) (dC : Nat → ClassId) (dI : Nat → Nat → Nat) (cI cZ cR cW : ClassId) (xs : Nat → Nat) (sz : Nat)   (x0 : Int32)  (rr : Int32) (hd : fd_J1_canEncode_9a6ad x0 = some (rr)) : ob_M l yJ1_canEncode_9a6ad wsJ1_canEncode_9a6ad ({ frames := 0, cells := 0, slots := 0, locals := 0 } : Room) (dC, dI) (ob_ty cI cZ cR cW) xs [.int x0] ([] : va_W) sz (ob_Qi (dC, dI) rr ([] : va_W)) := by
  rw [fd_J1_canEncode_9a6ad] at hd
  refine ob_in (cc := cJ1_canEncode_9a6ad) (maxL := 1) (ret := (some .boolean)) (own := RJ1) (by decide) rfl rfl [(0, .int x0)] rfl (Nat.le_of_ble_eq_true rfl) ?_
  intro p e s m below meth c hx hb hr hml hown hts hlocks hnm hK A hA hE hP hD hS ls hl
  refine lv_iload_n hx hb dJ1_canEncode_9a6ad_0 rfl (lv_at hl 0 rfl) ?_
  refine lv_if_lt (tgt := 15) hx hb dJ1_canEncode_9a6ad_1 (by decide) (fun c_1 => ?_) (fun c_1 => ?_)
  · replace hd := ob_t c_1 hd
    refine lv_iconst (v := 0) hx hb dJ1_canEncode_9a6ad_15 (by decide) ?_
    have e1 := Option.some.inj hd
    subst e1
    exact ob_zret hx hb hr hlocks (by decide) hP hD hS dJ1_canEncode_9a6ad_16
  · replace hd := ob_f c_1 hd
    refine lv_iload_n hx hb dJ1_canEncode_9a6ad_4 rfl (lv_at hl 0 rfl) ?_
    refine lv_sipush (v := 255) hx hb dJ1_canEncode_9a6ad_5 (by decide) ?_
    refine lv_icmp_gt (tgt := 15) hx hb dJ1_canEncode_9a6ad_8 (by decide) (fun c_8 => ?_) (fun c_8 => ?_)
    · replace hd := ob_t c_8 hd
      refine lv_iconst (v := 0) hx hb dJ1_canEncode_9a6ad_15 (by decide) ?_
      have e1 := Option.some.inj hd
      subst e1
      exact ob_zret hx hb hr hlocks (by decide) hP hD hS dJ1_canEncode_9a6ad_16
    · replace hd := ob_f c_8 hd
      refine lv_iconst (v := 1) hx hb dJ1_canEncode_9a6ad_11 (by decide) ?_
      refine lv_goto (tgt := 16) hx hb dJ1_canEncode_9a6ad_12 (by decide) ?_
      have e1 := Option.some.inj hd
      subst e1
      exact ob_zret hx hb hr hlocks (by decide) hP hD hS dJ1_canEncode_9a6ad_16

def fd_J1_indexOfChar_4cfef_L7  : Nat → Int32 → Int32 → Int32 → Option (Int32)
  | 0, _, _, _ => none
  | fu + 1, x3, z4, z5 => if x3 ≤ z5 then (some ((-1))) else (if z5 < 0 ∨ 5 ≤ Int32.toNatClampNeg z5 then none else (if (([111, 109, 108, 102, 118] : List Int32).getD (Int32.toNatClampNeg z5) 0) = z4 then (some (z5)) else (ob_lt (z5 + 1 : Int32) (fun x_2 => fd_J1_indexOfChar_4cfef_L7 fu x3 z4 x_2))))
def fd_J1_indexOfChar_4cfef   (x1 : Int32) (x2 : Int32) (x3 : Int32) : Option (Int32) := ob_lt (Int8.toInt32 (Int32.toInt8 x1) : Int32) (fun x_1 => fd_J1_indexOfChar_4cfef_L7 2000 x3 x_1 x2)
set_option maxHeartbeats 4000000 in
set_option maxRecDepth 100000 in
theorem mt_J1_indexOfChar_4cfef (l : Launch) (dC : Nat → ClassId) (dI : Nat → Nat → Nat) (cI cZ cR cW : ClassId) (xs : Nat → Nat) (sz : Nat)   (x1 : Int32) (x2 : Int32) (x3 : Int32)  (rr : Int32) (hd : fd_J1_indexOfChar_4cfef x1 x2 x3 = some (rr)) : ob_M l yJ1_indexOfChar_4cfef wsJ1_indexOfChar_4cfef ({ frames := 0, cells := 0, slots := 0, locals := 0 } : Room) (dC, dI) (ob_ty cI cZ cR cW) xs [.ref (xs 4), .int x1, .int x2, .int x3] ([] : va_W) sz (ob_Qi (dC, dI) rr ([] : va_W)) := by
  rw [fd_J1_indexOfChar_4cfef] at hd
  refine ob_in (cc := cJ1_indexOfChar_4cfef) (maxL := 6) (ret := (some .int)) (own := RJ1) (by decide) rfl rfl [(0, .ref (xs 4)), (1, .int x1), (2, .int x2), (3, .int x3)] rfl (Nat.le_of_ble_eq_true rfl) ?_
  intro p e s m below meth c hx hb hr hml hown hts hlocks hnm hK A hA hE hP hD hS ls hl
  obtain ⟨hE1, hE2, hE3, hE4, hE5, hE6, hE7, hE8, hE9, -⟩ := id hE
  have hET : va_T .byte (xs 4) 5 (fun j => .int (([111, 109, 108, 102, 118] : List Int32).getD j 0)) A s s.heap := (hE8.1 0 (by decide)).2.2.2
  have L7 : ∀  (fu : Nat), ∀ (H : Heap) (locs : List Loc)  (z4 : Int32) (z5 : Int32) (ls : Array Slot), va_P (dC, dI) vwCl ([] : va_W) H → va_D A ([] : va_W) → va_S A s.heap H locs → lv_has ls 6 [(0, .ref (xs 4)), (3, .int x3), (4, .int z4), (5, .int z5)] → fd_J1_indexOfChar_4cfef_L7 fu x3 z4 z5 = some (rr) → W p l e ({ frames := 0, cells := 0, slots := 0, locals := 0 } : Room) s m (List.toArray [.ref (xs 4), .int x1, .int x2, .int x3]) below meth c H locs 0 0 (MQ below ((ob_Qi (dC, dI) rr ([] : va_W)) A) (List.toArray [.ref (xs 4), .int x1, .int x2, .int x3]) s 0 0 A) (F0 m 7 ls []) := by
    intro  fu
    induction fu with
    | zero =>
      intro H locs z4 z5 ls hP hD hS hl hd
      rw [fd_J1_indexOfChar_4cfef_L7] at hd
      cases hd
    | succ fu ih =>
      intro H locs z4 z5 ls hP hD hS hl hd
      rw [fd_J1_indexOfChar_4cfef_L7] at hd
      refine lv_iload hx hb dJ1_indexOfChar_4cfef_7 (lv_at hl 3 rfl) ?_
      refine lv_iload_n hx hb dJ1_indexOfChar_4cfef_9 rfl (lv_at hl 1 rfl) ?_
      refine lv_icmp_ge (tgt := 31) hx hb dJ1_indexOfChar_4cfef_10 (by decide) (fun c_10 => ?_) (fun c_10 => ?_)
      · replace hd := ob_t c_10 hd
        refine lv_iconst (v := (-1)) hx hb dJ1_indexOfChar_4cfef_31 (by decide) ?_
        have e1 := Option.some.inj hd
        subst e1
        exact ob_iret hx hb hr hlocks hP hD hS dJ1_indexOfChar_4cfef_32
      · replace hd := ob_f c_10 hd
        refine lv_aload_n hx hb dJ1_indexOfChar_4cfef_13 rfl (lv_at hl 0 rfl) ?_
        refine lv_iload hx hb dJ1_indexOfChar_4cfef_14 (lv_at hl 3 rfl) ?_
        obtain ⟨h1_16, hd⟩ := ob_nn hd
        refine va_tb hx hb hET hS h1_16 rfl dJ1_indexOfChar_4cfef_16 ?_
        refine lv_iload hx hb dJ1_indexOfChar_4cfef_17 (lv_at hl 2 rfl) ?_
        refine lv_icmp_ne (tgt := 25) hx hb dJ1_indexOfChar_4cfef_19 (by decide) (fun c_19 => ?_) (fun c_19 => ?_)
        · replace hd := ob_f c_19 hd
          obtain ⟨x_2, ex_2⟩ : ∃ z : Int32, z = z5 + 1 := ⟨_, rfl⟩
          replace hd := ob_lx ex_2 hd
          refine lv_iinc (v := x_2) (lv' := [(5, .int x_2), (0, .ref (xs 4)), (3, .int x3), (4, .int z4)]) hx hb dJ1_indexOfChar_4cfef_25 hl (k := 3) rfl (by rw [ex_2]; rfl) (by decide) rfl (fun ls hl => ?_)
          clear ex_2
          refine lv_goto (tgt := 7) hx hb dJ1_indexOfChar_4cfef_28 (by decide) ?_
          exact ih _ _ z4 x_2 _ hP hD hS (lv_sub hl [1, 2, 3, 0] rfl) hd
        · replace hd := ob_t c_19 hd
          refine lv_iload hx hb dJ1_indexOfChar_4cfef_22 (lv_at hl 3 rfl) ?_
          have e1 := Option.some.inj hd
          subst e1
          exact ob_iret hx hb hr hlocks hP hD hS dJ1_indexOfChar_4cfef_24
  refine lv_iload_n hx hb dJ1_indexOfChar_4cfef_0 rfl (lv_at hl 1 rfl) ?_
  refine lv_i2b hx hb dJ1_indexOfChar_4cfef_1 rfl ?_
  refine lv_topi (fun x_1 ex_1 => ?_)
  replace hd := ob_lx ex_1 hd
  clear ex_1
  refine lv_istore (lv' := [(4, .int x_1), (0, .ref (xs 4)), (1, .int x1), (2, .int x2), (3, .int x3)]) hx hb dJ1_indexOfChar_4cfef_2 hl (by decide) rfl (fun ls hl => ?_)
  refine lv_iload_n hx hb dJ1_indexOfChar_4cfef_4 rfl (lv_at hl 3 rfl) ?_
  refine lv_istore (lv' := [(5, .int x2), (4, .int x_1), (0, .ref (xs 4)), (1, .int x1), (2, .int x2), (3, .int x3)]) hx hb dJ1_indexOfChar_4cfef_5 hl (by decide) rfl (fun ls hl => ?_)
  exact L7  2000 _ _ x_1 x2 _ hP hD hS (lv_sub hl [2, 5, 1, 0] rfl) hd

def fd_J1_indexOf_4cfef   (x1 : Int32) (x2 : Int32) (x3 : Int32) : Option (Int32) := ob_b1 (fd_J1_canEncode_9a6ad x1) (fun r_1 => if r_1 = 0 then (some ((-1))) else (ob_lt (if x2 < 0 then 0 else x2 : Int32) (fun x_2 => ob_lt (if 5 < x3 then 5 else x3 : Int32) (fun x_3 => if x_2 < x_3 then (ob_b1 (fd_J1_indexOfChar_4cfef x1 x_2 x_3) (fun r_4 => some (r_4))) else (some ((-1)))))))
set_option maxHeartbeats 4000000 in
set_option maxRecDepth 100000 in
theorem mt_J1_indexOf_4cfef (l : Launch) (dC : Nat → ClassId) (dI : Nat → Nat → Nat) (cI cZ cR cW : ClassId) (xs : Nat → Nat) (sz : Nat)   (x1 : Int32) (x2 : Int32) (x3 : Int32)  (rr : Int32) (hd : fd_J1_indexOf_4cfef x1 x2 x3 = some (rr)) : ob_M l yJ1_indexOf_4cfef wsJ1_indexOf_4cfef ({ frames := 1, cells := 0, slots := 0, locals := 25 } : Room) (dC, dI) (ob_ty cI cZ cR cW) xs [.ref (xs 4), .int x1, .int x2, .int x3] ([] : va_W) sz (ob_Qi (dC, dI) rr ([] : va_W)) := by
  rw [fd_J1_indexOf_4cfef] at hd
  refine ob_in (cc := cJ1_indexOf_4cfef) (maxL := 4) (ret := (some .int)) (own := RJ1) (by decide) rfl rfl [(0, .ref (xs 4)), (1, .int x1), (2, .int x2), (3, .int x3)] rfl (Nat.le_of_ble_eq_true rfl) ?_
  intro p e s m below meth c hx hb hr hml hown hts hlocks hnm hK A hA hE hP hD hS ls hl
  have kw0 := hts (.methodLink RJ1 92 Lib.Math.max.name) (by decide +kernel)
  have kw1 := hts (.static Lib.Math.max.name) (by decide +kernel)
  have kw2 := hts (.initialized "java/lang/Math") (by decide +kernel)
  have kw3 := hts (.code Lib.Math.max.name Lib.Math.max.code 2 (some .int)) (by decide +kernel)
  have kw4 := hts (.methodLink RJ1 38 Lib.Math.min.name) (by decide +kernel)
  have kw5 := hts (.static Lib.Math.min.name) (by decide +kernel)
  have kw6 := hts (.code Lib.Math.min.name Lib.Math.min.code 2 (some .int)) (by decide +kernel)
  obtain ⟨hE1, hE2, hE3, hE4, hE5, hE6, hE7, hE8, hE9, -⟩ := id hE
  have hET : va_T .byte (xs 4) 5 (fun j => .int (([111, 109, 108, 102, 118] : List Int32).getD j 0)) A s s.heap := (hE8.1 0 (by decide)).2.2.2
  refine lv_iload_n hx hb dJ1_indexOf_4cfef_0 rfl (lv_at hl 1 rfl) ?_
  obtain ⟨r_1, hc_1, hd⟩ := ob_s1 hd
  refine ob_Si (isC := []) (isR := []) (is2 := []) (wc := ([] : va_W)) (wr := ([] : va_W)) (w1 := ([] : va_W)) (w2 := ([] : va_W)) (As := [.int x1]) (rest := []) ⟨hx, hb, hml, hown, hts⟩ (mt_J1_canEncode_9a6ad l dC dI cI cZ cR cW xs _ x1 r_1 hc_1) (va_cwS 1 hts gJ1_indexOf_4cfef_J1_canEncode_9a6ad rfl rfl rfl (by decide +kernel) ⟨Nat.le_of_ble_eq_true rfl, Nat.le_of_ble_eq_true rfl⟩) hK hE hP hD hS hA ⟨rfl, rfl, rfl, rfl, rfl, rfl, rfl⟩ hl rfl rfl (Nat.le_of_ble_eq_true rfl) ⟨Nat.le_of_ble_eq_true rfl, Nat.le_of_ble_eq_true rfl⟩ dJ1_indexOf_4cfef_1 (fun H locs hP hD hS => ?_)
  refine W.widen (k := 0) (n := 0) (Nat.le_refl _) (Nat.le_refl _) ?_
  refine lv_if_ne (tgt := 9) hx hb dJ1_indexOf_4cfef_4 (by decide) (fun c_4 => ?_) (fun c_4 => ?_)
  · replace hd := ob_f c_4 hd
    refine lv_iload_n hx hb dJ1_indexOf_4cfef_9 rfl (lv_at hl 2 rfl) ?_
    refine lv_iconst (v := 0) hx hb dJ1_indexOf_4cfef_10 (by decide) ?_
    refine va_mmax hx hb (by rw [hml]; exact hl.1.symm) hown kw0 kw1 kw2 kw3 (Nat.le_of_ble_eq_true rfl) (Nat.le_of_ble_eq_true rfl) (Nat.le_refl _) (Nat.le_refl _) dJ1_indexOf_4cfef_11 ?_
    refine lv_topi (fun x_2 ex_2 => ?_)
    replace hd := ob_lx ex_2 hd
    clear ex_2
    refine lv_istore_n (lv' := [(2, .int x_2), (0, .ref (xs 4)), (1, .int x1), (3, .int x3)]) hx hb dJ1_indexOf_4cfef_14 rfl hl (by decide) rfl (fun ls hl => ?_)
    refine lv_iload_n hx hb dJ1_indexOf_4cfef_15 rfl (lv_at hl 3 rfl) ?_
    refine lv_aload_n hx hb dJ1_indexOf_4cfef_16 rfl (lv_at hl 1 rfl) ?_
    refine va_tlen (v := 5) hx hb hET hS (by decide) dJ1_indexOf_4cfef_17 ?_
    refine va_mmin hx hb (by rw [hml]; exact hl.1.symm) hown kw4 kw5 kw2 kw6 (Nat.le_of_ble_eq_true rfl) (Nat.le_of_ble_eq_true rfl) (Nat.le_refl _) (Nat.le_refl _) dJ1_indexOf_4cfef_18 ?_
    refine lv_topi (fun x_3 ex_3 => ?_)
    replace hd := ob_lx ex_3 hd
    clear ex_3
    refine lv_istore_n (lv' := [(3, .int x_3), (2, .int x_2), (0, .ref (xs 4)), (1, .int x1)]) hx hb dJ1_indexOf_4cfef_21 rfl hl (by decide) rfl (fun ls hl => ?_)
    refine lv_iload_n hx hb dJ1_indexOf_4cfef_22 rfl (lv_at hl 1 rfl) ?_
    refine lv_iload_n hx hb dJ1_indexOf_4cfef_23 rfl (lv_at hl 0 rfl) ?_
    refine lv_icmp_lt (tgt := 29) hx hb dJ1_indexOf_4cfef_24 (by decide) (fun c_24 => ?_) (fun c_24 => ?_)
    · replace hd := ob_t c_24 hd
      refine lv_aload_n hx hb dJ1_indexOf_4cfef_29 rfl (lv_at hl 2 rfl) ?_
      refine lv_iload_n hx hb dJ1_indexOf_4cfef_30 rfl (lv_at hl 3 rfl) ?_
      refine lv_iload_n hx hb dJ1_indexOf_4cfef_31 rfl (lv_at hl 1 rfl) ?_
      refine lv_iload_n hx hb dJ1_indexOf_4cfef_32 rfl (lv_at hl 0 rfl) ?_
      obtain ⟨r_4, hc_33, hd⟩ := ob_s1 hd
      refine ob_Si (isC := []) (isR := []) (is2 := []) (wc := ([] : va_W)) (wr := ([] : va_W)) (w1 := ([] : va_W)) (w2 := ([] : va_W)) (As := [.ref (xs 4), .int x1, .int x_2, .int x_3]) (rest := []) ⟨hx, hb, hml, hown, hts⟩ (mt_J1_indexOfChar_4cfef l dC dI cI cZ cR cW xs _ x1 x_2 x_3 r_4 hc_33) (va_cwS 4 hts gJ1_indexOf_4cfef_J1_indexOfChar_4cfef rfl rfl rfl (by decide +kernel) ⟨Nat.le_of_ble_eq_true rfl, Nat.le_of_ble_eq_true rfl⟩) hK hE hP hD hS hA ⟨rfl, rfl, rfl, rfl, rfl, rfl, rfl⟩ hl rfl rfl (Nat.le_of_ble_eq_true rfl) ⟨Nat.le_of_ble_eq_true rfl, Nat.le_of_ble_eq_true rfl⟩ dJ1_indexOf_4cfef_33 (fun H locs hP hD hS => ?_)
      refine W.widen (k := 0) (n := 0) (Nat.le_refl _) (Nat.le_refl _) ?_
      have e1 := Option.some.inj hd
      subst e1
      exact ob_iret hx hb hr hlocks hP hD hS dJ1_indexOf_4cfef_36
    · replace hd := ob_f c_24 hd
      refine lv_iconst (v := (-1)) hx hb dJ1_indexOf_4cfef_27 (by decide) ?_
      have e1 := Option.some.inj hd
      subst e1
      exact ob_iret hx hb hr hlocks hP hD hS dJ1_indexOf_4cfef_28
  · replace hd := ob_t c_4 hd
    refine lv_iconst (v := (-1)) hx hb dJ1_indexOf_4cfef_7 (by decide) ?_
    have e1 := Option.some.inj hd
    subst e1
    exact ob_iret hx hb hr hlocks hP hD hS dJ1_indexOf_4cfef_8

def fd_J0_indexOf_7cf53   (x1 : Int32) (x2 : Int32) : Option (Int32) := ob_b1 (fd_J0_isLatin1_aae02) (fun r_1 => if r_1 = 0 then (ob_b1 (fd_J0_length_8abf5) (fun r_2 => none)) else (ob_b1 (fd_J0_length_8abf5) (fun r_3 => ob_b1 (fd_J1_indexOf_4cfef x1 x2 r_3) (fun r_4 => some (r_4)))))
set_option maxHeartbeats 4000000 in
set_option maxRecDepth 100000 in
theorem mt_J0_indexOf_7cf53 (l : Launch) (dC : Nat → ClassId) (dI : Nat → Nat → Nat) (cI cZ cR cW : ClassId) (xs : Nat → Nat) (sz : Nat)   (x1 : Int32) (x2 : Int32)  (rr : Int32) (hd : fd_J0_indexOf_7cf53 x1 x2 = some (rr)) : ob_M l yJ0_indexOf_7cf53 wsJ0_indexOf_7cf53 ({ frames := 2, cells := 0, slots := 0, locals := 48 } : Room) (dC, dI) (ob_ty cI cZ cR cW) xs [.ref (xs 3), .int x1, .int x2] ([] : va_W) sz (ob_Qi (dC, dI) rr ([] : va_W)) := by
  rw [fd_J0_indexOf_7cf53] at hd
  refine ob_in (cc := cJ0_indexOf_7cf53) (maxL := 3) (ret := (some .int)) (own := RJ0) (by decide) rfl rfl [(0, .ref (xs 3)), (1, .int x1), (2, .int x2)] rfl (Nat.le_of_ble_eq_true rfl) ?_
  intro p e s m below meth c hx hb hr hml hown hts hlocks hnm hK A hA hE hP hD hS ls hl
  have kw0 := hts (.fieldLink RJ0 9 "java/lang/String" "value" "[B") (by decide +kernel)
  obtain ⟨hE1, hE2, hE3, hE4, hE5, hE6, hE7, hE8, hE9, -⟩ := id hE
  have hET : va_T .byte (xs 4) 5 (fun j => .int (([111, 109, 108, 102, 118] : List Int32).getD j 0)) A s s.heap := (hE8.1 0 (by decide)).2.2.2
  refine lv_aload_n hx hb dJ0_indexOf_7cf53_0 rfl (lv_at hl 0 rfl) ?_
  obtain ⟨r_1, hc_1, hd⟩ := ob_s1 hd
  refine ob_Ui (b := xs 3) (As := []) (rest := []) ⟨hx, hb, hml, hown, hts⟩ (mt_J0_isLatin1_aae02 l dC dI cI cZ cR cW xs _  r_1 hc_1) (cwV 0 hts gJ0_indexOf_7cf53_J0_isLatin1_aae02 rfl rfl rfl (by decide +kernel) ⟨Nat.le_of_ble_eq_true rfl, Nat.le_of_ble_eq_true rfl⟩) hK hE hP hD hS hA (vk_recv (i := 0) (N := 1) (adK := fun _ => xs 3) hE8 (by decide) hS) hl rfl rfl (Nat.le_of_ble_eq_true rfl) ⟨Nat.le_of_ble_eq_true rfl, Nat.le_of_ble_eq_true rfl⟩ dJ0_indexOf_7cf53_1 (fun H locs hP hD hS => ?_)
  refine W.widen (k := 0) (n := 0) (Nat.le_refl _) (Nat.le_refl _) ?_
  refine lv_if_eq (tgt := 23) hx hb dJ0_indexOf_7cf53_4 (by decide) (fun c_4 => ?_) (fun c_4 => ?_)
  · replace hd := ob_t c_4 hd
    refine lv_aload_n hx hb dJ0_indexOf_7cf53_23 rfl (lv_at hl 0 rfl) ?_
    refine vk_getf (v := .ref (xs 4)) hx hb (hE8.1 0 (by decide)).2.2.1 hS hown kw0 (fun _ h9 => h9) dJ0_indexOf_7cf53_24 ?_
    refine lv_iload_n hx hb dJ0_indexOf_7cf53_27 rfl (lv_at hl 1 rfl) ?_
    refine lv_iload_n hx hb dJ0_indexOf_7cf53_28 rfl (lv_at hl 2 rfl) ?_
    refine lv_aload_n hx hb dJ0_indexOf_7cf53_29 rfl (lv_at hl 0 rfl) ?_
    obtain ⟨r_2, hc_30, hd⟩ := ob_s1 hd
    refine ob_Ui (b := xs 3) (As := []) (rest := [.int x2, .int x1, .ref (xs 4)]) ⟨hx, hb, hml, hown, hts⟩ (mt_J0_length_8abf5 l dC dI cI cZ cR cW xs _  r_2 hc_30) (cwV 0 hts gJ0_indexOf_7cf53_J0_length_8abf5 rfl rfl rfl (by decide +kernel) ⟨Nat.le_of_ble_eq_true rfl, Nat.le_of_ble_eq_true rfl⟩) hK hE hP hD hS hA (vk_recv (i := 0) (N := 1) (adK := fun _ => xs 3) hE8 (by decide) hS) hl rfl rfl (Nat.le_of_ble_eq_true rfl) ⟨Nat.le_of_ble_eq_true rfl, Nat.le_of_ble_eq_true rfl⟩ dJ0_indexOf_7cf53_30 (fun H locs hP hD hS => ?_)
    refine W.widen (k := 0) (n := 0) (Nat.le_refl _) (Nat.le_refl _) ?_
    cases hd
  · replace hd := ob_f c_4 hd
    refine lv_aload_n hx hb dJ0_indexOf_7cf53_7 rfl (lv_at hl 0 rfl) ?_
    refine vk_getf (v := .ref (xs 4)) hx hb (hE8.1 0 (by decide)).2.2.1 hS hown kw0 (fun _ h9 => h9) dJ0_indexOf_7cf53_8 ?_
    refine lv_iload_n hx hb dJ0_indexOf_7cf53_11 rfl (lv_at hl 1 rfl) ?_
    refine lv_iload_n hx hb dJ0_indexOf_7cf53_12 rfl (lv_at hl 2 rfl) ?_
    refine lv_aload_n hx hb dJ0_indexOf_7cf53_13 rfl (lv_at hl 0 rfl) ?_
    obtain ⟨r_3, hc_14, hd⟩ := ob_s1 hd
    refine ob_Ui (b := xs 3) (As := []) (rest := [.int x2, .int x1, .ref (xs 4)]) ⟨hx, hb, hml, hown, hts⟩ (mt_J0_length_8abf5 l dC dI cI cZ cR cW xs _  r_3 hc_14) (cwV 0 hts gJ0_indexOf_7cf53_J0_length_8abf5 rfl rfl rfl (by decide +kernel) ⟨Nat.le_of_ble_eq_true rfl, Nat.le_of_ble_eq_true rfl⟩) hK hE hP hD hS hA (vk_recv (i := 0) (N := 1) (adK := fun _ => xs 3) hE8 (by decide) hS) hl rfl rfl (Nat.le_of_ble_eq_true rfl) ⟨Nat.le_of_ble_eq_true rfl, Nat.le_of_ble_eq_true rfl⟩ dJ0_indexOf_7cf53_14 (fun H locs hP hD hS => ?_)
    refine W.widen (k := 0) (n := 0) (Nat.le_refl _) (Nat.le_refl _) ?_
    obtain ⟨r_4, hc_17, hd⟩ := ob_s1 hd
    refine ob_Si (isC := []) (isR := []) (is2 := []) (wc := ([] : va_W)) (wr := ([] : va_W)) (w1 := ([] : va_W)) (w2 := ([] : va_W)) (As := [.ref (xs 4), .int x1, .int x2, .int r_3]) (rest := []) ⟨hx, hb, hml, hown, hts⟩ (mt_J1_indexOf_4cfef l dC dI cI cZ cR cW xs _ x1 x2 r_3 r_4 hc_17) (va_cwS 4 hts gJ0_indexOf_7cf53_J1_indexOf_4cfef rfl rfl rfl (by decide +kernel) ⟨Nat.le_of_ble_eq_true rfl, Nat.le_of_ble_eq_true rfl⟩) hK hE hP hD hS hA ⟨rfl, rfl, rfl, rfl, rfl, rfl, rfl⟩ hl rfl rfl (Nat.le_of_ble_eq_true rfl) ⟨Nat.le_of_ble_eq_true rfl, Nat.le_of_ble_eq_true rfl⟩ dJ0_indexOf_7cf53_17 (fun H locs hP hD hS => ?_)
    refine W.widen (k := 0) (n := 0) (Nat.le_refl _) (Nat.le_refl _) ?_
    refine lv_goto (tgt := 36) hx hb dJ0_indexOf_7cf53_20 (by decide) ?_
    have e1 := Option.some.inj hd
    subst e1
    exact ob_iret hx hb hr hlocks hP hD hS dJ0_indexOf_7cf53_36

def fd_J0_indexOf_0f7a4   (x1 : Int32) : Option (Int32) := ob_b1 (fd_J0_indexOf_7cf53 x1 0) (fun r_1 => some (r_1))
set_option maxHeartbeats 4000000 in
set_option maxRecDepth 100000 in
theorem mt_J0_indexOf_0f7a4 (l : Launch) (dC : Nat → ClassId) (dI : Nat → Nat → Nat) (cI cZ cR cW : ClassId) (xs : Nat → Nat) (sz : Nat)   (x1 : Int32)  (rr : Int32) (hd : fd_J0_indexOf_0f7a4 x1 = some (rr)) : ob_M l yJ0_indexOf_0f7a4 wsJ0_indexOf_0f7a4 ({ frames := 3, cells := 0, slots := 0, locals := 70 } : Room) (dC, dI) (ob_ty cI cZ cR cW) xs [.ref (xs 3), .int x1] ([] : va_W) sz (ob_Qi (dC, dI) rr ([] : va_W)) := by
  rw [fd_J0_indexOf_0f7a4] at hd
  refine ob_in (cc := cJ0_indexOf_0f7a4) (maxL := 2) (ret := (some .int)) (own := RJ0) (by decide) rfl rfl [(0, .ref (xs 3)), (1, .int x1)] rfl (Nat.le_of_ble_eq_true rfl) ?_
  intro p e s m below meth c hx hb hr hml hown hts hlocks hnm hK A hA hE hP hD hS ls hl
  obtain ⟨hE1, hE2, hE3, hE4, hE5, hE6, hE7, hE8, hE9, -⟩ := id hE
  have hET : va_T .byte (xs 4) 5 (fun j => .int (([111, 109, 108, 102, 118] : List Int32).getD j 0)) A s s.heap := (hE8.1 0 (by decide)).2.2.2
  refine lv_aload_n hx hb dJ0_indexOf_0f7a4_0 rfl (lv_at hl 0 rfl) ?_
  refine lv_iload_n hx hb dJ0_indexOf_0f7a4_1 rfl (lv_at hl 1 rfl) ?_
  refine lv_iconst (v := 0) hx hb dJ0_indexOf_0f7a4_2 (by decide) ?_
  obtain ⟨r_1, hc_3, hd⟩ := ob_s1 hd
  refine ob_Ui (b := xs 3) (As := [.int x1, .int 0]) (rest := []) ⟨hx, hb, hml, hown, hts⟩ (mt_J0_indexOf_7cf53 l dC dI cI cZ cR cW xs _ x1 0 r_1 hc_3) (cwV 2 hts gJ0_indexOf_0f7a4_J0_indexOf_7cf53 rfl rfl rfl (by decide +kernel) ⟨Nat.le_of_ble_eq_true rfl, Nat.le_of_ble_eq_true rfl⟩) hK hE hP hD hS hA (vk_recv (i := 0) (N := 1) (adK := fun _ => xs 3) hE8 (by decide) hS) hl rfl rfl (Nat.le_of_ble_eq_true rfl) ⟨Nat.le_of_ble_eq_true rfl, Nat.le_of_ble_eq_true rfl⟩ dJ0_indexOf_0f7a4_3 (fun H locs hP hD hS => ?_)
  refine W.widen (k := 0) (n := 0) (Nat.le_refl _) (Nat.le_refl _) ?_
  have e1 := Option.some.inj hd
  subst e1
  exact ob_iret hx hb hr hlocks hP hD hS dJ0_indexOf_0f7a4_6

def fd_X3_readSort_L32  (b : ob_B) (x1 : Int32) (v0 : Int32) : Option (Int32 × ob_B) := if 1 ≤ v0 then (if x1 < 7 then (ob_lt ((b.1 2) + 1 : Int32) (fun x_2 => ob_lt (ob_I b 2 x_2 : ob_B) (fun b_3 => some (v0, b_3)))) else (ob_b2 (fd_X3_stop b 3) (fun r_4 b_5 => some (r_4, b_5)))) else (ob_b2 (fd_X3_stop b 1) (fun r_6 b_7 => some (r_6, b_7)))
def fd_X3_readSort  (b : ob_B) (x1 : Int32) : Option (Int32 × ob_B) := if (b.1 1) ≤ (b.1 2) then (fd_X3_readSort_L32 b x1 0) else (if (b.1 2) < 0 ∨ 100 ≤ Int32.toNatClampNeg (b.1 2) then none else (ob_b1 (fd_J0_indexOf_0f7a4 (UInt32.toInt32 ((Int32.toUInt32 ((b.2 0) (Int32.toNatClampNeg (b.1 2)))) % 65536))) (fun r_1 => fd_X3_readSort_L32 b x1 (r_1 + 1))))
set_option maxHeartbeats 4000000 in
set_option maxRecDepth 100000 in
theorem mt_X3_readSort (l : Launch) (dC : Nat → ClassId) (dI : Nat → Nat → Nat) (cI cZ cR cW : ClassId) (xs : Nat → Nat) (sz : Nat) (o_b : Nat) (a_b : Nat → Nat) (b : ob_B) (x1 : Int32)  (rr : Int32) (b' : ob_B) (hd : fd_X3_readSort b x1 = some (rr, b')) : ob_M l yX3_readSort wsX3_readSort ({ frames := 4, cells := 0, slots := 0, locals := 91 } : Room) (dC, dI) (ob_ty cI cZ cR cW) xs [.ref o_b, .int x1] (ob_w3 o_b a_b cI b) sz (ob_Qi (dC, dI) rr (ob_w3 o_b a_b cI b')) := by
  rw [fd_X3_readSort] at hd
  refine ob_in (cc := cX3_readSort) (maxL := 3) (ret := (some .int)) (own := RX3) (by decide) rfl rfl [(0, .ref o_b), (1, .int x1)] rfl (Nat.le_of_ble_eq_true rfl) ?_
  intro p e s m below meth c hx hb hr hml hown hts hlocks hnm hK A hA hE hP hD hS ls hl
  have kw0 := hts (.fieldLink RX3 19 "OathCoach$Tape" "at" "I") (by decide +kernel)
  have kw1 := hts (.fieldLink RX3 15 "OathCoach$Tape" "size" "I") (by decide +kernel)
  have kw2 := hts (.fieldLink RX3 11 "OathCoach$Tape" "bytes" "[I") (by decide +kernel)
  have hi_X3 : ∀ w ∈ u_ws RX3 TX3 4, w ∈ wsX3_readSort := by decide +kernel
  obtain ⟨hE1, hE2, hE3, hE4, hE5, hE6, hE7, hE8, hE9, -⟩ := id hE
  have hET : va_T .byte (xs 4) 5 (fun j => .int (([111, 109, 108, 102, 118] : List Int32).getD j 0)) A s s.heap := (hE8.1 0 (by decide)).2.2.2
  have L32 : ∀ (H : Heap) (locs : List Loc) (b : ob_B) (v0 : Int32) (ls : Array Slot), va_P (dC, dI) vwCl (ob_w3 o_b a_b cI b) H → va_D A (ob_w3 o_b a_b cI b) → va_S A s.heap H locs → lv_has ls 3 [(0, .ref o_b), (1, .int x1)] → fd_X3_readSort_L32 b x1 v0 = some (rr, b') → W p l e ({ frames := 4, cells := 0, slots := 0, locals := 91 } : Room) s m (List.toArray [.ref o_b, .int x1]) below meth c H locs 0 0 (MQ below ((ob_Qi (dC, dI) rr (ob_w3 o_b a_b cI b')) A) (List.toArray [.ref o_b, .int x1]) s 0 0 A) (F0 m 32 ls [.int v0]) := by
    intro  H locs b v0 ls hP hD hS hl hd
    rw [fd_X3_readSort_L32] at hd
    refine lv_istore_n (lv' := [(2, .int v0), (0, .ref o_b), (1, .int x1)]) hx hb dX3_readSort_32 rfl hl (by decide) rfl (fun ls hl => ?_)
    refine lv_iload_n hx hb dX3_readSort_33 rfl (lv_at hl 0 rfl) ?_
    refine lv_iconst (v := 1) hx hb dX3_readSort_34 (by decide) ?_
    refine lv_icmp_ge (tgt := 44) hx hb dX3_readSort_35 (by decide) (fun c_35 => ?_) (fun c_35 => ?_)
    · replace hd := ob_t c_35 hd
      refine lv_iload_n hx hb dX3_readSort_44 rfl (lv_at hl 2 rfl) ?_
      refine lv_bipush (v := 7) hx hb dX3_readSort_45 (by decide) ?_
      refine lv_icmp_lt (tgt := 56) hx hb dX3_readSort_47 (by decide) (fun c_47 => ?_) (fun c_47 => ?_)
      · replace hd := ob_t c_47 hd
        refine lv_aload_n hx hb dX3_readSort_56 rfl (lv_at hl 1 rfl) ?_
        refine lv_dup hx hb dX3_readSort_57 rfl ?_
        refine va_get (D := (dC, dI)) (ci := 3) (v := .int (b.1 2)) (C := RX3) (T := TX3) (N := 4) hx hb hts hi_X3 hown hK hP 0 rfl rfl 2 (by decide) kw0 (fun _ h9 => h9) rfl dX3_readSort_58 ?_
        refine lv_iconst (v := 1) hx hb dX3_readSort_61 (by decide) ?_
        refine lv_iadd hx hb dX3_readSort_62 ?_
        refine lv_topi (fun x_2 ex_2 => ?_)
        replace hd := ob_lx ex_2 hd
        clear ex_2
        refine va_put (D := (dC, dI)) (ci := 3) (v := .int x_2) (ty := .int) (C := RX3) (T := TX3) (N := 4) hx hb hts hi_X3 tyX3 tyX3_ok nmX3 hown hK hP hD hS 0 rfl rfl 2 (by decide) kw0 (fun _ h9 => h9) rfl (by decide +kernel) rfl rfl (Nat.le_of_ble_eq_true rfl) dX3_readSort_63 (fun H locs hP hD hS => ?_)
        obtain ⟨b_3, eb_3⟩ : ∃ z : ob_B, z = ob_I b 2 x_2 := ⟨_, rfl⟩
        replace hd := ob_lx eb_3 hd
        replace hP : va_P (dC, dI) vwCl (ob_w3 o_b a_b cI b_3) H := by rw [eb_3]; exact hP
        replace hD : va_D A (ob_w3 o_b a_b cI b_3) := by rw [eb_3]; exact hD
        clear eb_3
        refine lv_iload_n hx hb dX3_readSort_66 rfl (lv_at hl 0 rfl) ?_
        obtain ⟨e1, e2⟩ := ob_pp hd
        subst e1
        subst e2
        exact ob_iret hx hb hr hlocks hP hD hS dX3_readSort_67
      · replace hd := ob_f c_47 hd
        refine lv_aload_n hx hb dX3_readSort_50 rfl (lv_at hl 1 rfl) ?_
        refine lv_iconst (v := 3) hx hb dX3_readSort_51 (by decide) ?_
        obtain ⟨r_4, b_5, hc_52, hd⟩ := ob_s2 hd
        refine ob_Vi (isC := [0, 1]) (isR := []) (is2 := [0, 1]) (wc := (ob_w3 o_b a_b cI b)) (wr := ([] : va_W)) (w1 := (ob_w3 o_b a_b cI b_5)) (w2 := (ob_w3 o_b a_b cI b_5)) (b := o_b) (As := [.int 3]) (rest := []) ⟨hx, hb, hml, hown, hts⟩ (mt_X3_stop l dC dI cI cZ cR cW xs _ o_b a_b b 3 r_4 b_5 hc_52) (cwV 1 hts gX3_readSort_X3_stop rfl rfl rfl (by decide +kernel) ⟨Nat.le_of_ble_eq_true rfl, Nat.le_of_ble_eq_true rfl⟩) hK hE hP hD hS hA ⟨rfl, rfl, rfl, rfl, rfl, rfl, rfl⟩ 3 0 rfl rfl rfl hl rfl rfl (Nat.le_of_ble_eq_true rfl) ⟨Nat.le_of_ble_eq_true rfl, Nat.le_of_ble_eq_true rfl⟩ dX3_readSort_52 (fun H locs hP hD hS => ?_)
        refine W.widen (k := 0) (n := 0) (Nat.le_refl _) (Nat.le_refl _) ?_
        obtain ⟨e1, e2⟩ := ob_pp hd
        subst e1
        subst e2
        exact ob_iret hx hb hr hlocks hP hD hS dX3_readSort_55
    · replace hd := ob_f c_35 hd
      refine lv_aload_n hx hb dX3_readSort_38 rfl (lv_at hl 1 rfl) ?_
      refine lv_iconst (v := 1) hx hb dX3_readSort_39 (by decide) ?_
      obtain ⟨r_6, b_7, hc_40, hd⟩ := ob_s2 hd
      refine ob_Vi (isC := [0, 1]) (isR := []) (is2 := [0, 1]) (wc := (ob_w3 o_b a_b cI b)) (wr := ([] : va_W)) (w1 := (ob_w3 o_b a_b cI b_7)) (w2 := (ob_w3 o_b a_b cI b_7)) (b := o_b) (As := [.int 1]) (rest := []) ⟨hx, hb, hml, hown, hts⟩ (mt_X3_stop l dC dI cI cZ cR cW xs _ o_b a_b b 1 r_6 b_7 hc_40) (cwV 1 hts gX3_readSort_X3_stop rfl rfl rfl (by decide +kernel) ⟨Nat.le_of_ble_eq_true rfl, Nat.le_of_ble_eq_true rfl⟩) hK hE hP hD hS hA ⟨rfl, rfl, rfl, rfl, rfl, rfl, rfl⟩ 3 0 rfl rfl rfl hl rfl rfl (Nat.le_of_ble_eq_true rfl) ⟨Nat.le_of_ble_eq_true rfl, Nat.le_of_ble_eq_true rfl⟩ dX3_readSort_40 (fun H locs hP hD hS => ?_)
      refine W.widen (k := 0) (n := 0) (Nat.le_refl _) (Nat.le_refl _) ?_
      obtain ⟨e1, e2⟩ := ob_pp hd
      subst e1
      subst e2
      exact ob_iret hx hb hr hlocks hP hD hS dX3_readSort_43
  refine lv_aload_n hx hb dX3_readSort_0 rfl (lv_at hl 0 rfl) ?_
  refine va_get (D := (dC, dI)) (ci := 3) (v := .int (b.1 2)) (C := RX3) (T := TX3) (N := 4) hx hb hts hi_X3 hown hK hP 0 rfl rfl 2 (by decide) kw0 (fun _ h9 => h9) rfl dX3_readSort_1 ?_
  refine lv_aload_n hx hb dX3_readSort_4 rfl (lv_at hl 0 rfl) ?_
  refine va_get (D := (dC, dI)) (ci := 3) (v := .int (b.1 1)) (C := RX3) (T := TX3) (N := 4) hx hb hts hi_X3 hown hK hP 0 rfl rfl 1 (by decide) kw1 (fun _ h9 => h9) rfl dX3_readSort_5 ?_
  refine lv_icmp_ge (tgt := 31) hx hb dX3_readSort_8 (by decide) (fun c_8 => ?_) (fun c_8 => ?_)
  · replace hd := ob_t c_8 hd
    refine lv_iconst (v := 0) hx hb dX3_readSort_31 (by decide) ?_
    exact L32   _ _ b 0 _ hP hD hS (lv_sub hl [0, 1] rfl) hd
  · replace hd := ob_f c_8 hd
    refine va_ldcS hx hb hown hE7 dX3_readSort_11 ?_
    refine lv_aload_n hx hb dX3_readSort_13 rfl (lv_at hl 0 rfl) ?_
    refine va_get (D := (dC, dI)) (ci := 3) (v := .ref (a_b 0)) (C := RX3) (T := TX3) (N := 4) hx hb hts hi_X3 hown hK hP 0 rfl rfl 0 (by decide) kw2 (fun _ h9 => h9) rfl dX3_readSort_14 ?_
    refine lv_aload_n hx hb dX3_readSort_17 rfl (lv_at hl 0 rfl) ?_
    refine va_get (D := (dC, dI)) (ci := 3) (v := .int (b.1 2)) (C := RX3) (T := TX3) (N := 4) hx hb hts hi_X3 hown hK hP 0 rfl rfl 2 (by decide) kw0 (fun _ h9 => h9) rfl dX3_readSort_18 ?_
    obtain ⟨h1_21, hd⟩ := ob_nn hd
    refine va_iald hx hb hK hP 1 0 rfl rfl h1_21 dX3_readSort_21 ?_
    refine lv_i2c hx hb dX3_readSort_22 rfl ?_
    obtain ⟨r_1, hc_23, hd⟩ := ob_s1 hd
    refine ob_Ui (b := xs 3) (As := [.int (UInt32.toInt32 ((Int32.toUInt32 ((b.2 0) (Int32.toNatClampNeg (b.1 2)))) % 65536))]) (rest := []) ⟨hx, hb, hml, hown, hts⟩ (mt_J0_indexOf_0f7a4 l dC dI cI cZ cR cW xs _ (UInt32.toInt32 ((Int32.toUInt32 ((b.2 0) (Int32.toNatClampNeg (b.1 2)))) % 65536)) r_1 hc_23) (cwV 1 hts gX3_readSort_J0_indexOf_0f7a4 rfl rfl rfl (by decide +kernel) ⟨Nat.le_of_ble_eq_true rfl, Nat.le_of_ble_eq_true rfl⟩) hK hE hP hD hS hA (vk_recv (i := 0) (N := 1) (adK := fun _ => xs 3) hE8 (by decide) hS) hl rfl rfl (Nat.le_of_ble_eq_true rfl) ⟨Nat.le_of_ble_eq_true rfl, Nat.le_of_ble_eq_true rfl⟩ dX3_readSort_23 (fun H locs hP hD hS => ?_)
    refine W.widen (k := 0) (n := 0) (Nat.le_refl _) (Nat.le_refl _) ?_
    refine lv_iconst (v := 1) hx hb dX3_readSort_26 (by decide) ?_
    refine lv_iadd hx hb dX3_readSort_27 ?_
    refine lv_goto (tgt := 32) hx hb dX3_readSort_28 (by decide) ?_
    exact L32   _ _ b (r_1 + 1) _ hP hD hS (lv_sub hl [0, 1] rfl) hd

def fd_X3_readLaw  (b : ob_B) (d : ob_B)  : Option (ob_B × ob_B) := ob_b1 (fd_X3_readByte b 99) (fun b_1 => ob_b2 (fd_X3_readNumber b_1 0 9) (fun r_2 b_3 => ob_lt (ob_I d 0 r_2 : ob_B) (fun d_4 => ob_b1 (fd_X3_readByte b_3 44) (fun b_5 => ob_b2 (fd_X3_readNumber b_5 0 9) (fun r_6 b_7 => ob_lt (ob_I d_4 1 r_6 : ob_B) (fun d_8 => ob_b1 (fd_X3_readByte b_7 59) (fun b_9 => some (b_9, d_8))))))))
set_option maxHeartbeats 4000000 in
set_option maxRecDepth 100000 in
theorem mt_X3_readLaw (l : Launch) (dC : Nat → ClassId) (dI : Nat → Nat → Nat) (cI cZ cR cW : ClassId) (xs : Nat → Nat) (sz : Nat) (o_b : Nat) (a_b : Nat → Nat) (o_d : Nat) (a_d : Nat → Nat) (b : ob_B) (d : ob_B)   (b' : ob_B) (d' : ob_B) (hd : fd_X3_readLaw b d = some (b', d')) : ob_M l yX3_readLaw wsX3_readLaw ({ frames := 2, cells := 0, slots := 0, locals := 45 } : Room) (dC, dI) (ob_ty cI cZ cR cW) xs [.ref o_b, .ref o_d] (ob_w3 o_b a_b cI b ++ ob_w1 o_d a_d cI d) sz (ob_Qv (dC, dI) (ob_w3 o_b a_b cI b' ++ ob_w1 o_d a_d cI d')) := by
  rw [fd_X3_readLaw] at hd
  refine ob_in (cc := cX3_readLaw) (maxL := 2) (ret := none) (own := RX3) (by decide) rfl rfl [(0, .ref o_b), (1, .ref o_d)] rfl (Nat.le_of_ble_eq_true rfl) ?_
  intro p e s m below meth c hx hb hr hml hown hts hlocks hnm hK A hA hE hP hD hS ls hl
  have kw0 := hts (.fieldLink RX3 46 "OathCoach$Route" "at" "I") (by decide +kernel)
  have kw1 := hts (.fieldLink RX3 47 "OathCoach$Route" "home" "I") (by decide +kernel)
  have hi_X1 : ∀ w ∈ u_ws RX1 TX1 12, w ∈ wsX3_readLaw := by decide +kernel
  refine lv_aload_n hx hb dX3_readLaw_0 rfl (lv_at hl 0 rfl) ?_
  refine lv_bipush (v := 99) hx hb dX3_readLaw_1 (by decide) ?_
  obtain ⟨b_1, hc_3, hd⟩ := ob_s1 hd
  refine ob_Vv (isC := [0, 1]) (isR := [2, 3, 4, 5, 6, 7]) (is2 := [6, 7, 0, 1, 2, 3, 4, 5]) (wc := (ob_w3 o_b a_b cI b)) (wr := (List.filterMap (fun i => (ob_w3 o_b a_b cI b ++ ob_w1 o_d a_d cI d)[i]?) [2, 3, 4, 5, 6, 7])) (w1 := (ob_w3 o_b a_b cI b_1)) (w2 := (ob_w3 o_b a_b cI b_1 ++ ob_w1 o_d a_d cI d)) (b := o_b) (As := [.int 99]) (rest := []) ⟨hx, hb, hml, hown, hts⟩ (mt_X3_readByte l dC dI cI cZ cR cW xs _ o_b a_b b 99 b_1 hc_3) (cwV 1 hts gX3_readLaw_X3_readByte rfl rfl rfl (by decide +kernel) ⟨Nat.le_of_ble_eq_true rfl, Nat.le_of_ble_eq_true rfl⟩) hK hE hP hD hS hA ⟨rfl, rfl, rfl, rfl, rfl, rfl, rfl⟩ 3 0 rfl rfl rfl hl rfl rfl (Nat.le_of_ble_eq_true rfl) ⟨Nat.le_of_ble_eq_true rfl, Nat.le_of_ble_eq_true rfl⟩ dX3_readLaw_3 (fun H locs hP hD hS => ?_)
  refine W.widen (k := 0) (n := 0) (Nat.le_refl _) (Nat.le_refl _) ?_
  refine lv_aload_n hx hb dX3_readLaw_6 rfl (lv_at hl 1 rfl) ?_
  refine lv_aload_n hx hb dX3_readLaw_7 rfl (lv_at hl 0 rfl) ?_
  refine lv_iconst (v := 0) hx hb dX3_readLaw_8 (by decide) ?_
  refine lv_bipush (v := 9) hx hb dX3_readLaw_9 (by decide) ?_
  obtain ⟨r_2, b_3, hc_11, hd⟩ := ob_s2 hd
  refine ob_Vi (isC := [0, 1]) (isR := [2, 3, 4, 5, 6, 7]) (is2 := [6, 7, 0, 1, 2, 3, 4, 5]) (wc := (ob_w3 o_b a_b cI b_1)) (wr := (List.filterMap (fun i => (ob_w3 o_b a_b cI b_1 ++ ob_w1 o_d a_d cI d)[i]?) [2, 3, 4, 5, 6, 7])) (w1 := (ob_w3 o_b a_b cI b_3)) (w2 := (ob_w3 o_b a_b cI b_3 ++ ob_w1 o_d a_d cI d)) (b := o_b) (As := [.int 0, .int 9]) (rest := [.ref o_d]) ⟨hx, hb, hml, hown, hts⟩ (mt_X3_readNumber l dC dI cI cZ cR cW xs _ o_b a_b b_1 0 9 r_2 b_3 hc_11) (cwV 2 hts gX3_readLaw_X3_readNumber rfl rfl rfl (by decide +kernel) ⟨Nat.le_of_ble_eq_true rfl, Nat.le_of_ble_eq_true rfl⟩) hK hE hP hD hS hA ⟨rfl, rfl, rfl, rfl, rfl, rfl, rfl⟩ 3 0 rfl rfl rfl hl rfl rfl (Nat.le_of_ble_eq_true rfl) ⟨Nat.le_of_ble_eq_true rfl, Nat.le_of_ble_eq_true rfl⟩ dX3_readLaw_11 (fun H locs hP hD hS => ?_)
  refine W.widen (k := 0) (n := 0) (Nat.le_refl _) (Nat.le_refl _) ?_
  refine va_put (D := (dC, dI)) (ci := 1) (v := .int r_2) (ty := .int) (C := RX1) (T := TX1) (N := 12) hx hb hts hi_X1 tyX1 tyX1_ok nmX1 hown hK hP hD hS 2 rfl rfl 0 (by decide) kw0 (fun _ h9 => h9) rfl (by decide +kernel) rfl rfl (Nat.le_of_ble_eq_true rfl) dX3_readLaw_14 (fun H locs hP hD hS => ?_)
  obtain ⟨d_4, ed_4⟩ : ∃ z : ob_B, z = ob_I d 0 r_2 := ⟨_, rfl⟩
  replace hd := ob_lx ed_4 hd
  replace hP : va_P (dC, dI) vwCl (ob_w3 o_b a_b cI b_3 ++ ob_w1 o_d a_d cI d_4) H := by rw [ed_4]; exact hP
  replace hD : va_D A (ob_w3 o_b a_b cI b_3 ++ ob_w1 o_d a_d cI d_4) := by rw [ed_4]; exact hD
  clear ed_4
  refine lv_aload_n hx hb dX3_readLaw_17 rfl (lv_at hl 0 rfl) ?_
  refine lv_bipush (v := 44) hx hb dX3_readLaw_18 (by decide) ?_
  obtain ⟨b_5, hc_20, hd⟩ := ob_s1 hd
  refine ob_Vv (isC := [0, 1]) (isR := [2, 3, 4, 5, 6, 7]) (is2 := [6, 7, 0, 1, 2, 3, 4, 5]) (wc := (ob_w3 o_b a_b cI b_3)) (wr := (List.filterMap (fun i => (ob_w3 o_b a_b cI b_3 ++ ob_w1 o_d a_d cI d_4)[i]?) [2, 3, 4, 5, 6, 7])) (w1 := (ob_w3 o_b a_b cI b_5)) (w2 := (ob_w3 o_b a_b cI b_5 ++ ob_w1 o_d a_d cI d_4)) (b := o_b) (As := [.int 44]) (rest := []) ⟨hx, hb, hml, hown, hts⟩ (mt_X3_readByte l dC dI cI cZ cR cW xs _ o_b a_b b_3 44 b_5 hc_20) (cwV 1 hts gX3_readLaw_X3_readByte rfl rfl rfl (by decide +kernel) ⟨Nat.le_of_ble_eq_true rfl, Nat.le_of_ble_eq_true rfl⟩) hK hE hP hD hS hA ⟨rfl, rfl, rfl, rfl, rfl, rfl, rfl⟩ 3 0 rfl rfl rfl hl rfl rfl (Nat.le_of_ble_eq_true rfl) ⟨Nat.le_of_ble_eq_true rfl, Nat.le_of_ble_eq_true rfl⟩ dX3_readLaw_20 (fun H locs hP hD hS => ?_)
  refine W.widen (k := 0) (n := 0) (Nat.le_refl _) (Nat.le_refl _) ?_
  refine lv_aload_n hx hb dX3_readLaw_23 rfl (lv_at hl 1 rfl) ?_
  refine lv_aload_n hx hb dX3_readLaw_24 rfl (lv_at hl 0 rfl) ?_
  refine lv_iconst (v := 0) hx hb dX3_readLaw_25 (by decide) ?_
  refine lv_bipush (v := 9) hx hb dX3_readLaw_26 (by decide) ?_
  obtain ⟨r_6, b_7, hc_28, hd⟩ := ob_s2 hd
  refine ob_Vi (isC := [0, 1]) (isR := [2, 3, 4, 5, 6, 7]) (is2 := [6, 7, 0, 1, 2, 3, 4, 5]) (wc := (ob_w3 o_b a_b cI b_5)) (wr := (List.filterMap (fun i => (ob_w3 o_b a_b cI b_5 ++ ob_w1 o_d a_d cI d_4)[i]?) [2, 3, 4, 5, 6, 7])) (w1 := (ob_w3 o_b a_b cI b_7)) (w2 := (ob_w3 o_b a_b cI b_7 ++ ob_w1 o_d a_d cI d_4)) (b := o_b) (As := [.int 0, .int 9]) (rest := [.ref o_d]) ⟨hx, hb, hml, hown, hts⟩ (mt_X3_readNumber l dC dI cI cZ cR cW xs _ o_b a_b b_5 0 9 r_6 b_7 hc_28) (cwV 2 hts gX3_readLaw_X3_readNumber rfl rfl rfl (by decide +kernel) ⟨Nat.le_of_ble_eq_true rfl, Nat.le_of_ble_eq_true rfl⟩) hK hE hP hD hS hA ⟨rfl, rfl, rfl, rfl, rfl, rfl, rfl⟩ 3 0 rfl rfl rfl hl rfl rfl (Nat.le_of_ble_eq_true rfl) ⟨Nat.le_of_ble_eq_true rfl, Nat.le_of_ble_eq_true rfl⟩ dX3_readLaw_28 (fun H locs hP hD hS => ?_)
  refine W.widen (k := 0) (n := 0) (Nat.le_refl _) (Nat.le_refl _) ?_
  refine va_put (D := (dC, dI)) (ci := 1) (v := .int r_6) (ty := .int) (C := RX1) (T := TX1) (N := 12) hx hb hts hi_X1 tyX1 tyX1_ok nmX1 hown hK hP hD hS 2 rfl rfl 1 (by decide) kw1 (fun _ h9 => h9) rfl (by decide +kernel) rfl rfl (Nat.le_of_ble_eq_true rfl) dX3_readLaw_31 (fun H locs hP hD hS => ?_)
  obtain ⟨d_8, ed_8⟩ : ∃ z : ob_B, z = ob_I d_4 1 r_6 := ⟨_, rfl⟩
  replace hd := ob_lx ed_8 hd
  replace hP : va_P (dC, dI) vwCl (ob_w3 o_b a_b cI b_7 ++ ob_w1 o_d a_d cI d_8) H := by rw [ed_8]; exact hP
  replace hD : va_D A (ob_w3 o_b a_b cI b_7 ++ ob_w1 o_d a_d cI d_8) := by rw [ed_8]; exact hD
  clear ed_8
  refine lv_aload_n hx hb dX3_readLaw_34 rfl (lv_at hl 0 rfl) ?_
  refine lv_bipush (v := 59) hx hb dX3_readLaw_35 (by decide) ?_
  obtain ⟨b_9, hc_37, hd⟩ := ob_s1 hd
  refine ob_Vv (isC := [0, 1]) (isR := [2, 3, 4, 5, 6, 7]) (is2 := [6, 7, 0, 1, 2, 3, 4, 5]) (wc := (ob_w3 o_b a_b cI b_7)) (wr := (List.filterMap (fun i => (ob_w3 o_b a_b cI b_7 ++ ob_w1 o_d a_d cI d_8)[i]?) [2, 3, 4, 5, 6, 7])) (w1 := (ob_w3 o_b a_b cI b_9)) (w2 := (ob_w3 o_b a_b cI b_9 ++ ob_w1 o_d a_d cI d_8)) (b := o_b) (As := [.int 59]) (rest := []) ⟨hx, hb, hml, hown, hts⟩ (mt_X3_readByte l dC dI cI cZ cR cW xs _ o_b a_b b_7 59 b_9 hc_37) (cwV 1 hts gX3_readLaw_X3_readByte rfl rfl rfl (by decide +kernel) ⟨Nat.le_of_ble_eq_true rfl, Nat.le_of_ble_eq_true rfl⟩) hK hE hP hD hS hA ⟨rfl, rfl, rfl, rfl, rfl, rfl, rfl⟩ 3 0 rfl rfl rfl hl rfl rfl (Nat.le_of_ble_eq_true rfl) ⟨Nat.le_of_ble_eq_true rfl, Nat.le_of_ble_eq_true rfl⟩ dX3_readLaw_37 (fun H locs hP hD hS => ?_)
  refine W.widen (k := 0) (n := 0) (Nat.le_refl _) (Nat.le_refl _) ?_
  obtain ⟨e1, e2⟩ := ob_pp hd
  subst e1
  subst e2
  exact ob_vret hx hb hr hlocks hP hD hS dX3_readLaw_40

def fd_X3_readOath  (b : ob_B) (d : ob_B) (x2 : Int32) : Option (ob_B × ob_B) := ob_b2 (fd_X3_readSort b x2) (fun r_1 b_2 => ob_b2 (fd_X3_readNumber b_2 0 9) (fun r_3 b_4 => ob_b1 (fd_X3_readByte b_4 44) (fun b_5 => ob_b2 (fd_X3_readNumber b_5 1 20) (fun r_6 b_7 => ob_b1 (fd_X3_readByte b_7 44) (fun b_8 => ob_b2 (fd_X3_readNumber b_8 1 60) (fun r_9 b_10 => ob_b1 (fd_X3_readByte b_10 59) (fun b_11 => if (b_11.1 3) = 0 then (ob_b1 (fd_X1_addOath d r_1 r_3 r_6 r_9) (fun d_12 => some (b_11, d_12))) else (some (b_11, d)))))))))
set_option maxHeartbeats 4000000 in
set_option maxRecDepth 100000 in
theorem mt_X3_readOath (l : Launch) (dC : Nat → ClassId) (dI : Nat → Nat → Nat) (cI cZ cR cW : ClassId) (xs : Nat → Nat) (sz : Nat) (o_b : Nat) (a_b : Nat → Nat) (o_d : Nat) (a_d : Nat → Nat) (b : ob_B) (d : ob_B) (x2 : Int32)  (b' : ob_B) (d' : ob_B) (hd : fd_X3_readOath b d x2 = some (b', d')) : ob_M l yX3_readOath wsX3_readOath ({ frames := 5, cells := 0, slots := 0, locals := 113 } : Room) (dC, dI) (ob_ty cI cZ cR cW) xs [.ref o_b, .ref o_d, .int x2] (ob_w3 o_b a_b cI b ++ ob_w1 o_d a_d cI d) sz (ob_Qv (dC, dI) (ob_w3 o_b a_b cI b' ++ ob_w1 o_d a_d cI d')) := by
  rw [fd_X3_readOath] at hd
  refine ob_in (cc := cX3_readOath) (maxL := 7) (ret := none) (own := RX3) (by decide) rfl rfl [(0, .ref o_b), (1, .ref o_d), (2, .int x2)] rfl (Nat.le_of_ble_eq_true rfl) ?_
  intro p e s m below meth c hx hb hr hml hown hts hlocks hnm hK A hA hE hP hD hS ls hl
  have kw0 := hts (.fieldLink RX3 22 "OathCoach$Tape" "faultNumber" "I") (by decide +kernel)
  have hi_X3 : ∀ w ∈ u_ws RX3 TX3 4, w ∈ wsX3_readOath := by decide +kernel
  refine lv_aload_n hx hb dX3_readOath_0 rfl (lv_at hl 0 rfl) ?_
  refine lv_iload_n hx hb dX3_readOath_1 rfl (lv_at hl 2 rfl) ?_
  obtain ⟨r_1, b_2, hc_2, hd⟩ := ob_s2 hd
  refine ob_Vi (isC := [0, 1]) (isR := [2, 3, 4, 5, 6, 7]) (is2 := [6, 7, 0, 1, 2, 3, 4, 5]) (wc := (ob_w3 o_b a_b cI b)) (wr := (List.filterMap (fun i => (ob_w3 o_b a_b cI b ++ ob_w1 o_d a_d cI d)[i]?) [2, 3, 4, 5, 6, 7])) (w1 := (ob_w3 o_b a_b cI b_2)) (w2 := (ob_w3 o_b a_b cI b_2 ++ ob_w1 o_d a_d cI d)) (b := o_b) (As := [.int x2]) (rest := []) ⟨hx, hb, hml, hown, hts⟩ (mt_X3_readSort l dC dI cI cZ cR cW xs _ o_b a_b b x2 r_1 b_2 hc_2) (cwV 1 hts gX3_readOath_X3_readSort rfl rfl rfl (by decide +kernel) ⟨Nat.le_of_ble_eq_true rfl, Nat.le_of_ble_eq_true rfl⟩) hK hE hP hD hS hA ⟨rfl, rfl, rfl, rfl, rfl, rfl, rfl⟩ 3 0 rfl rfl rfl hl rfl rfl (Nat.le_of_ble_eq_true rfl) ⟨Nat.le_of_ble_eq_true rfl, Nat.le_of_ble_eq_true rfl⟩ dX3_readOath_2 (fun H locs hP hD hS => ?_)
  refine W.widen (k := 0) (n := 0) (Nat.le_refl _) (Nat.le_refl _) ?_
  refine lv_istore_n (lv' := [(3, .int r_1), (0, .ref o_b), (1, .ref o_d), (2, .int x2)]) hx hb dX3_readOath_5 rfl hl (by decide) rfl (fun ls hl => ?_)
  refine lv_aload_n hx hb dX3_readOath_6 rfl (lv_at hl 1 rfl) ?_
  refine lv_iconst (v := 0) hx hb dX3_readOath_7 (by decide) ?_
  refine lv_bipush (v := 9) hx hb dX3_readOath_8 (by decide) ?_
  obtain ⟨r_3, b_4, hc_10, hd⟩ := ob_s2 hd
  refine ob_Vi (isC := [0, 1]) (isR := [2, 3, 4, 5, 6, 7]) (is2 := [6, 7, 0, 1, 2, 3, 4, 5]) (wc := (ob_w3 o_b a_b cI b_2)) (wr := (List.filterMap (fun i => (ob_w3 o_b a_b cI b_2 ++ ob_w1 o_d a_d cI d)[i]?) [2, 3, 4, 5, 6, 7])) (w1 := (ob_w3 o_b a_b cI b_4)) (w2 := (ob_w3 o_b a_b cI b_4 ++ ob_w1 o_d a_d cI d)) (b := o_b) (As := [.int 0, .int 9]) (rest := []) ⟨hx, hb, hml, hown, hts⟩ (mt_X3_readNumber l dC dI cI cZ cR cW xs _ o_b a_b b_2 0 9 r_3 b_4 hc_10) (cwV 2 hts gX3_readOath_X3_readNumber rfl rfl rfl (by decide +kernel) ⟨Nat.le_of_ble_eq_true rfl, Nat.le_of_ble_eq_true rfl⟩) hK hE hP hD hS hA ⟨rfl, rfl, rfl, rfl, rfl, rfl, rfl⟩ 3 0 rfl rfl rfl hl rfl rfl (Nat.le_of_ble_eq_true rfl) ⟨Nat.le_of_ble_eq_true rfl, Nat.le_of_ble_eq_true rfl⟩ dX3_readOath_10 (fun H locs hP hD hS => ?_)
  refine W.widen (k := 0) (n := 0) (Nat.le_refl _) (Nat.le_refl _) ?_
  refine lv_istore (lv' := [(4, .int r_3), (3, .int r_1), (0, .ref o_b), (1, .ref o_d), (2, .int x2)]) hx hb dX3_readOath_13 hl (by decide) rfl (fun ls hl => ?_)
  refine lv_aload_n hx hb dX3_readOath_15 rfl (lv_at hl 2 rfl) ?_
  refine lv_bipush (v := 44) hx hb dX3_readOath_16 (by decide) ?_
  obtain ⟨b_5, hc_18, hd⟩ := ob_s1 hd
  refine ob_Vv (isC := [0, 1]) (isR := [2, 3, 4, 5, 6, 7]) (is2 := [6, 7, 0, 1, 2, 3, 4, 5]) (wc := (ob_w3 o_b a_b cI b_4)) (wr := (List.filterMap (fun i => (ob_w3 o_b a_b cI b_4 ++ ob_w1 o_d a_d cI d)[i]?) [2, 3, 4, 5, 6, 7])) (w1 := (ob_w3 o_b a_b cI b_5)) (w2 := (ob_w3 o_b a_b cI b_5 ++ ob_w1 o_d a_d cI d)) (b := o_b) (As := [.int 44]) (rest := []) ⟨hx, hb, hml, hown, hts⟩ (mt_X3_readByte l dC dI cI cZ cR cW xs _ o_b a_b b_4 44 b_5 hc_18) (cwV 1 hts gX3_readOath_X3_readByte rfl rfl rfl (by decide +kernel) ⟨Nat.le_of_ble_eq_true rfl, Nat.le_of_ble_eq_true rfl⟩) hK hE hP hD hS hA ⟨rfl, rfl, rfl, rfl, rfl, rfl, rfl⟩ 3 0 rfl rfl rfl hl rfl rfl (Nat.le_of_ble_eq_true rfl) ⟨Nat.le_of_ble_eq_true rfl, Nat.le_of_ble_eq_true rfl⟩ dX3_readOath_18 (fun H locs hP hD hS => ?_)
  refine W.widen (k := 0) (n := 0) (Nat.le_refl _) (Nat.le_refl _) ?_
  refine lv_aload_n hx hb dX3_readOath_21 rfl (lv_at hl 2 rfl) ?_
  refine lv_iconst (v := 1) hx hb dX3_readOath_22 (by decide) ?_
  refine lv_bipush (v := 20) hx hb dX3_readOath_23 (by decide) ?_
  obtain ⟨r_6, b_7, hc_25, hd⟩ := ob_s2 hd
  refine ob_Vi (isC := [0, 1]) (isR := [2, 3, 4, 5, 6, 7]) (is2 := [6, 7, 0, 1, 2, 3, 4, 5]) (wc := (ob_w3 o_b a_b cI b_5)) (wr := (List.filterMap (fun i => (ob_w3 o_b a_b cI b_5 ++ ob_w1 o_d a_d cI d)[i]?) [2, 3, 4, 5, 6, 7])) (w1 := (ob_w3 o_b a_b cI b_7)) (w2 := (ob_w3 o_b a_b cI b_7 ++ ob_w1 o_d a_d cI d)) (b := o_b) (As := [.int 1, .int 20]) (rest := []) ⟨hx, hb, hml, hown, hts⟩ (mt_X3_readNumber l dC dI cI cZ cR cW xs _ o_b a_b b_5 1 20 r_6 b_7 hc_25) (cwV 2 hts gX3_readOath_X3_readNumber rfl rfl rfl (by decide +kernel) ⟨Nat.le_of_ble_eq_true rfl, Nat.le_of_ble_eq_true rfl⟩) hK hE hP hD hS hA ⟨rfl, rfl, rfl, rfl, rfl, rfl, rfl⟩ 3 0 rfl rfl rfl hl rfl rfl (Nat.le_of_ble_eq_true rfl) ⟨Nat.le_of_ble_eq_true rfl, Nat.le_of_ble_eq_true rfl⟩ dX3_readOath_25 (fun H locs hP hD hS => ?_)
  refine W.widen (k := 0) (n := 0) (Nat.le_refl _) (Nat.le_refl _) ?_
  refine lv_istore (lv' := [(5, .int r_6), (4, .int r_3), (3, .int r_1), (0, .ref o_b), (1, .ref o_d), (2, .int x2)]) hx hb dX3_readOath_28 hl (by decide) rfl (fun ls hl => ?_)
  refine lv_aload_n hx hb dX3_readOath_30 rfl (lv_at hl 3 rfl) ?_
  refine lv_bipush (v := 44) hx hb dX3_readOath_31 (by decide) ?_
  obtain ⟨b_8, hc_33, hd⟩ := ob_s1 hd
  refine ob_Vv (isC := [0, 1]) (isR := [2, 3, 4, 5, 6, 7]) (is2 := [6, 7, 0, 1, 2, 3, 4, 5]) (wc := (ob_w3 o_b a_b cI b_7)) (wr := (List.filterMap (fun i => (ob_w3 o_b a_b cI b_7 ++ ob_w1 o_d a_d cI d)[i]?) [2, 3, 4, 5, 6, 7])) (w1 := (ob_w3 o_b a_b cI b_8)) (w2 := (ob_w3 o_b a_b cI b_8 ++ ob_w1 o_d a_d cI d)) (b := o_b) (As := [.int 44]) (rest := []) ⟨hx, hb, hml, hown, hts⟩ (mt_X3_readByte l dC dI cI cZ cR cW xs _ o_b a_b b_7 44 b_8 hc_33) (cwV 1 hts gX3_readOath_X3_readByte rfl rfl rfl (by decide +kernel) ⟨Nat.le_of_ble_eq_true rfl, Nat.le_of_ble_eq_true rfl⟩) hK hE hP hD hS hA ⟨rfl, rfl, rfl, rfl, rfl, rfl, rfl⟩ 3 0 rfl rfl rfl hl rfl rfl (Nat.le_of_ble_eq_true rfl) ⟨Nat.le_of_ble_eq_true rfl, Nat.le_of_ble_eq_true rfl⟩ dX3_readOath_33 (fun H locs hP hD hS => ?_)
  refine W.widen (k := 0) (n := 0) (Nat.le_refl _) (Nat.le_refl _) ?_
  refine lv_aload_n hx hb dX3_readOath_36 rfl (lv_at hl 3 rfl) ?_
  refine lv_iconst (v := 1) hx hb dX3_readOath_37 (by decide) ?_
  refine lv_bipush (v := 60) hx hb dX3_readOath_38 (by decide) ?_
  obtain ⟨r_9, b_10, hc_40, hd⟩ := ob_s2 hd
  refine ob_Vi (isC := [0, 1]) (isR := [2, 3, 4, 5, 6, 7]) (is2 := [6, 7, 0, 1, 2, 3, 4, 5]) (wc := (ob_w3 o_b a_b cI b_8)) (wr := (List.filterMap (fun i => (ob_w3 o_b a_b cI b_8 ++ ob_w1 o_d a_d cI d)[i]?) [2, 3, 4, 5, 6, 7])) (w1 := (ob_w3 o_b a_b cI b_10)) (w2 := (ob_w3 o_b a_b cI b_10 ++ ob_w1 o_d a_d cI d)) (b := o_b) (As := [.int 1, .int 60]) (rest := []) ⟨hx, hb, hml, hown, hts⟩ (mt_X3_readNumber l dC dI cI cZ cR cW xs _ o_b a_b b_8 1 60 r_9 b_10 hc_40) (cwV 2 hts gX3_readOath_X3_readNumber rfl rfl rfl (by decide +kernel) ⟨Nat.le_of_ble_eq_true rfl, Nat.le_of_ble_eq_true rfl⟩) hK hE hP hD hS hA ⟨rfl, rfl, rfl, rfl, rfl, rfl, rfl⟩ 3 0 rfl rfl rfl hl rfl rfl (Nat.le_of_ble_eq_true rfl) ⟨Nat.le_of_ble_eq_true rfl, Nat.le_of_ble_eq_true rfl⟩ dX3_readOath_40 (fun H locs hP hD hS => ?_)
  refine W.widen (k := 0) (n := 0) (Nat.le_refl _) (Nat.le_refl _) ?_
  refine lv_istore (lv' := [(6, .int r_9), (5, .int r_6), (4, .int r_3), (3, .int r_1), (0, .ref o_b), (1, .ref o_d), (2, .int x2)]) hx hb dX3_readOath_43 hl (by decide) rfl (fun ls hl => ?_)
  refine lv_aload_n hx hb dX3_readOath_45 rfl (lv_at hl 4 rfl) ?_
  refine lv_bipush (v := 59) hx hb dX3_readOath_46 (by decide) ?_
  obtain ⟨b_11, hc_48, hd⟩ := ob_s1 hd
  refine ob_Vv (isC := [0, 1]) (isR := [2, 3, 4, 5, 6, 7]) (is2 := [6, 7, 0, 1, 2, 3, 4, 5]) (wc := (ob_w3 o_b a_b cI b_10)) (wr := (List.filterMap (fun i => (ob_w3 o_b a_b cI b_10 ++ ob_w1 o_d a_d cI d)[i]?) [2, 3, 4, 5, 6, 7])) (w1 := (ob_w3 o_b a_b cI b_11)) (w2 := (ob_w3 o_b a_b cI b_11 ++ ob_w1 o_d a_d cI d)) (b := o_b) (As := [.int 59]) (rest := []) ⟨hx, hb, hml, hown, hts⟩ (mt_X3_readByte l dC dI cI cZ cR cW xs _ o_b a_b b_10 59 b_11 hc_48) (cwV 1 hts gX3_readOath_X3_readByte rfl rfl rfl (by decide +kernel) ⟨Nat.le_of_ble_eq_true rfl, Nat.le_of_ble_eq_true rfl⟩) hK hE hP hD hS hA ⟨rfl, rfl, rfl, rfl, rfl, rfl, rfl⟩ 3 0 rfl rfl rfl hl rfl rfl (Nat.le_of_ble_eq_true rfl) ⟨Nat.le_of_ble_eq_true rfl, Nat.le_of_ble_eq_true rfl⟩ dX3_readOath_48 (fun H locs hP hD hS => ?_)
  refine W.widen (k := 0) (n := 0) (Nat.le_refl _) (Nat.le_refl _) ?_
  refine lv_aload_n hx hb dX3_readOath_51 rfl (lv_at hl 4 rfl) ?_
  refine va_get (D := (dC, dI)) (ci := 3) (v := .int (b_11.1 3)) (C := RX3) (T := TX3) (N := 4) hx hb hts hi_X3 hown hK hP 0 rfl rfl 3 (by decide) kw0 (fun _ h9 => h9) rfl dX3_readOath_52 ?_
  refine lv_if_ne (tgt := 69) hx hb dX3_readOath_55 (by decide) (fun c_55 => ?_) (fun c_55 => ?_)
  · replace hd := ob_f c_55 hd
    obtain ⟨e1, e2⟩ := ob_pp hd
    subst e1
    subst e2
    exact ob_vret hx hb hr hlocks hP hD hS dX3_readOath_69
  · replace hd := ob_t c_55 hd
    refine lv_aload_n hx hb dX3_readOath_58 rfl (lv_at hl 5 rfl) ?_
    refine lv_iload_n hx hb dX3_readOath_59 rfl (lv_at hl 3 rfl) ?_
    refine lv_iload hx hb dX3_readOath_60 (lv_at hl 2 rfl) ?_
    refine lv_iload hx hb dX3_readOath_62 (lv_at hl 1 rfl) ?_
    refine lv_iload hx hb dX3_readOath_64 (lv_at hl 0 rfl) ?_
    obtain ⟨d_12, hc_66, hd⟩ := ob_s1 hd
    refine ob_Vv (isC := [2, 3, 4, 5, 6, 7]) (isR := [0, 1]) (is2 := [0, 1, 2, 3, 4, 5, 6, 7]) (wc := (ob_w1 o_d a_d cI d)) (wr := (List.filterMap (fun i => (ob_w3 o_b a_b cI b_11 ++ ob_w1 o_d a_d cI d)[i]?) [0, 1])) (w1 := (ob_w1 o_d a_d cI d_12)) (w2 := (ob_w3 o_b a_b cI b_11 ++ ob_w1 o_d a_d cI d_12)) (b := o_d) (As := [.int r_1, .int r_3, .int r_6, .int r_9]) (rest := []) ⟨hx, hb, hml, hown, hts⟩ (mt_X1_addOath l dC dI cI cZ cR cW xs _ o_d a_d d r_1 r_3 r_6 r_9 d_12 hc_66) (cwV 4 hts gX3_readOath_X1_addOath rfl rfl rfl (by decide +kernel) ⟨Nat.le_of_ble_eq_true rfl, Nat.le_of_ble_eq_true rfl⟩) hK hE hP hD hS hA ⟨rfl, rfl, rfl, rfl, rfl, rfl, rfl⟩ 1 0 rfl rfl rfl hl rfl rfl (Nat.le_of_ble_eq_true rfl) ⟨Nat.le_of_ble_eq_true rfl, Nat.le_of_ble_eq_true rfl⟩ dX3_readOath_66 (fun H locs hP hD hS => ?_)
    refine W.widen (k := 0) (n := 0) (Nat.le_refl _) (Nat.le_refl _) ?_
    obtain ⟨e1, e2⟩ := ob_pp hd
    subst e1
    subst e2
    exact ob_vret hx hb hr hlocks hP hD hS dX3_readOath_69

def fd_X3_readInto_L49 (k_21 : ob_B → ob_B → Int32 → Option (Int32 × ob_B × ob_B)) (b : ob_B) (d : ob_B) (z2 : Int32) : Option (Int32 × ob_B × ob_B) := ob_b2 (fd_X3_readOath b d z2) (fun b_6 d_7 => ob_lt (z2 + 1 : Int32) (fun x_8 => k_21 b_6 d_7 x_8))
def fd_X3_readInto_L21  : Nat → ob_B → ob_B → Int32 → Option (Int32 × ob_B × ob_B)
  | 0, _, _, _ => none
  | fu + 1, b, d, z2 => if 7 < z2 then (some (b.1 3, b, d)) else (if (b.1 3) = 0 then (if z2 = 0 then (fd_X3_readInto_L49 (fd_X3_readInto_L21 fu) b d z2) else (if (b.1 1) ≤ (b.1 2) then (some (b.1 3, b, d)) else (fd_X3_readInto_L49 (fd_X3_readInto_L21 fu) b d z2))) else (some (b.1 3, b, d)))
def fd_X3_readInto  (b : ob_B) (d : ob_B)  : Option (Int32 × ob_B × ob_B) := ob_lt (ob_I b 2 0 : ob_B) (fun b_1 => ob_lt (ob_I b_1 3 0 : ob_B) (fun b_2 => ob_b1 (fd_X1_clear d) (fun d_3 => ob_b2 (fd_X3_readLaw b_2 d_3) (fun b_4 d_5 => fd_X3_readInto_L21 2000 b_4 d_5 0))))
set_option maxHeartbeats 4000000 in
set_option maxRecDepth 100000 in
theorem mt_X3_readInto (l : Launch) (dC : Nat → ClassId) (dI : Nat → Nat → Nat) (cI cZ cR cW : ClassId) (xs : Nat → Nat) (sz : Nat) (o_b : Nat) (a_b : Nat → Nat) (o_d : Nat) (a_d : Nat → Nat) (b : ob_B) (d : ob_B)   (rr : Int32) (b' : ob_B) (d' : ob_B) (hd : fd_X3_readInto b d = some (rr, b', d')) : ob_M l yX3_readInto wsX3_readInto ({ frames := 6, cells := 0, slots := 0, locals := 139 } : Room) (dC, dI) (ob_ty cI cZ cR cW) xs [.ref o_b, .ref o_d] (ob_w3 o_b a_b cI b ++ ob_w1 o_d a_d cI d) sz (ob_Qi (dC, dI) rr (ob_w3 o_b a_b cI b' ++ ob_w1 o_d a_d cI d')) := by
  rw [fd_X3_readInto] at hd
  refine ob_in (cc := cX3_readInto) (maxL := 3) (ret := (some .int)) (own := RX3) (by decide) rfl rfl [(0, .ref o_b), (1, .ref o_d)] rfl (Nat.le_of_ble_eq_true rfl) ?_
  intro p e s m below meth c hx hb hr hml hown hts hlocks hnm hK A hA hE hP hD hS ls hl
  have kw0 := hts (.fieldLink RX3 19 "OathCoach$Tape" "at" "I") (by decide +kernel)
  have kw1 := hts (.fieldLink RX3 22 "OathCoach$Tape" "faultNumber" "I") (by decide +kernel)
  have kw2 := hts (.fieldLink RX3 15 "OathCoach$Tape" "size" "I") (by decide +kernel)
  have hi_X3 : ∀ w ∈ u_ws RX3 TX3 4, w ∈ wsX3_readInto := by decide +kernel
  have L49 : ∀ (k_21 : ob_B → ob_B → Int32 → Option (Int32 × ob_B × ob_B)) (hk_21 : ∀ (H : Heap) (locs : List Loc) (b : ob_B) (d : ob_B) (z2 : Int32) (ls : Array Slot), va_P (dC, dI) vwCl (ob_w3 o_b a_b cI b ++ ob_w1 o_d a_d cI d) H → va_D A (ob_w3 o_b a_b cI b ++ ob_w1 o_d a_d cI d) → va_S A s.heap H locs → lv_has ls 3 [(0, .ref o_b), (1, .ref o_d), (2, .int z2)] → k_21 b d z2 = some (rr, b', d') → W p l e ({ frames := 6, cells := 0, slots := 0, locals := 139 } : Room) s m (List.toArray [.ref o_b, .ref o_d]) below meth c H locs 0 0 (MQ below ((ob_Qi (dC, dI) rr (ob_w3 o_b a_b cI b' ++ ob_w1 o_d a_d cI d')) A) (List.toArray [.ref o_b, .ref o_d]) s 0 0 A) (F0 m 21 ls [])), ∀ (H : Heap) (locs : List Loc) (b : ob_B) (d : ob_B) (z2 : Int32) (ls : Array Slot), va_P (dC, dI) vwCl (ob_w3 o_b a_b cI b ++ ob_w1 o_d a_d cI d) H → va_D A (ob_w3 o_b a_b cI b ++ ob_w1 o_d a_d cI d) → va_S A s.heap H locs → lv_has ls 3 [(0, .ref o_b), (1, .ref o_d), (2, .int z2)] → fd_X3_readInto_L49 k_21 b d z2 = some (rr, b', d') → W p l e ({ frames := 6, cells := 0, slots := 0, locals := 139 } : Room) s m (List.toArray [.ref o_b, .ref o_d]) below meth c H locs 0 0 (MQ below ((ob_Qi (dC, dI) rr (ob_w3 o_b a_b cI b' ++ ob_w1 o_d a_d cI d')) A) (List.toArray [.ref o_b, .ref o_d]) s 0 0 A) (F0 m 49 ls []) := by
    intro k_21 hk_21 H locs b d z2 ls hP hD hS hl hd
    rw [fd_X3_readInto_L49] at hd
    refine lv_aload_n hx hb dX3_readInto_49 rfl (lv_at hl 0 rfl) ?_
    refine lv_aload_n hx hb dX3_readInto_50 rfl (lv_at hl 1 rfl) ?_
    refine lv_iload_n hx hb dX3_readInto_51 rfl (lv_at hl 2 rfl) ?_
    obtain ⟨b_6, d_7, hc_52, hd⟩ := ob_s2 hd
    refine ob_Vv (isC := [0, 1, 2, 3, 4, 5, 6, 7]) (isR := []) (is2 := [0, 1, 2, 3, 4, 5, 6, 7]) (wc := (ob_w3 o_b a_b cI b ++ ob_w1 o_d a_d cI d)) (wr := ([] : va_W)) (w1 := (ob_w3 o_b a_b cI b_6 ++ ob_w1 o_d a_d cI d_7)) (w2 := (ob_w3 o_b a_b cI b_6 ++ ob_w1 o_d a_d cI d_7)) (b := o_b) (As := [.ref o_d, .int z2]) (rest := []) ⟨hx, hb, hml, hown, hts⟩ (mt_X3_readOath l dC dI cI cZ cR cW xs _ o_b a_b o_d a_d b d z2 b_6 d_7 hc_52) (cwV 2 hts gX3_readInto_X3_readOath rfl rfl rfl (by decide +kernel) ⟨Nat.le_of_ble_eq_true rfl, Nat.le_of_ble_eq_true rfl⟩) hK hE hP hD hS hA ⟨rfl, rfl, rfl, rfl, rfl, rfl, rfl⟩ 3 0 rfl rfl rfl hl rfl rfl (Nat.le_of_ble_eq_true rfl) ⟨Nat.le_of_ble_eq_true rfl, Nat.le_of_ble_eq_true rfl⟩ dX3_readInto_52 (fun H locs hP hD hS => ?_)
    refine W.widen (k := 0) (n := 0) (Nat.le_refl _) (Nat.le_refl _) ?_
    obtain ⟨x_8, ex_8⟩ : ∃ z : Int32, z = z2 + 1 := ⟨_, rfl⟩
    replace hd := ob_lx ex_8 hd
    refine lv_iinc (v := x_8) (lv' := [(2, .int x_8), (0, .ref o_b), (1, .ref o_d)]) hx hb dX3_readInto_55 hl (k := 2) rfl (by rw [ex_8]; rfl) (by decide) rfl (fun ls hl => ?_)
    clear ex_8
    refine lv_goto (tgt := 21) hx hb dX3_readInto_58 (by decide) ?_
    exact hk_21 _ _ b_6 d_7 x_8 _ hP hD hS (lv_sub hl [1, 2, 0] rfl) hd
  have L21 : ∀  (fu : Nat), ∀ (H : Heap) (locs : List Loc) (b : ob_B) (d : ob_B) (z2 : Int32) (ls : Array Slot), va_P (dC, dI) vwCl (ob_w3 o_b a_b cI b ++ ob_w1 o_d a_d cI d) H → va_D A (ob_w3 o_b a_b cI b ++ ob_w1 o_d a_d cI d) → va_S A s.heap H locs → lv_has ls 3 [(0, .ref o_b), (1, .ref o_d), (2, .int z2)] → fd_X3_readInto_L21 fu b d z2 = some (rr, b', d') → W p l e ({ frames := 6, cells := 0, slots := 0, locals := 139 } : Room) s m (List.toArray [.ref o_b, .ref o_d]) below meth c H locs 0 0 (MQ below ((ob_Qi (dC, dI) rr (ob_w3 o_b a_b cI b' ++ ob_w1 o_d a_d cI d')) A) (List.toArray [.ref o_b, .ref o_d]) s 0 0 A) (F0 m 21 ls []) := by
    intro  fu
    induction fu with
    | zero =>
      intro H locs b d z2 ls hP hD hS hl hd
      rw [fd_X3_readInto_L21] at hd
      cases hd
    | succ fu ih =>
      intro H locs b d z2 ls hP hD hS hl hd
      rw [fd_X3_readInto_L21] at hd
      refine lv_iload_n hx hb dX3_readInto_21 rfl (lv_at hl 2 rfl) ?_
      refine lv_bipush (v := 7) hx hb dX3_readInto_22 (by decide) ?_
      refine lv_icmp_gt (tgt := 61) hx hb dX3_readInto_24 (by decide) (fun c_24 => ?_) (fun c_24 => ?_)
      · replace hd := ob_t c_24 hd
        refine lv_aload_n hx hb dX3_readInto_61 rfl (lv_at hl 0 rfl) ?_
        refine va_get (D := (dC, dI)) (ci := 3) (v := .int (b.1 3)) (C := RX3) (T := TX3) (N := 4) hx hb hts hi_X3 hown hK hP 0 rfl rfl 3 (by decide) kw1 (fun _ h9 => h9) rfl dX3_readInto_62 ?_
        obtain ⟨e1, e2, e3⟩ := ob_pq hd
        subst e1
        subst e2
        subst e3
        exact ob_iret hx hb hr hlocks hP hD hS dX3_readInto_65
      · replace hd := ob_f c_24 hd
        refine lv_aload_n hx hb dX3_readInto_27 rfl (lv_at hl 0 rfl) ?_
        refine va_get (D := (dC, dI)) (ci := 3) (v := .int (b.1 3)) (C := RX3) (T := TX3) (N := 4) hx hb hts hi_X3 hown hK hP 0 rfl rfl 3 (by decide) kw1 (fun _ h9 => h9) rfl dX3_readInto_28 ?_
        refine lv_if_ne (tgt := 61) hx hb dX3_readInto_31 (by decide) (fun c_31 => ?_) (fun c_31 => ?_)
        · replace hd := ob_f c_31 hd
          refine lv_aload_n hx hb dX3_readInto_61 rfl (lv_at hl 0 rfl) ?_
          refine va_get (D := (dC, dI)) (ci := 3) (v := .int (b.1 3)) (C := RX3) (T := TX3) (N := 4) hx hb hts hi_X3 hown hK hP 0 rfl rfl 3 (by decide) kw1 (fun _ h9 => h9) rfl dX3_readInto_62 ?_
          obtain ⟨e1, e2, e3⟩ := ob_pq hd
          subst e1
          subst e2
          subst e3
          exact ob_iret hx hb hr hlocks hP hD hS dX3_readInto_65
        · replace hd := ob_t c_31 hd
          refine lv_iload_n hx hb dX3_readInto_34 rfl (lv_at hl 2 rfl) ?_
          refine lv_if_eq (tgt := 49) hx hb dX3_readInto_35 (by decide) (fun c_35 => ?_) (fun c_35 => ?_)
          · replace hd := ob_t c_35 hd
            exact L49 (fd_X3_readInto_L21 fu) ih  _ _ b d z2 _ hP hD hS (lv_sub hl [0, 1, 2] rfl) hd
          · replace hd := ob_f c_35 hd
            refine lv_aload_n hx hb dX3_readInto_38 rfl (lv_at hl 0 rfl) ?_
            refine va_get (D := (dC, dI)) (ci := 3) (v := .int (b.1 2)) (C := RX3) (T := TX3) (N := 4) hx hb hts hi_X3 hown hK hP 0 rfl rfl 2 (by decide) kw0 (fun _ h9 => h9) rfl dX3_readInto_39 ?_
            refine lv_aload_n hx hb dX3_readInto_42 rfl (lv_at hl 0 rfl) ?_
            refine va_get (D := (dC, dI)) (ci := 3) (v := .int (b.1 1)) (C := RX3) (T := TX3) (N := 4) hx hb hts hi_X3 hown hK hP 0 rfl rfl 1 (by decide) kw2 (fun _ h9 => h9) rfl dX3_readInto_43 ?_
            refine lv_icmp_ge (tgt := 61) hx hb dX3_readInto_46 (by decide) (fun c_46 => ?_) (fun c_46 => ?_)
            · replace hd := ob_t c_46 hd
              refine lv_aload_n hx hb dX3_readInto_61 rfl (lv_at hl 0 rfl) ?_
              refine va_get (D := (dC, dI)) (ci := 3) (v := .int (b.1 3)) (C := RX3) (T := TX3) (N := 4) hx hb hts hi_X3 hown hK hP 0 rfl rfl 3 (by decide) kw1 (fun _ h9 => h9) rfl dX3_readInto_62 ?_
              obtain ⟨e1, e2, e3⟩ := ob_pq hd
              subst e1
              subst e2
              subst e3
              exact ob_iret hx hb hr hlocks hP hD hS dX3_readInto_65
            · replace hd := ob_f c_46 hd
              exact L49 (fd_X3_readInto_L21 fu) ih  _ _ b d z2 _ hP hD hS (lv_sub hl [0, 1, 2] rfl) hd
  refine lv_aload_n hx hb dX3_readInto_0 rfl (lv_at hl 0 rfl) ?_
  refine lv_iconst (v := 0) hx hb dX3_readInto_1 (by decide) ?_
  refine va_put (D := (dC, dI)) (ci := 3) (v := .int 0) (ty := .int) (C := RX3) (T := TX3) (N := 4) hx hb hts hi_X3 tyX3 tyX3_ok nmX3 hown hK hP hD hS 0 rfl rfl 2 (by decide) kw0 (fun _ h9 => h9) rfl (by decide +kernel) rfl rfl (Nat.le_of_ble_eq_true rfl) dX3_readInto_2 (fun H locs hP hD hS => ?_)
  obtain ⟨b_1, eb_1⟩ : ∃ z : ob_B, z = ob_I b 2 0 := ⟨_, rfl⟩
  replace hd := ob_lx eb_1 hd
  replace hP : va_P (dC, dI) vwCl (ob_w3 o_b a_b cI b_1 ++ ob_w1 o_d a_d cI d) H := by rw [eb_1]; exact hP
  replace hD : va_D A (ob_w3 o_b a_b cI b_1 ++ ob_w1 o_d a_d cI d) := by rw [eb_1]; exact hD
  clear eb_1
  refine lv_aload_n hx hb dX3_readInto_5 rfl (lv_at hl 0 rfl) ?_
  refine lv_iconst (v := 0) hx hb dX3_readInto_6 (by decide) ?_
  refine va_put (D := (dC, dI)) (ci := 3) (v := .int 0) (ty := .int) (C := RX3) (T := TX3) (N := 4) hx hb hts hi_X3 tyX3 tyX3_ok nmX3 hown hK hP hD hS 0 rfl rfl 3 (by decide) kw1 (fun _ h9 => h9) rfl (by decide +kernel) rfl rfl (Nat.le_of_ble_eq_true rfl) dX3_readInto_7 (fun H locs hP hD hS => ?_)
  obtain ⟨b_2, eb_2⟩ : ∃ z : ob_B, z = ob_I b_1 3 0 := ⟨_, rfl⟩
  replace hd := ob_lx eb_2 hd
  replace hP : va_P (dC, dI) vwCl (ob_w3 o_b a_b cI b_2 ++ ob_w1 o_d a_d cI d) H := by rw [eb_2]; exact hP
  replace hD : va_D A (ob_w3 o_b a_b cI b_2 ++ ob_w1 o_d a_d cI d) := by rw [eb_2]; exact hD
  clear eb_2
  refine lv_aload_n hx hb dX3_readInto_10 rfl (lv_at hl 1 rfl) ?_
  obtain ⟨d_3, hc_11, hd⟩ := ob_s1 hd
  refine ob_Vv (isC := [2, 3, 4, 5, 6, 7]) (isR := [0, 1]) (is2 := [0, 1, 2, 3, 4, 5, 6, 7]) (wc := (ob_w1 o_d a_d cI d)) (wr := (List.filterMap (fun i => (ob_w3 o_b a_b cI b_2 ++ ob_w1 o_d a_d cI d)[i]?) [0, 1])) (w1 := (ob_w1 o_d a_d cI d_3)) (w2 := (ob_w3 o_b a_b cI b_2 ++ ob_w1 o_d a_d cI d_3)) (b := o_d) (As := []) (rest := []) ⟨hx, hb, hml, hown, hts⟩ (mt_X1_clear l dC dI cI cZ cR cW xs _ o_d a_d d d_3 hc_11) (cwV 0 hts gX3_readInto_X1_clear rfl rfl rfl (by decide +kernel) ⟨Nat.le_of_ble_eq_true rfl, Nat.le_of_ble_eq_true rfl⟩) hK hE hP hD hS hA ⟨rfl, rfl, rfl, rfl, rfl, rfl, rfl⟩ 1 0 rfl rfl rfl hl rfl rfl (Nat.le_of_ble_eq_true rfl) ⟨Nat.le_of_ble_eq_true rfl, Nat.le_of_ble_eq_true rfl⟩ dX3_readInto_11 (fun H locs hP hD hS => ?_)
  refine W.widen (k := 0) (n := 0) (Nat.le_refl _) (Nat.le_refl _) ?_
  refine lv_aload_n hx hb dX3_readInto_14 rfl (lv_at hl 0 rfl) ?_
  refine lv_aload_n hx hb dX3_readInto_15 rfl (lv_at hl 1 rfl) ?_
  obtain ⟨b_4, d_5, hc_16, hd⟩ := ob_s2 hd
  refine ob_Vv (isC := [0, 1, 2, 3, 4, 5, 6, 7]) (isR := []) (is2 := [0, 1, 2, 3, 4, 5, 6, 7]) (wc := (ob_w3 o_b a_b cI b_2 ++ ob_w1 o_d a_d cI d_3)) (wr := ([] : va_W)) (w1 := (ob_w3 o_b a_b cI b_4 ++ ob_w1 o_d a_d cI d_5)) (w2 := (ob_w3 o_b a_b cI b_4 ++ ob_w1 o_d a_d cI d_5)) (b := o_b) (As := [.ref o_d]) (rest := []) ⟨hx, hb, hml, hown, hts⟩ (mt_X3_readLaw l dC dI cI cZ cR cW xs _ o_b a_b o_d a_d b_2 d_3 b_4 d_5 hc_16) (cwV 1 hts gX3_readInto_X3_readLaw rfl rfl rfl (by decide +kernel) ⟨Nat.le_of_ble_eq_true rfl, Nat.le_of_ble_eq_true rfl⟩) hK hE hP hD hS hA ⟨rfl, rfl, rfl, rfl, rfl, rfl, rfl⟩ 3 0 rfl rfl rfl hl rfl rfl (Nat.le_of_ble_eq_true rfl) ⟨Nat.le_of_ble_eq_true rfl, Nat.le_of_ble_eq_true rfl⟩ dX3_readInto_16 (fun H locs hP hD hS => ?_)
  refine W.widen (k := 0) (n := 0) (Nat.le_refl _) (Nat.le_refl _) ?_
  refine lv_iconst (v := 0) hx hb dX3_readInto_19 (by decide) ?_
  refine lv_istore_n (lv' := [(2, .int 0), (0, .ref o_b), (1, .ref o_d)]) hx hb dX3_readInto_20 rfl hl (by decide) rfl (fun ls hl => ?_)
  exact L21  2000 _ _ b_4 d_5 0 _ hP hD hS (lv_sub hl [1, 2, 0] rfl) hd
