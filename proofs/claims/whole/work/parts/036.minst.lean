def fd_X5_sizeLie  (b : ob_B) (x1 : Int32) : Option (Int32 × ob_B) := ob_b1 (fd_X5_begins b 13) (fun b_1 => ob_b1 (fd_X5_begins b_1 10) (fun b_2 => if (21 + x1) < 0 ∨ 42 ≤ Int32.toNatClampNeg (21 + x1) then none else (some (((b_2.2 12) (Int32.toNatClampNeg (21 + x1))) - 100, b_2))))
set_option maxHeartbeats 4000000 in
set_option maxRecDepth 100000 in
theorem mt_X5_sizeLie (l : Launch) (dC : Nat → ClassId) (dI : Nat → Nat → Nat) (cI cZ cR cW : ClassId) (xs : Nat → Nat) (sz : Nat) (o_b : Nat) (a_b : Nat → Nat) (b : ob_B) (x1 : Int32)  (rr : Int32) (b' : ob_B) (hd : fd_X5_sizeLie b x1 = some (rr, b')) : ob_M l yX5_sizeLie wsX5_sizeLie ({ frames := 1, cells := 0, slots := 0, locals := 21 } : Room) (dC, dI) (ob_ty cI cZ cR cW) xs [.ref o_b, .int x1] (ob_w5 o_b a_b cI cZ b) sz (ob_Qi (dC, dI) rr (ob_w5 o_b a_b cI cZ b')) := by
  rw [fd_X5_sizeLie] at hd
  refine ob_in (cc := cX5_sizeLie) (maxL := 2) (ret := (some .int)) (own := RX5) (by decide) rfl rfl [(0, .ref o_b), (1, .int x1)] rfl (Nat.le_of_ble_eq_true rfl) ?_
  intro p e s m below meth c hx hb hr hml hown hts hlocks hnm hK A hA hE hP hD hS ls hl
  have kw0 := hts (.fieldLink RX5 22 "OathCoachModel" "now" "[I") (by decide +kernel)
  have hi_X5 : ∀ w ∈ u_ws RX5 TX5 23, w ∈ wsX5_sizeLie := by decide +kernel
  refine lv_aload_n hx hb dX5_sizeLie_0 rfl (lv_at hl 0 rfl) ?_
  refine lv_bipush (v := 13) hx hb dX5_sizeLie_1 (by decide) ?_
  obtain ⟨b_1, hc_3, hd⟩ := ob_s1 hd
  refine ob_Vv (isC := [0, 1, 2, 3, 4, 5, 6, 7, 8, 9, 10, 11, 12, 13]) (isR := []) (is2 := [0, 1, 2, 3, 4, 5, 6, 7, 8, 9, 10, 11, 12, 13]) (wc := (ob_w5 o_b a_b cI cZ b)) (wr := ([] : va_W)) (w1 := (ob_w5 o_b a_b cI cZ b_1)) (w2 := (ob_w5 o_b a_b cI cZ b_1)) (b := o_b) (As := [.int 13]) (rest := []) ⟨hx, hb, hml, hown, hts⟩ (mt_X5_begins l dC dI cI cZ cR cW xs _ o_b a_b b 13 b_1 hc_3) (cwV 1 hts gX5_sizeLie_X5_begins rfl rfl rfl (by decide +kernel) ⟨Nat.le_of_ble_eq_true rfl, Nat.le_of_ble_eq_true rfl⟩) hK hE hP hD hS hA ⟨rfl, rfl, rfl, rfl, rfl, rfl, rfl⟩ 5 0 rfl rfl rfl hl rfl rfl (Nat.le_of_ble_eq_true rfl) ⟨Nat.le_of_ble_eq_true rfl, Nat.le_of_ble_eq_true rfl⟩ dX5_sizeLie_3 (fun H locs hP hD hS => ?_)
  refine W.widen (k := 0) (n := 0) (Nat.le_refl _) (Nat.le_refl _) ?_
  refine lv_aload_n hx hb dX5_sizeLie_6 rfl (lv_at hl 0 rfl) ?_
  refine lv_bipush (v := 10) hx hb dX5_sizeLie_7 (by decide) ?_
  obtain ⟨b_2, hc_9, hd⟩ := ob_s1 hd
  refine ob_Vv (isC := [0, 1, 2, 3, 4, 5, 6, 7, 8, 9, 10, 11, 12, 13]) (isR := []) (is2 := [0, 1, 2, 3, 4, 5, 6, 7, 8, 9, 10, 11, 12, 13]) (wc := (ob_w5 o_b a_b cI cZ b_1)) (wr := ([] : va_W)) (w1 := (ob_w5 o_b a_b cI cZ b_2)) (w2 := (ob_w5 o_b a_b cI cZ b_2)) (b := o_b) (As := [.int 10]) (rest := []) ⟨hx, hb, hml, hown, hts⟩ (mt_X5_begins l dC dI cI cZ cR cW xs _ o_b a_b b_1 10 b_2 hc_9) (cwV 1 hts gX5_sizeLie_X5_begins rfl rfl rfl (by decide +kernel) ⟨Nat.le_of_ble_eq_true rfl, Nat.le_of_ble_eq_true rfl⟩) hK hE hP hD hS hA ⟨rfl, rfl, rfl, rfl, rfl, rfl, rfl⟩ 5 0 rfl rfl rfl hl rfl rfl (Nat.le_of_ble_eq_true rfl) ⟨Nat.le_of_ble_eq_true rfl, Nat.le_of_ble_eq_true rfl⟩ dX5_sizeLie_9 (fun H locs hP hD hS => ?_)
  refine W.widen (k := 0) (n := 0) (Nat.le_refl _) (Nat.le_refl _) ?_
  refine lv_aload_n hx hb dX5_sizeLie_12 rfl (lv_at hl 0 rfl) ?_
  refine va_get (D := (dC, dI)) (ci := 5) (v := .ref (a_b 12)) (C := RX5) (T := TX5) (N := 23) hx hb hts hi_X5 hown hK hP 0 rfl rfl 12 (by decide) kw0 (fun _ h9 => h9) rfl dX5_sizeLie_13 ?_
  refine lv_bipush (v := 21) hx hb dX5_sizeLie_16 (by decide) ?_
  refine lv_iload_n hx hb dX5_sizeLie_18 rfl (lv_at hl 1 rfl) ?_
  refine lv_iadd hx hb dX5_sizeLie_19 ?_
  obtain ⟨h1_20, hd⟩ := ob_nn hd
  refine va_iald hx hb hK hP 5 0 rfl rfl h1_20 dX5_sizeLie_20 ?_
  refine lv_bipush (v := 100) hx hb dX5_sizeLie_21 (by decide) ?_
  refine lv_isub hx hb dX5_sizeLie_23 ?_
  obtain ⟨e1, e2⟩ := ob_pp hd
  subst e1
  subst e2
  exact ob_iret hx hb hr hlocks hP hD hS dX5_sizeLie_24

def fd_X5_sizeOf_L51  (b : ob_B) (x1 : Int32) (z2 : Int32) : Option (Int32 × ob_B) := ob_b1 (fd_X5_begins b 11) (fun b_8 => ob_b1 (fd_X5_begins b_8 10) (fun b_9 => if (21 + x1) < 0 ∨ 42 ≤ Int32.toNatClampNeg (21 + x1) then none else (ob_b2 (fd_X5_markPlain b_9 x1) (fun r_10 b_11 => ob_lt (((b_9.2 12) (Int32.toNatClampNeg (21 + x1))) + r_10 : Int32) (fun x_12 => if z2 = 2 then (some (-x_12, b_11)) else (some (x_12, b_11)))))))
def fd_X5_sizeOf  (b : ob_B) (x1 : Int32) : Option (Int32 × ob_B) := if (7 + x1) < 0 ∨ 42 ≤ Int32.toNatClampNeg (7 + x1) then none else (ob_lt ((b.2 12) (Int32.toNatClampNeg (7 + x1)) : Int32) (fun x_1 => if x_1 = 5 then (ob_b1 (fd_X5_begins b 14) (fun b_5 => ob_b2 (fd_X5_sizeLie b_5 x1) (fun r_6 b_7 => some (2 * r_6, b_7)))) else (if x_1 = 4 then (ob_b2 (fd_X5_sizeLie b x1) (fun r_3 b_4 => some (r_3, b_4))) else (if x_1 = 2 then (ob_b1 (fd_X5_begins b 12) (fun b_2 => fd_X5_sizeOf_L51 b_2 x1 x_1)) else (fd_X5_sizeOf_L51 b x1 x_1)))))
set_option maxHeartbeats 4000000 in
set_option maxRecDepth 100000 in
theorem mt_X5_sizeOf (l : Launch) (dC : Nat → ClassId) (dI : Nat → Nat → Nat) (cI cZ cR cW : ClassId) (xs : Nat → Nat) (sz : Nat) (o_b : Nat) (a_b : Nat → Nat) (b : ob_B) (x1 : Int32)  (rr : Int32) (b' : ob_B) (hd : fd_X5_sizeOf b x1 = some (rr, b')) : ob_M l yX5_sizeOf wsX5_sizeOf ({ frames := 3, cells := 0, slots := 0, locals := 64 } : Room) (dC, dI) (ob_ty cI cZ cR cW) xs [.ref o_b, .int x1] (ob_w5 o_b a_b cI cZ b) sz (ob_Qi (dC, dI) rr (ob_w5 o_b a_b cI cZ b')) := by
  rw [fd_X5_sizeOf] at hd
  refine ob_in (cc := cX5_sizeOf) (maxL := 4) (ret := (some .int)) (own := RX5) (by decide) rfl rfl [(0, .ref o_b), (1, .int x1)] rfl (Nat.le_of_ble_eq_true rfl) ?_
  intro p e s m below meth c hx hb hr hml hown hts hlocks hnm hK A hA hE hP hD hS ls hl
  have kw0 := hts (.fieldLink RX5 22 "OathCoachModel" "now" "[I") (by decide +kernel)
  have hi_X5 : ∀ w ∈ u_ws RX5 TX5 23, w ∈ wsX5_sizeOf := by decide +kernel
  have L51 : ∀ (H : Heap) (locs : List Loc) (b : ob_B) (z2 : Int32) (ls : Array Slot), va_P (dC, dI) vwCl (ob_w5 o_b a_b cI cZ b) H → va_D A (ob_w5 o_b a_b cI cZ b) → va_S A s.heap H locs → lv_has ls 4 [(0, .ref o_b), (1, .int x1), (2, .int z2)] → fd_X5_sizeOf_L51 b x1 z2 = some (rr, b') → W p l e ({ frames := 3, cells := 0, slots := 0, locals := 64 } : Room) s m (List.toArray [.ref o_b, .int x1]) below meth c H locs 0 0 (MQ below ((ob_Qi (dC, dI) rr (ob_w5 o_b a_b cI cZ b')) A) (List.toArray [.ref o_b, .int x1]) s 0 0 A) (F0 m 51 ls []) := by
    intro  H locs b z2 ls hP hD hS hl hd
    rw [fd_X5_sizeOf_L51] at hd
    refine lv_aload_n hx hb dX5_sizeOf_51 rfl (lv_at hl 0 rfl) ?_
    refine lv_bipush (v := 11) hx hb dX5_sizeOf_52 (by decide) ?_
    obtain ⟨b_8, hc_54, hd⟩ := ob_s1 hd
    refine ob_Vv (isC := [0, 1, 2, 3, 4, 5, 6, 7, 8, 9, 10, 11, 12, 13]) (isR := []) (is2 := [0, 1, 2, 3, 4, 5, 6, 7, 8, 9, 10, 11, 12, 13]) (wc := (ob_w5 o_b a_b cI cZ b)) (wr := ([] : va_W)) (w1 := (ob_w5 o_b a_b cI cZ b_8)) (w2 := (ob_w5 o_b a_b cI cZ b_8)) (b := o_b) (As := [.int 11]) (rest := []) ⟨hx, hb, hml, hown, hts⟩ (mt_X5_begins l dC dI cI cZ cR cW xs _ o_b a_b b 11 b_8 hc_54) (cwV 1 hts gX5_sizeOf_X5_begins rfl rfl rfl (by decide +kernel) ⟨Nat.le_of_ble_eq_true rfl, Nat.le_of_ble_eq_true rfl⟩) hK hE hP hD hS hA ⟨rfl, rfl, rfl, rfl, rfl, rfl, rfl⟩ 5 0 rfl rfl rfl hl rfl rfl (Nat.le_of_ble_eq_true rfl) ⟨Nat.le_of_ble_eq_true rfl, Nat.le_of_ble_eq_true rfl⟩ dX5_sizeOf_54 (fun H locs hP hD hS => ?_)
    refine W.widen (k := 0) (n := 0) (Nat.le_refl _) (Nat.le_refl _) ?_
    refine lv_aload_n hx hb dX5_sizeOf_57 rfl (lv_at hl 0 rfl) ?_
    refine lv_bipush (v := 10) hx hb dX5_sizeOf_58 (by decide) ?_
    obtain ⟨b_9, hc_60, hd⟩ := ob_s1 hd
    refine ob_Vv (isC := [0, 1, 2, 3, 4, 5, 6, 7, 8, 9, 10, 11, 12, 13]) (isR := []) (is2 := [0, 1, 2, 3, 4, 5, 6, 7, 8, 9, 10, 11, 12, 13]) (wc := (ob_w5 o_b a_b cI cZ b_8)) (wr := ([] : va_W)) (w1 := (ob_w5 o_b a_b cI cZ b_9)) (w2 := (ob_w5 o_b a_b cI cZ b_9)) (b := o_b) (As := [.int 10]) (rest := []) ⟨hx, hb, hml, hown, hts⟩ (mt_X5_begins l dC dI cI cZ cR cW xs _ o_b a_b b_8 10 b_9 hc_60) (cwV 1 hts gX5_sizeOf_X5_begins rfl rfl rfl (by decide +kernel) ⟨Nat.le_of_ble_eq_true rfl, Nat.le_of_ble_eq_true rfl⟩) hK hE hP hD hS hA ⟨rfl, rfl, rfl, rfl, rfl, rfl, rfl⟩ 5 0 rfl rfl rfl hl rfl rfl (Nat.le_of_ble_eq_true rfl) ⟨Nat.le_of_ble_eq_true rfl, Nat.le_of_ble_eq_true rfl⟩ dX5_sizeOf_60 (fun H locs hP hD hS => ?_)
    refine W.widen (k := 0) (n := 0) (Nat.le_refl _) (Nat.le_refl _) ?_
    refine lv_aload_n hx hb dX5_sizeOf_63 rfl (lv_at hl 0 rfl) ?_
    refine va_get (D := (dC, dI)) (ci := 5) (v := .ref (a_b 12)) (C := RX5) (T := TX5) (N := 23) hx hb hts hi_X5 hown hK hP 0 rfl rfl 12 (by decide) kw0 (fun _ h9 => h9) rfl dX5_sizeOf_64 ?_
    refine lv_bipush (v := 21) hx hb dX5_sizeOf_67 (by decide) ?_
    refine lv_iload_n hx hb dX5_sizeOf_69 rfl (lv_at hl 1 rfl) ?_
    refine lv_iadd hx hb dX5_sizeOf_70 ?_
    obtain ⟨h1_71, hd⟩ := ob_nn hd
    refine va_iald hx hb hK hP 5 0 rfl rfl h1_71 dX5_sizeOf_71 ?_
    refine lv_aload_n hx hb dX5_sizeOf_72 rfl (lv_at hl 0 rfl) ?_
    refine lv_iload_n hx hb dX5_sizeOf_73 rfl (lv_at hl 1 rfl) ?_
    obtain ⟨r_10, b_11, hc_74, hd⟩ := ob_s2 hd
    refine ob_Vi (isC := [0, 1, 2, 3, 4, 5, 6, 7, 8, 9, 10, 11, 12, 13]) (isR := []) (is2 := [0, 1, 2, 3, 4, 5, 6, 7, 8, 9, 10, 11, 12, 13]) (wc := (ob_w5 o_b a_b cI cZ b_9)) (wr := ([] : va_W)) (w1 := (ob_w5 o_b a_b cI cZ b_11)) (w2 := (ob_w5 o_b a_b cI cZ b_11)) (b := o_b) (As := [.int x1]) (rest := [.int ((b_9.2 12) (Int32.toNatClampNeg (21 + x1)))]) ⟨hx, hb, hml, hown, hts⟩ (mt_X5_markPlain l dC dI cI cZ cR cW xs _ o_b a_b b_9 x1 r_10 b_11 hc_74) (cwV 1 hts gX5_sizeOf_X5_markPlain rfl rfl rfl (by decide +kernel) ⟨Nat.le_of_ble_eq_true rfl, Nat.le_of_ble_eq_true rfl⟩) hK hE hP hD hS hA ⟨rfl, rfl, rfl, rfl, rfl, rfl, rfl⟩ 5 0 rfl rfl rfl hl rfl rfl (Nat.le_of_ble_eq_true rfl) ⟨Nat.le_of_ble_eq_true rfl, Nat.le_of_ble_eq_true rfl⟩ dX5_sizeOf_74 (fun H locs hP hD hS => ?_)
    refine W.widen (k := 0) (n := 0) (Nat.le_refl _) (Nat.le_refl _) ?_
    refine lv_iadd hx hb dX5_sizeOf_77 ?_
    refine lv_topi (fun x_12 ex_12 => ?_)
    replace hd := ob_lx ex_12 hd
    clear ex_12
    refine lv_istore_n (lv' := [(3, .int x_12), (0, .ref o_b), (1, .int x1), (2, .int z2)]) hx hb dX5_sizeOf_78 rfl hl (by decide) rfl (fun ls hl => ?_)
    refine lv_iload_n hx hb dX5_sizeOf_79 rfl (lv_at hl 3 rfl) ?_
    refine lv_iconst (v := 2) hx hb dX5_sizeOf_80 (by decide) ?_
    refine lv_icmp_ne (tgt := 89) hx hb dX5_sizeOf_81 (by decide) (fun c_81 => ?_) (fun c_81 => ?_)
    · replace hd := ob_f c_81 hd
      refine lv_iload_n hx hb dX5_sizeOf_89 rfl (lv_at hl 0 rfl) ?_
      obtain ⟨e1, e2⟩ := ob_pp hd
      subst e1
      subst e2
      exact ob_iret hx hb hr hlocks hP hD hS dX5_sizeOf_90
    · replace hd := ob_t c_81 hd
      refine lv_iload_n hx hb dX5_sizeOf_84 rfl (lv_at hl 0 rfl) ?_
      refine lv_ineg hx hb dX5_sizeOf_85 ?_
      refine lv_goto (tgt := 90) hx hb dX5_sizeOf_86 (by decide) ?_
      obtain ⟨e1, e2⟩ := ob_pp hd
      subst e1
      subst e2
      exact ob_iret hx hb hr hlocks hP hD hS dX5_sizeOf_90
  refine lv_aload_n hx hb dX5_sizeOf_0 rfl (lv_at hl 0 rfl) ?_
  refine va_get (D := (dC, dI)) (ci := 5) (v := .ref (a_b 12)) (C := RX5) (T := TX5) (N := 23) hx hb hts hi_X5 hown hK hP 0 rfl rfl 12 (by decide) kw0 (fun _ h9 => h9) rfl dX5_sizeOf_1 ?_
  refine lv_bipush (v := 7) hx hb dX5_sizeOf_4 (by decide) ?_
  refine lv_iload_n hx hb dX5_sizeOf_6 rfl (lv_at hl 1 rfl) ?_
  refine lv_iadd hx hb dX5_sizeOf_7 ?_
  obtain ⟨h1_8, hd⟩ := ob_nn hd
  refine va_iald hx hb hK hP 5 0 rfl rfl h1_8 dX5_sizeOf_8 ?_
  refine lv_topi (fun x_1 ex_1 => ?_)
  replace hd := ob_lx ex_1 hd
  clear ex_1
  refine lv_istore_n (lv' := [(2, .int x_1), (0, .ref o_b), (1, .int x1)]) hx hb dX5_sizeOf_9 rfl hl (by decide) rfl (fun ls hl => ?_)
  refine lv_iload_n hx hb dX5_sizeOf_10 rfl (lv_at hl 0 rfl) ?_
  refine lv_iconst (v := 5) hx hb dX5_sizeOf_11 (by decide) ?_
  refine lv_icmp_ne (tgt := 29) hx hb dX5_sizeOf_12 (by decide) (fun c_12 => ?_) (fun c_12 => ?_)
  · replace hd := ob_f c_12 hd
    refine lv_iload_n hx hb dX5_sizeOf_29 rfl (lv_at hl 0 rfl) ?_
    refine lv_iconst (v := 4) hx hb dX5_sizeOf_30 (by decide) ?_
    refine lv_icmp_ne (tgt := 40) hx hb dX5_sizeOf_31 (by decide) (fun c_31 => ?_) (fun c_31 => ?_)
    · replace hd := ob_f c_31 hd
      refine lv_iload_n hx hb dX5_sizeOf_40 rfl (lv_at hl 0 rfl) ?_
      refine lv_iconst (v := 2) hx hb dX5_sizeOf_41 (by decide) ?_
      refine lv_icmp_ne (tgt := 51) hx hb dX5_sizeOf_42 (by decide) (fun c_42 => ?_) (fun c_42 => ?_)
      · replace hd := ob_f c_42 hd
        exact L51   _ _ b x_1 _ hP hD hS (lv_sub hl [1, 2, 0] rfl) hd
      · replace hd := ob_t c_42 hd
        refine lv_aload_n hx hb dX5_sizeOf_45 rfl (lv_at hl 1 rfl) ?_
        refine lv_bipush (v := 12) hx hb dX5_sizeOf_46 (by decide) ?_
        obtain ⟨b_2, hc_48, hd⟩ := ob_s1 hd
        refine ob_Vv (isC := [0, 1, 2, 3, 4, 5, 6, 7, 8, 9, 10, 11, 12, 13]) (isR := []) (is2 := [0, 1, 2, 3, 4, 5, 6, 7, 8, 9, 10, 11, 12, 13]) (wc := (ob_w5 o_b a_b cI cZ b)) (wr := ([] : va_W)) (w1 := (ob_w5 o_b a_b cI cZ b_2)) (w2 := (ob_w5 o_b a_b cI cZ b_2)) (b := o_b) (As := [.int 12]) (rest := []) ⟨hx, hb, hml, hown, hts⟩ (mt_X5_begins l dC dI cI cZ cR cW xs _ o_b a_b b 12 b_2 hc_48) (cwV 1 hts gX5_sizeOf_X5_begins rfl rfl rfl (by decide +kernel) ⟨Nat.le_of_ble_eq_true rfl, Nat.le_of_ble_eq_true rfl⟩) hK hE hP hD hS hA ⟨rfl, rfl, rfl, rfl, rfl, rfl, rfl⟩ 5 0 rfl rfl rfl hl rfl rfl (Nat.le_of_ble_eq_true rfl) ⟨Nat.le_of_ble_eq_true rfl, Nat.le_of_ble_eq_true rfl⟩ dX5_sizeOf_48 (fun H locs hP hD hS => ?_)
        refine W.widen (k := 0) (n := 0) (Nat.le_refl _) (Nat.le_refl _) ?_
        exact L51   _ _ b_2 x_1 _ hP hD hS (lv_sub hl [1, 2, 0] rfl) hd
    · replace hd := ob_t c_31 hd
      refine lv_aload_n hx hb dX5_sizeOf_34 rfl (lv_at hl 1 rfl) ?_
      refine lv_iload_n hx hb dX5_sizeOf_35 rfl (lv_at hl 2 rfl) ?_
      obtain ⟨r_3, b_4, hc_36, hd⟩ := ob_s2 hd
      refine ob_Vi (isC := [0, 1, 2, 3, 4, 5, 6, 7, 8, 9, 10, 11, 12, 13]) (isR := []) (is2 := [0, 1, 2, 3, 4, 5, 6, 7, 8, 9, 10, 11, 12, 13]) (wc := (ob_w5 o_b a_b cI cZ b)) (wr := ([] : va_W)) (w1 := (ob_w5 o_b a_b cI cZ b_4)) (w2 := (ob_w5 o_b a_b cI cZ b_4)) (b := o_b) (As := [.int x1]) (rest := []) ⟨hx, hb, hml, hown, hts⟩ (mt_X5_sizeLie l dC dI cI cZ cR cW xs _ o_b a_b b x1 r_3 b_4 hc_36) (cwV 1 hts gX5_sizeOf_X5_sizeLie rfl rfl rfl (by decide +kernel) ⟨Nat.le_of_ble_eq_true rfl, Nat.le_of_ble_eq_true rfl⟩) hK hE hP hD hS hA ⟨rfl, rfl, rfl, rfl, rfl, rfl, rfl⟩ 5 0 rfl rfl rfl hl rfl rfl (Nat.le_of_ble_eq_true rfl) ⟨Nat.le_of_ble_eq_true rfl, Nat.le_of_ble_eq_true rfl⟩ dX5_sizeOf_36 (fun H locs hP hD hS => ?_)
      refine W.widen (k := 0) (n := 0) (Nat.le_refl _) (Nat.le_refl _) ?_
      obtain ⟨e1, e2⟩ := ob_pp hd
      subst e1
      subst e2
      exact ob_iret hx hb hr hlocks hP hD hS dX5_sizeOf_39
  · replace hd := ob_t c_12 hd
    refine lv_aload_n hx hb dX5_sizeOf_15 rfl (lv_at hl 1 rfl) ?_
    refine lv_bipush (v := 14) hx hb dX5_sizeOf_16 (by decide) ?_
    obtain ⟨b_5, hc_18, hd⟩ := ob_s1 hd
    refine ob_Vv (isC := [0, 1, 2, 3, 4, 5, 6, 7, 8, 9, 10, 11, 12, 13]) (isR := []) (is2 := [0, 1, 2, 3, 4, 5, 6, 7, 8, 9, 10, 11, 12, 13]) (wc := (ob_w5 o_b a_b cI cZ b)) (wr := ([] : va_W)) (w1 := (ob_w5 o_b a_b cI cZ b_5)) (w2 := (ob_w5 o_b a_b cI cZ b_5)) (b := o_b) (As := [.int 14]) (rest := []) ⟨hx, hb, hml, hown, hts⟩ (mt_X5_begins l dC dI cI cZ cR cW xs _ o_b a_b b 14 b_5 hc_18) (cwV 1 hts gX5_sizeOf_X5_begins rfl rfl rfl (by decide +kernel) ⟨Nat.le_of_ble_eq_true rfl, Nat.le_of_ble_eq_true rfl⟩) hK hE hP hD hS hA ⟨rfl, rfl, rfl, rfl, rfl, rfl, rfl⟩ 5 0 rfl rfl rfl hl rfl rfl (Nat.le_of_ble_eq_true rfl) ⟨Nat.le_of_ble_eq_true rfl, Nat.le_of_ble_eq_true rfl⟩ dX5_sizeOf_18 (fun H locs hP hD hS => ?_)
    refine W.widen (k := 0) (n := 0) (Nat.le_refl _) (Nat.le_refl _) ?_
    refine lv_iconst (v := 2) hx hb dX5_sizeOf_21 (by decide) ?_
    refine lv_aload_n hx hb dX5_sizeOf_22 rfl (lv_at hl 1 rfl) ?_
    refine lv_iload_n hx hb dX5_sizeOf_23 rfl (lv_at hl 2 rfl) ?_
    obtain ⟨r_6, b_7, hc_24, hd⟩ := ob_s2 hd
    refine ob_Vi (isC := [0, 1, 2, 3, 4, 5, 6, 7, 8, 9, 10, 11, 12, 13]) (isR := []) (is2 := [0, 1, 2, 3, 4, 5, 6, 7, 8, 9, 10, 11, 12, 13]) (wc := (ob_w5 o_b a_b cI cZ b_5)) (wr := ([] : va_W)) (w1 := (ob_w5 o_b a_b cI cZ b_7)) (w2 := (ob_w5 o_b a_b cI cZ b_7)) (b := o_b) (As := [.int x1]) (rest := [.int 2]) ⟨hx, hb, hml, hown, hts⟩ (mt_X5_sizeLie l dC dI cI cZ cR cW xs _ o_b a_b b_5 x1 r_6 b_7 hc_24) (cwV 1 hts gX5_sizeOf_X5_sizeLie rfl rfl rfl (by decide +kernel) ⟨Nat.le_of_ble_eq_true rfl, Nat.le_of_ble_eq_true rfl⟩) hK hE hP hD hS hA ⟨rfl, rfl, rfl, rfl, rfl, rfl, rfl⟩ 5 0 rfl rfl rfl hl rfl rfl (Nat.le_of_ble_eq_true rfl) ⟨Nat.le_of_ble_eq_true rfl, Nat.le_of_ble_eq_true rfl⟩ dX5_sizeOf_24 (fun H locs hP hD hS => ?_)
    refine W.widen (k := 0) (n := 0) (Nat.le_refl _) (Nat.le_refl _) ?_
    refine lv_imul hx hb dX5_sizeOf_27 ?_
    obtain ⟨e1, e2⟩ := ob_pp hd
    subst e1
    subst e2
    exact ob_iret hx hb hr hlocks hP hD hS dX5_sizeOf_28

def fd_X5_markOf  (b : ob_B) (x1 : Int32) : Option (Int32 × ob_B) := if (7 + x1) < 0 ∨ 42 ≤ Int32.toNatClampNeg (7 + x1) then none else (if 4 ≤ ((b.2 12) (Int32.toNatClampNeg (7 + x1))) then (ob_b1 (fd_X5_begins b 23) (fun b_1 => ob_b1 (fd_X5_begins b_1 20) (fun b_2 => ob_b2 (fd_X5_sizeOf b_2 x1) (fun r_3 b_4 => some (x1 - r_3, b_4))))) else (ob_b2 (fd_X5_markPlain b x1) (fun r_5 b_6 => some (r_5, b_6))))
set_option maxHeartbeats 4000000 in
set_option maxRecDepth 100000 in
theorem mt_X5_markOf (l : Launch) (dC : Nat → ClassId) (dI : Nat → Nat → Nat) (cI cZ cR cW : ClassId) (xs : Nat → Nat) (sz : Nat) (o_b : Nat) (a_b : Nat → Nat) (b : ob_B) (x1 : Int32)  (rr : Int32) (b' : ob_B) (hd : fd_X5_markOf b x1 = some (rr, b')) : ob_M l yX5_markOf wsX5_markOf ({ frames := 4, cells := 0, slots := 0, locals := 87 } : Room) (dC, dI) (ob_ty cI cZ cR cW) xs [.ref o_b, .int x1] (ob_w5 o_b a_b cI cZ b) sz (ob_Qi (dC, dI) rr (ob_w5 o_b a_b cI cZ b')) := by
  rw [fd_X5_markOf] at hd
  refine ob_in (cc := cX5_markOf) (maxL := 2) (ret := (some .int)) (own := RX5) (by decide) rfl rfl [(0, .ref o_b), (1, .int x1)] rfl (Nat.le_of_ble_eq_true rfl) ?_
  intro p e s m below meth c hx hb hr hml hown hts hlocks hnm hK A hA hE hP hD hS ls hl
  have kw0 := hts (.fieldLink RX5 22 "OathCoachModel" "now" "[I") (by decide +kernel)
  have hi_X5 : ∀ w ∈ u_ws RX5 TX5 23, w ∈ wsX5_markOf := by decide +kernel
  refine lv_aload_n hx hb dX5_markOf_0 rfl (lv_at hl 0 rfl) ?_
  refine va_get (D := (dC, dI)) (ci := 5) (v := .ref (a_b 12)) (C := RX5) (T := TX5) (N := 23) hx hb hts hi_X5 hown hK hP 0 rfl rfl 12 (by decide) kw0 (fun _ h9 => h9) rfl dX5_markOf_1 ?_
  refine lv_bipush (v := 7) hx hb dX5_markOf_4 (by decide) ?_
  refine lv_iload_n hx hb dX5_markOf_6 rfl (lv_at hl 1 rfl) ?_
  refine lv_iadd hx hb dX5_markOf_7 ?_
  obtain ⟨h1_8, hd⟩ := ob_nn hd
  refine va_iald hx hb hK hP 5 0 rfl rfl h1_8 dX5_markOf_8 ?_
  refine lv_iconst (v := 4) hx hb dX5_markOf_9 (by decide) ?_
  refine lv_icmp_ge (tgt := 19) hx hb dX5_markOf_10 (by decide) (fun c_10 => ?_) (fun c_10 => ?_)
  · replace hd := ob_t c_10 hd
    refine lv_aload_n hx hb dX5_markOf_19 rfl (lv_at hl 0 rfl) ?_
    refine lv_bipush (v := 23) hx hb dX5_markOf_20 (by decide) ?_
    obtain ⟨b_1, hc_22, hd⟩ := ob_s1 hd
    refine ob_Vv (isC := [0, 1, 2, 3, 4, 5, 6, 7, 8, 9, 10, 11, 12, 13]) (isR := []) (is2 := [0, 1, 2, 3, 4, 5, 6, 7, 8, 9, 10, 11, 12, 13]) (wc := (ob_w5 o_b a_b cI cZ b)) (wr := ([] : va_W)) (w1 := (ob_w5 o_b a_b cI cZ b_1)) (w2 := (ob_w5 o_b a_b cI cZ b_1)) (b := o_b) (As := [.int 23]) (rest := []) ⟨hx, hb, hml, hown, hts⟩ (mt_X5_begins l dC dI cI cZ cR cW xs _ o_b a_b b 23 b_1 hc_22) (cwV 1 hts gX5_markOf_X5_begins rfl rfl rfl (by decide +kernel) ⟨Nat.le_of_ble_eq_true rfl, Nat.le_of_ble_eq_true rfl⟩) hK hE hP hD hS hA ⟨rfl, rfl, rfl, rfl, rfl, rfl, rfl⟩ 5 0 rfl rfl rfl hl rfl rfl (Nat.le_of_ble_eq_true rfl) ⟨Nat.le_of_ble_eq_true rfl, Nat.le_of_ble_eq_true rfl⟩ dX5_markOf_22 (fun H locs hP hD hS => ?_)
    refine W.widen (k := 0) (n := 0) (Nat.le_refl _) (Nat.le_refl _) ?_
    refine lv_aload_n hx hb dX5_markOf_25 rfl (lv_at hl 0 rfl) ?_
    refine lv_bipush (v := 20) hx hb dX5_markOf_26 (by decide) ?_
    obtain ⟨b_2, hc_28, hd⟩ := ob_s1 hd
    refine ob_Vv (isC := [0, 1, 2, 3, 4, 5, 6, 7, 8, 9, 10, 11, 12, 13]) (isR := []) (is2 := [0, 1, 2, 3, 4, 5, 6, 7, 8, 9, 10, 11, 12, 13]) (wc := (ob_w5 o_b a_b cI cZ b_1)) (wr := ([] : va_W)) (w1 := (ob_w5 o_b a_b cI cZ b_2)) (w2 := (ob_w5 o_b a_b cI cZ b_2)) (b := o_b) (As := [.int 20]) (rest := []) ⟨hx, hb, hml, hown, hts⟩ (mt_X5_begins l dC dI cI cZ cR cW xs _ o_b a_b b_1 20 b_2 hc_28) (cwV 1 hts gX5_markOf_X5_begins rfl rfl rfl (by decide +kernel) ⟨Nat.le_of_ble_eq_true rfl, Nat.le_of_ble_eq_true rfl⟩) hK hE hP hD hS hA ⟨rfl, rfl, rfl, rfl, rfl, rfl, rfl⟩ 5 0 rfl rfl rfl hl rfl rfl (Nat.le_of_ble_eq_true rfl) ⟨Nat.le_of_ble_eq_true rfl, Nat.le_of_ble_eq_true rfl⟩ dX5_markOf_28 (fun H locs hP hD hS => ?_)
    refine W.widen (k := 0) (n := 0) (Nat.le_refl _) (Nat.le_refl _) ?_
    refine lv_iload_n hx hb dX5_markOf_31 rfl (lv_at hl 1 rfl) ?_
    refine lv_aload_n hx hb dX5_markOf_32 rfl (lv_at hl 0 rfl) ?_
    refine lv_iload_n hx hb dX5_markOf_33 rfl (lv_at hl 1 rfl) ?_
    obtain ⟨r_3, b_4, hc_34, hd⟩ := ob_s2 hd
    refine ob_Vi (isC := [0, 1, 2, 3, 4, 5, 6, 7, 8, 9, 10, 11, 12, 13]) (isR := []) (is2 := [0, 1, 2, 3, 4, 5, 6, 7, 8, 9, 10, 11, 12, 13]) (wc := (ob_w5 o_b a_b cI cZ b_2)) (wr := ([] : va_W)) (w1 := (ob_w5 o_b a_b cI cZ b_4)) (w2 := (ob_w5 o_b a_b cI cZ b_4)) (b := o_b) (As := [.int x1]) (rest := [.int x1]) ⟨hx, hb, hml, hown, hts⟩ (mt_X5_sizeOf l dC dI cI cZ cR cW xs _ o_b a_b b_2 x1 r_3 b_4 hc_34) (cwV 1 hts gX5_markOf_X5_sizeOf rfl rfl rfl (by decide +kernel) ⟨Nat.le_of_ble_eq_true rfl, Nat.le_of_ble_eq_true rfl⟩) hK hE hP hD hS hA ⟨rfl, rfl, rfl, rfl, rfl, rfl, rfl⟩ 5 0 rfl rfl rfl hl rfl rfl (Nat.le_of_ble_eq_true rfl) ⟨Nat.le_of_ble_eq_true rfl, Nat.le_of_ble_eq_true rfl⟩ dX5_markOf_34 (fun H locs hP hD hS => ?_)
    refine W.widen (k := 0) (n := 0) (Nat.le_refl _) (Nat.le_refl _) ?_
    refine lv_isub hx hb dX5_markOf_37 ?_
    obtain ⟨e1, e2⟩ := ob_pp hd
    subst e1
    subst e2
    exact ob_iret hx hb hr hlocks hP hD hS dX5_markOf_38
  · replace hd := ob_f c_10 hd
    refine lv_aload_n hx hb dX5_markOf_13 rfl (lv_at hl 0 rfl) ?_
    refine lv_iload_n hx hb dX5_markOf_14 rfl (lv_at hl 1 rfl) ?_
    obtain ⟨r_5, b_6, hc_15, hd⟩ := ob_s2 hd
    refine ob_Vi (isC := [0, 1, 2, 3, 4, 5, 6, 7, 8, 9, 10, 11, 12, 13]) (isR := []) (is2 := [0, 1, 2, 3, 4, 5, 6, 7, 8, 9, 10, 11, 12, 13]) (wc := (ob_w5 o_b a_b cI cZ b)) (wr := ([] : va_W)) (w1 := (ob_w5 o_b a_b cI cZ b_6)) (w2 := (ob_w5 o_b a_b cI cZ b_6)) (b := o_b) (As := [.int x1]) (rest := []) ⟨hx, hb, hml, hown, hts⟩ (mt_X5_markPlain l dC dI cI cZ cR cW xs _ o_b a_b b x1 r_5 b_6 hc_15) (cwV 1 hts gX5_markOf_X5_markPlain rfl rfl rfl (by decide +kernel) ⟨Nat.le_of_ble_eq_true rfl, Nat.le_of_ble_eq_true rfl⟩) hK hE hP hD hS hA ⟨rfl, rfl, rfl, rfl, rfl, rfl, rfl⟩ 5 0 rfl rfl rfl hl rfl rfl (Nat.le_of_ble_eq_true rfl) ⟨Nat.le_of_ble_eq_true rfl, Nat.le_of_ble_eq_true rfl⟩ dX5_markOf_15 (fun H locs hP hD hS => ?_)
    refine W.widen (k := 0) (n := 0) (Nat.le_refl _) (Nat.le_refl _) ?_
    obtain ⟨e1, e2⟩ := ob_pp hd
    subst e1
    subst e2
    exact ob_iret hx hb hr hlocks hP hD hS dX5_markOf_18

def fd_X5_ask  (b : ob_B) (x1 : Int32) (x2 : Int32) : Option (Int32 × ob_B) := ob_b1 (fd_X5_isOne b x1) (fun r_1 => if r_1 = 0 then (some ((-1000001), b)) else (ob_b1 (fd_X5_in x2 0 1) (fun r_2 => if r_2 = 0 then (some ((-1000001), b)) else (ob_lt (ob_I b 20 0 : ob_B) (fun b_3 => if x2 = 0 then (ob_b2 (fd_X5_sizeOf b_3 x1) (fun r_6 b_7 => some (r_6, b_7))) else (ob_b2 (fd_X5_markOf b_3 x1) (fun r_4 b_5 => some (r_4, b_5))))))))
set_option maxHeartbeats 4000000 in
set_option maxRecDepth 100000 in
theorem mt_X5_ask (l : Launch) (dC : Nat → ClassId) (dI : Nat → Nat → Nat) (cI cZ cR cW : ClassId) (xs : Nat → Nat) (sz : Nat) (o_b : Nat) (a_b : Nat → Nat) (b : ob_B) (x1 : Int32) (x2 : Int32)  (rr : Int32) (b' : ob_B) (hd : fd_X5_ask b x1 x2 = some (rr, b')) : ob_M l yX5_ask wsX5_ask ({ frames := 5, cells := 0, slots := 0, locals := 108 } : Room) (dC, dI) (ob_ty cI cZ cR cW) xs [.ref o_b, .int x1, .int x2] (ob_w5 o_b a_b cI cZ b) sz (ob_Qi (dC, dI) rr (ob_w5 o_b a_b cI cZ b')) := by
  rw [fd_X5_ask] at hd
  refine ob_in (cc := cX5_ask) (maxL := 3) (ret := (some .int)) (own := RX5) (by decide) rfl rfl [(0, .ref o_b), (1, .int x1), (2, .int x2)] rfl (Nat.le_of_ble_eq_true rfl) ?_
  intro p e s m below meth c hx hb hr hml hown hts hlocks hnm hK A hA hE hP hD hS ls hl
  have kw0 := hts (.constant RX5 63 (-1000001)) (by decide +kernel)
  have kw1 := hts (.fieldLink RX5 200 "OathCoachModel" "traceMany" "I") (by decide +kernel)
  have hi_X5 : ∀ w ∈ u_ws RX5 TX5 23, w ∈ wsX5_ask := by decide +kernel
  refine lv_aload_n hx hb dX5_ask_0 rfl (lv_at hl 0 rfl) ?_
  refine lv_iload_n hx hb dX5_ask_1 rfl (lv_at hl 1 rfl) ?_
  obtain ⟨r_1, hc_2, hd⟩ := ob_s1 hd
  refine ob_Vi (isC := [0, 1, 2, 3, 4, 5, 6, 7, 8, 9, 10, 11, 12, 13]) (isR := []) (is2 := [0, 1, 2, 3, 4, 5, 6, 7, 8, 9, 10, 11, 12, 13]) (wc := (ob_w5 o_b a_b cI cZ b)) (wr := ([] : va_W)) (w1 := (ob_w5 o_b a_b cI cZ b)) (w2 := (ob_w5 o_b a_b cI cZ b)) (b := o_b) (As := [.int x1]) (rest := []) ⟨hx, hb, hml, hown, hts⟩ (mt_X5_isOne l dC dI cI cZ cR cW xs _ o_b a_b b x1 r_1 hc_2) (cwV 1 hts gX5_ask_X5_isOne rfl rfl rfl (by decide +kernel) ⟨Nat.le_of_ble_eq_true rfl, Nat.le_of_ble_eq_true rfl⟩) hK hE hP hD hS hA ⟨rfl, rfl, rfl, rfl, rfl, rfl, rfl⟩ 5 0 rfl rfl rfl hl rfl rfl (Nat.le_of_ble_eq_true rfl) ⟨Nat.le_of_ble_eq_true rfl, Nat.le_of_ble_eq_true rfl⟩ dX5_ask_2 (fun H locs hP hD hS => ?_)
  refine W.widen (k := 0) (n := 0) (Nat.le_refl _) (Nat.le_refl _) ?_
  refine lv_if_eq (tgt := 17) hx hb dX5_ask_5 (by decide) (fun c_5 => ?_) (fun c_5 => ?_)
  · replace hd := ob_t c_5 hd
    refine lv_ldc hx hb hown kw0 dX5_ask_17 ?_
    obtain ⟨e1, e2⟩ := ob_pp hd
    subst e1
    subst e2
    exact ob_iret hx hb hr hlocks hP hD hS dX5_ask_19
  · replace hd := ob_f c_5 hd
    refine lv_iload_n hx hb dX5_ask_8 rfl (lv_at hl 2 rfl) ?_
    refine lv_iconst (v := 0) hx hb dX5_ask_9 (by decide) ?_
    refine lv_iconst (v := 1) hx hb dX5_ask_10 (by decide) ?_
    obtain ⟨r_2, hc_11, hd⟩ := ob_s1 hd
    refine ob_Si (isC := []) (isR := [0, 1, 2, 3, 4, 5, 6, 7, 8, 9, 10, 11, 12, 13]) (is2 := [0, 1, 2, 3, 4, 5, 6, 7, 8, 9, 10, 11, 12, 13]) (wc := ([] : va_W)) (wr := (List.filterMap (fun i => (ob_w5 o_b a_b cI cZ b)[i]?) [0, 1, 2, 3, 4, 5, 6, 7, 8, 9, 10, 11, 12, 13])) (w1 := ([] : va_W)) (w2 := (ob_w5 o_b a_b cI cZ b)) (As := [.int x2, .int 0, .int 1]) (rest := []) ⟨hx, hb, hml, hown, hts⟩ (mt_X5_in l dC dI cI cZ cR cW xs _ x2 0 1 r_2 hc_11) (va_cwS 3 hts gX5_ask_X5_in rfl rfl rfl (by decide +kernel) ⟨Nat.le_of_ble_eq_true rfl, Nat.le_of_ble_eq_true rfl⟩) hK hE hP hD hS hA ⟨rfl, rfl, rfl, rfl, rfl, rfl, rfl⟩ hl rfl rfl (Nat.le_of_ble_eq_true rfl) ⟨Nat.le_of_ble_eq_true rfl, Nat.le_of_ble_eq_true rfl⟩ dX5_ask_11 (fun H locs hP hD hS => ?_)
    refine W.widen (k := 0) (n := 0) (Nat.le_refl _) (Nat.le_refl _) ?_
    refine lv_if_ne (tgt := 20) hx hb dX5_ask_14 (by decide) (fun c_14 => ?_) (fun c_14 => ?_)
    · replace hd := ob_f c_14 hd
      refine lv_aload_n hx hb dX5_ask_20 rfl (lv_at hl 0 rfl) ?_
      refine lv_iconst (v := 0) hx hb dX5_ask_21 (by decide) ?_
      refine va_put (D := (dC, dI)) (ci := 5) (v := .int 0) (ty := .int) (C := RX5) (T := TX5) (N := 23) hx hb hts hi_X5 tyX5 tyX5_ok nmX5 hown hK hP hD hS 0 rfl rfl 20 (by decide) kw1 (fun _ h9 => h9) rfl (by decide +kernel) rfl rfl (Nat.le_of_ble_eq_true rfl) dX5_ask_22 (fun H locs hP hD hS => ?_)
      obtain ⟨b_3, eb_3⟩ : ∃ z : ob_B, z = ob_I b 20 0 := ⟨_, rfl⟩
      replace hd := ob_lx eb_3 hd
      replace hP : va_P (dC, dI) vwCl (ob_w5 o_b a_b cI cZ b_3) H := by rw [eb_3]; exact hP
      replace hD : va_D A (ob_w5 o_b a_b cI cZ b_3) := by rw [eb_3]; exact hD
      clear eb_3
      refine lv_iload_n hx hb dX5_ask_25 rfl (lv_at hl 2 rfl) ?_
      refine lv_if_ne (tgt := 37) hx hb dX5_ask_26 (by decide) (fun c_26 => ?_) (fun c_26 => ?_)
      · replace hd := ob_f c_26 hd
        refine lv_aload_n hx hb dX5_ask_37 rfl (lv_at hl 0 rfl) ?_
        refine lv_iload_n hx hb dX5_ask_38 rfl (lv_at hl 1 rfl) ?_
        obtain ⟨r_4, b_5, hc_39, hd⟩ := ob_s2 hd
        refine ob_Vi (isC := [0, 1, 2, 3, 4, 5, 6, 7, 8, 9, 10, 11, 12, 13]) (isR := []) (is2 := [0, 1, 2, 3, 4, 5, 6, 7, 8, 9, 10, 11, 12, 13]) (wc := (ob_w5 o_b a_b cI cZ b_3)) (wr := ([] : va_W)) (w1 := (ob_w5 o_b a_b cI cZ b_5)) (w2 := (ob_w5 o_b a_b cI cZ b_5)) (b := o_b) (As := [.int x1]) (rest := []) ⟨hx, hb, hml, hown, hts⟩ (mt_X5_markOf l dC dI cI cZ cR cW xs _ o_b a_b b_3 x1 r_4 b_5 hc_39) (cwV 1 hts gX5_ask_X5_markOf rfl rfl rfl (by decide +kernel) ⟨Nat.le_of_ble_eq_true rfl, Nat.le_of_ble_eq_true rfl⟩) hK hE hP hD hS hA ⟨rfl, rfl, rfl, rfl, rfl, rfl, rfl⟩ 5 0 rfl rfl rfl hl rfl rfl (Nat.le_of_ble_eq_true rfl) ⟨Nat.le_of_ble_eq_true rfl, Nat.le_of_ble_eq_true rfl⟩ dX5_ask_39 (fun H locs hP hD hS => ?_)
        refine W.widen (k := 0) (n := 0) (Nat.le_refl _) (Nat.le_refl _) ?_
        obtain ⟨e1, e2⟩ := ob_pp hd
        subst e1
        subst e2
        exact ob_iret hx hb hr hlocks hP hD hS dX5_ask_42
      · replace hd := ob_t c_26 hd
        refine lv_aload_n hx hb dX5_ask_29 rfl (lv_at hl 0 rfl) ?_
        refine lv_iload_n hx hb dX5_ask_30 rfl (lv_at hl 1 rfl) ?_
        obtain ⟨r_6, b_7, hc_31, hd⟩ := ob_s2 hd
        refine ob_Vi (isC := [0, 1, 2, 3, 4, 5, 6, 7, 8, 9, 10, 11, 12, 13]) (isR := []) (is2 := [0, 1, 2, 3, 4, 5, 6, 7, 8, 9, 10, 11, 12, 13]) (wc := (ob_w5 o_b a_b cI cZ b_3)) (wr := ([] : va_W)) (w1 := (ob_w5 o_b a_b cI cZ b_7)) (w2 := (ob_w5 o_b a_b cI cZ b_7)) (b := o_b) (As := [.int x1]) (rest := []) ⟨hx, hb, hml, hown, hts⟩ (mt_X5_sizeOf l dC dI cI cZ cR cW xs _ o_b a_b b_3 x1 r_6 b_7 hc_31) (cwV 1 hts gX5_ask_X5_sizeOf rfl rfl rfl (by decide +kernel) ⟨Nat.le_of_ble_eq_true rfl, Nat.le_of_ble_eq_true rfl⟩) hK hE hP hD hS hA ⟨rfl, rfl, rfl, rfl, rfl, rfl, rfl⟩ 5 0 rfl rfl rfl hl rfl rfl (Nat.le_of_ble_eq_true rfl) ⟨Nat.le_of_ble_eq_true rfl, Nat.le_of_ble_eq_true rfl⟩ dX5_ask_31 (fun H locs hP hD hS => ?_)
        refine W.widen (k := 0) (n := 0) (Nat.le_refl _) (Nat.le_refl _) ?_
        refine lv_goto (tgt := 42) hx hb dX5_ask_34 (by decide) ?_
        obtain ⟨e1, e2⟩ := ob_pp hd
        subst e1
        subst e2
        exact ob_iret hx hb hr hlocks hP hD hS dX5_ask_42
    · replace hd := ob_t c_14 hd
      refine lv_ldc hx hb hown kw0 dX5_ask_17 ?_
      obtain ⟨e1, e2⟩ := ob_pp hd
      subst e1
      subst e2
      exact ob_iret hx hb hr hlocks hP hD hS dX5_ask_19

def fd_X5_trace  (b : ob_B) (x1 : Int32) : Option (Int32) := ob_b1 (fd_X5_in x1 0 ((b.1 20) - 1)) (fun r_1 => if r_1 = 0 then (some ((-1000000))) else (if x1 < 0 ∨ 16 ≤ Int32.toNatClampNeg x1 then none else (some ((b.2 19) (Int32.toNatClampNeg x1)))))
set_option maxHeartbeats 4000000 in
set_option maxRecDepth 100000 in
theorem mt_X5_trace (l : Launch) (dC : Nat → ClassId) (dI : Nat → Nat → Nat) (cI cZ cR cW : ClassId) (xs : Nat → Nat) (sz : Nat) (o_b : Nat) (a_b : Nat → Nat) (b : ob_B) (x1 : Int32)  (rr : Int32) (hd : fd_X5_trace b x1 = some (rr)) : ob_M l yX5_trace wsX5_trace ({ frames := 1, cells := 0, slots := 0, locals := 22 } : Room) (dC, dI) (ob_ty cI cZ cR cW) xs [.ref o_b, .int x1] (ob_w5 o_b a_b cI cZ b) sz (ob_Qi (dC, dI) rr (ob_w5 o_b a_b cI cZ b)) := by
  rw [fd_X5_trace] at hd
  refine ob_in (cc := cX5_trace) (maxL := 2) (ret := (some .int)) (own := RX5) (by decide) rfl rfl [(0, .ref o_b), (1, .int x1)] rfl (Nat.le_of_ble_eq_true rfl) ?_
  intro p e s m below meth c hx hb hr hml hown hts hlocks hnm hK A hA hE hP hD hS ls hl
  have kw0 := hts (.fieldLink RX5 200 "OathCoachModel" "traceMany" "I") (by decide +kernel)
  have kw1 := hts (.constant RX5 163 (-1000000)) (by decide +kernel)
  have kw2 := hts (.fieldLink RX5 41 "OathCoachModel" "trace" "[I") (by decide +kernel)
  have hi_X5 : ∀ w ∈ u_ws RX5 TX5 23, w ∈ wsX5_trace := by decide +kernel
  refine lv_iload_n hx hb dX5_trace_0 rfl (lv_at hl 1 rfl) ?_
  refine lv_iconst (v := 0) hx hb dX5_trace_1 (by decide) ?_
  refine lv_aload_n hx hb dX5_trace_2 rfl (lv_at hl 0 rfl) ?_
  refine va_get (D := (dC, dI)) (ci := 5) (v := .int (b.1 20)) (C := RX5) (T := TX5) (N := 23) hx hb hts hi_X5 hown hK hP 0 rfl rfl 20 (by decide) kw0 (fun _ h9 => h9) rfl dX5_trace_3 ?_
  refine lv_iconst (v := 1) hx hb dX5_trace_6 (by decide) ?_
  refine lv_isub hx hb dX5_trace_7 ?_
  obtain ⟨r_1, hc_8, hd⟩ := ob_s1 hd
  refine ob_Si (isC := []) (isR := [0, 1, 2, 3, 4, 5, 6, 7, 8, 9, 10, 11, 12, 13]) (is2 := [0, 1, 2, 3, 4, 5, 6, 7, 8, 9, 10, 11, 12, 13]) (wc := ([] : va_W)) (wr := (List.filterMap (fun i => (ob_w5 o_b a_b cI cZ b)[i]?) [0, 1, 2, 3, 4, 5, 6, 7, 8, 9, 10, 11, 12, 13])) (w1 := ([] : va_W)) (w2 := (ob_w5 o_b a_b cI cZ b)) (As := [.int x1, .int 0, .int ((b.1 20) - 1)]) (rest := []) ⟨hx, hb, hml, hown, hts⟩ (mt_X5_in l dC dI cI cZ cR cW xs _ x1 0 ((b.1 20) - 1) r_1 hc_8) (va_cwS 3 hts gX5_trace_X5_in rfl rfl rfl (by decide +kernel) ⟨Nat.le_of_ble_eq_true rfl, Nat.le_of_ble_eq_true rfl⟩) hK hE hP hD hS hA ⟨rfl, rfl, rfl, rfl, rfl, rfl, rfl⟩ hl rfl rfl (Nat.le_of_ble_eq_true rfl) ⟨Nat.le_of_ble_eq_true rfl, Nat.le_of_ble_eq_true rfl⟩ dX5_trace_8 (fun H locs hP hD hS => ?_)
  refine W.widen (k := 0) (n := 0) (Nat.le_refl _) (Nat.le_refl _) ?_
  refine lv_if_eq (tgt := 23) hx hb dX5_trace_11 (by decide) (fun c_11 => ?_) (fun c_11 => ?_)
  · replace hd := ob_t c_11 hd
    refine lv_ldc hx hb hown kw1 dX5_trace_23 ?_
    have e1 := Option.some.inj hd
    subst e1
    exact ob_iret hx hb hr hlocks hP hD hS dX5_trace_25
  · replace hd := ob_f c_11 hd
    refine lv_aload_n hx hb dX5_trace_14 rfl (lv_at hl 0 rfl) ?_
    refine va_get (D := (dC, dI)) (ci := 5) (v := .ref (a_b 19)) (C := RX5) (T := TX5) (N := 23) hx hb hts hi_X5 hown hK hP 0 rfl rfl 19 (by decide) kw2 (fun _ h9 => h9) rfl dX5_trace_15 ?_
    refine lv_iload_n hx hb dX5_trace_18 rfl (lv_at hl 1 rfl) ?_
    obtain ⟨h1_19, hd⟩ := ob_nn hd
    refine va_iald hx hb hK hP 11 0 rfl rfl h1_19 dX5_trace_19 ?_
    refine lv_goto (tgt := 25) hx hb dX5_trace_20 (by decide) ?_
    have e1 := Option.some.inj hd
    subst e1
    exact ob_iret hx hb hr hlocks hP hD hS dX5_trace_25

def fd_X5_count_L33  (b : ob_B) (x1 : Int32) (z2 : Int32) : Option (Int32) := if x1 = 0 then (some (z2)) else (if x1 = 1 then (some ((b.2 12) (Int32.toNatClampNeg 2))) else (if x1 = 2 then (ob_b1 (fd_X5_openOf ((b.2 12))) (fun r_5 => some (r_5))) else (if x1 = 3 then (some ((b.2 12) (Int32.toNatClampNeg 3))) else (if x1 = 4 then (some ((b.2 12) (Int32.toNatClampNeg 5))) else (if x1 = 5 then (some ((b.2 12) (Int32.toNatClampNeg 6))) else (if x1 = 6 then (some (b.1 18)) else (if x1 = 7 then (some (b.1 4)) else (some ((-1000001))))))))))
def fd_X5_count_L4  : Nat → ob_B → Int32 → Int32 → Int32 → Option (Int32)
  | 0, _, _, _, _ => none
  | fu + 1, b, x1, z2, z3 => if 8 ≤ z3 then (fd_X5_count_L33 b x1 z2) else (if z3 < 0 ∨ 8 ≤ Int32.toNatClampNeg z3 then none else (if 0 ≤ ((b.2 0) (Int32.toNatClampNeg z3)) then (ob_lt (z2 + 1 : Int32) (fun x_1 => ob_lt (z3 + 1 : Int32) (fun x_2 => fd_X5_count_L4 fu b x1 x_1 x_2))) else (ob_lt (z2 + 0 : Int32) (fun x_3 => ob_lt (z3 + 1 : Int32) (fun x_4 => fd_X5_count_L4 fu b x1 x_3 x_4)))))
def fd_X5_count  (b : ob_B) (x1 : Int32) : Option (Int32) := fd_X5_count_L4 2000 b x1 0 0
set_option maxHeartbeats 4000000 in
set_option maxRecDepth 100000 in
theorem mt_X5_count (l : Launch) (dC : Nat → ClassId) (dI : Nat → Nat → Nat) (cI cZ cR cW : ClassId) (xs : Nat → Nat) (sz : Nat) (o_b : Nat) (a_b : Nat → Nat) (b : ob_B) (x1 : Int32)  (rr : Int32) (hd : fd_X5_count b x1 = some (rr)) : ob_M l yX5_count wsX5_count ({ frames := 1, cells := 0, slots := 0, locals := 22 } : Room) (dC, dI) (ob_ty cI cZ cR cW) xs [.ref o_b, .int x1] (ob_w5 o_b a_b cI cZ b) sz (ob_Qi (dC, dI) rr (ob_w5 o_b a_b cI cZ b)) := by
  rw [fd_X5_count] at hd
  refine ob_in (cc := cX5_count) (maxL := 4) (ret := (some .int)) (own := RX5) (by decide) rfl rfl [(0, .ref o_b), (1, .int x1)] rfl (Nat.le_of_ble_eq_true rfl) ?_
  intro p e s m below meth c hx hb hr hml hown hts hlocks hnm hK A hA hE hP hD hS ls hl
  have kw0 := hts (.fieldLink RX5 7 "OathCoachModel" "lane" "[I") (by decide +kernel)
  have kw1 := hts (.fieldLink RX5 22 "OathCoachModel" "now" "[I") (by decide +kernel)
  have kw2 := hts (.fieldLink RX5 127 "OathCoachModel" "acts" "I") (by decide +kernel)
  have kw3 := hts (.fieldLink RX5 74 "OathCoachModel" "letters" "I") (by decide +kernel)
  have kw4 := hts (.constant RX5 63 (-1000001)) (by decide +kernel)
  have hi_X5 : ∀ w ∈ u_ws RX5 TX5 23, w ∈ wsX5_count := by decide +kernel
  have L33 : ∀ (H : Heap) (locs : List Loc)  (z2 : Int32) (ls : Array Slot), va_P (dC, dI) vwCl (ob_w5 o_b a_b cI cZ b) H → va_D A (ob_w5 o_b a_b cI cZ b) → va_S A s.heap H locs → lv_has ls 4 [(0, .ref o_b), (1, .int x1), (2, .int z2)] → fd_X5_count_L33 b x1 z2 = some (rr) → W p l e ({ frames := 1, cells := 0, slots := 0, locals := 22 } : Room) s m (List.toArray [.ref o_b, .int x1]) below meth c H locs 0 0 (MQ below ((ob_Qi (dC, dI) rr (ob_w5 o_b a_b cI cZ b)) A) (List.toArray [.ref o_b, .int x1]) s 0 0 A) (F0 m 33 ls []) := by
    intro  H locs z2 ls hP hD hS hl hd
    rw [fd_X5_count_L33] at hd
    refine lv_iload_n hx hb dX5_count_33 rfl (lv_at hl 1 rfl) ?_
    by_cases c0_34 : x1 = 0
    · replace hd := ob_t c0_34 hd
      refine lv_tableIn (off := 46) (tgt := 80) hx hb dX5_count_34 (by rw [c0_34]; decide) (by rw [c0_34]; decide) (by rw [c0_34]; decide) (by decide) ?_
      refine lv_iload_n hx hb dX5_count_80 rfl (lv_at hl 2 rfl) ?_
      have e1 := Option.some.inj hd
      subst e1
      exact ob_iret hx hb hr hlocks hP hD hS dX5_count_81
    replace hd := ob_f c0_34 hd
    by_cases c1_34 : x1 = 1
    · replace hd := ob_t c1_34 hd
      refine lv_tableIn (off := 48) (tgt := 82) hx hb dX5_count_34 (by rw [c1_34]; decide) (by rw [c1_34]; decide) (by rw [c1_34]; decide) (by decide) ?_
      refine lv_aload_n hx hb dX5_count_82 rfl (lv_at hl 0 rfl) ?_
      refine va_get (D := (dC, dI)) (ci := 5) (v := .ref (a_b 12)) (C := RX5) (T := TX5) (N := 23) hx hb hts hi_X5 hown hK hP 0 rfl rfl 12 (by decide) kw1 (fun _ h9 => h9) rfl dX5_count_83 ?_
      refine lv_iconst (v := 2) hx hb dX5_count_86 (by decide) ?_
      refine va_iald hx hb hK hP 5 0 rfl rfl (by unfold vp_in; decide) dX5_count_87 ?_
      have e1 := Option.some.inj hd
      subst e1
      exact ob_iret hx hb hr hlocks hP hD hS dX5_count_88
    replace hd := ob_f c1_34 hd
    by_cases c2_34 : x1 = 2
    · replace hd := ob_t c2_34 hd
      refine lv_tableIn (off := 55) (tgt := 89) hx hb dX5_count_34 (by rw [c2_34]; decide) (by rw [c2_34]; decide) (by rw [c2_34]; decide) (by decide) ?_
      refine lv_aload_n hx hb dX5_count_89 rfl (lv_at hl 0 rfl) ?_
      refine va_get (D := (dC, dI)) (ci := 5) (v := .ref (a_b 12)) (C := RX5) (T := TX5) (N := 23) hx hb hts hi_X5 hown hK hP 0 rfl rfl 12 (by decide) kw1 (fun _ h9 => h9) rfl dX5_count_90 ?_
      obtain ⟨r_5, hc_93, hd⟩ := ob_s1 hd
      refine ob_Si (isC := [5]) (isR := [0, 1, 2, 3, 4, 6, 7, 8, 9, 10, 11, 12, 13]) (is2 := [0, 1, 2, 3, 4, 13, 5, 6, 7, 8, 9, 10, 11, 12]) (wc := (ob_wa (a_b 12) cI 42 (b.2 12))) (wr := (List.filterMap (fun i => (ob_w5 o_b a_b cI cZ b)[i]?) [0, 1, 2, 3, 4, 6, 7, 8, 9, 10, 11, 12, 13])) (w1 := (ob_wa (a_b 12) cI 42 (b.2 12))) (w2 := (ob_w5 o_b a_b cI cZ b)) (As := [.ref (a_b 12)]) (rest := []) ⟨hx, hb, hml, hown, hts⟩ (mt_X5_openOf l dC dI cI cZ cR cW xs _ ((a_b 12)) ((b.2 12)) r_5 hc_93) (va_cwS 1 hts gX5_count_X5_openOf rfl rfl rfl (by decide +kernel) ⟨Nat.le_of_ble_eq_true rfl, Nat.le_of_ble_eq_true rfl⟩) hK hE hP hD hS hA ⟨rfl, rfl, rfl, rfl, rfl, rfl, rfl⟩ hl rfl rfl (Nat.le_of_ble_eq_true rfl) ⟨Nat.le_of_ble_eq_true rfl, Nat.le_of_ble_eq_true rfl⟩ dX5_count_93 (fun H locs hP hD hS => ?_)
      refine W.widen (k := 0) (n := 0) (Nat.le_refl _) (Nat.le_refl _) ?_
      have e1 := Option.some.inj hd
      subst e1
      exact ob_iret hx hb hr hlocks hP hD hS dX5_count_96
    replace hd := ob_f c2_34 hd
    by_cases c3_34 : x1 = 3
    · replace hd := ob_t c3_34 hd
      refine lv_tableIn (off := 63) (tgt := 97) hx hb dX5_count_34 (by rw [c3_34]; decide) (by rw [c3_34]; decide) (by rw [c3_34]; decide) (by decide) ?_
      refine lv_aload_n hx hb dX5_count_97 rfl (lv_at hl 0 rfl) ?_
      refine va_get (D := (dC, dI)) (ci := 5) (v := .ref (a_b 12)) (C := RX5) (T := TX5) (N := 23) hx hb hts hi_X5 hown hK hP 0 rfl rfl 12 (by decide) kw1 (fun _ h9 => h9) rfl dX5_count_98 ?_
      refine lv_iconst (v := 3) hx hb dX5_count_101 (by decide) ?_
      refine va_iald hx hb hK hP 5 0 rfl rfl (by unfold vp_in; decide) dX5_count_102 ?_
      have e1 := Option.some.inj hd
      subst e1
      exact ob_iret hx hb hr hlocks hP hD hS dX5_count_103
    replace hd := ob_f c3_34 hd
    by_cases c4_34 : x1 = 4
    · replace hd := ob_t c4_34 hd
      refine lv_tableIn (off := 70) (tgt := 104) hx hb dX5_count_34 (by rw [c4_34]; decide) (by rw [c4_34]; decide) (by rw [c4_34]; decide) (by decide) ?_
      refine lv_aload_n hx hb dX5_count_104 rfl (lv_at hl 0 rfl) ?_
      refine va_get (D := (dC, dI)) (ci := 5) (v := .ref (a_b 12)) (C := RX5) (T := TX5) (N := 23) hx hb hts hi_X5 hown hK hP 0 rfl rfl 12 (by decide) kw1 (fun _ h9 => h9) rfl dX5_count_105 ?_
      refine lv_iconst (v := 5) hx hb dX5_count_108 (by decide) ?_
      refine va_iald hx hb hK hP 5 0 rfl rfl (by unfold vp_in; decide) dX5_count_109 ?_
      have e1 := Option.some.inj hd
      subst e1
      exact ob_iret hx hb hr hlocks hP hD hS dX5_count_110
    replace hd := ob_f c4_34 hd
    by_cases c5_34 : x1 = 5
    · replace hd := ob_t c5_34 hd
      refine lv_tableIn (off := 77) (tgt := 111) hx hb dX5_count_34 (by rw [c5_34]; decide) (by rw [c5_34]; decide) (by rw [c5_34]; decide) (by decide) ?_
      refine lv_aload_n hx hb dX5_count_111 rfl (lv_at hl 0 rfl) ?_
      refine va_get (D := (dC, dI)) (ci := 5) (v := .ref (a_b 12)) (C := RX5) (T := TX5) (N := 23) hx hb hts hi_X5 hown hK hP 0 rfl rfl 12 (by decide) kw1 (fun _ h9 => h9) rfl dX5_count_112 ?_
      refine lv_bipush (v := 6) hx hb dX5_count_115 (by decide) ?_
      refine va_iald hx hb hK hP 5 0 rfl rfl (by unfold vp_in; decide) dX5_count_117 ?_
      have e1 := Option.some.inj hd
      subst e1
      exact ob_iret hx hb hr hlocks hP hD hS dX5_count_118
    replace hd := ob_f c5_34 hd
    by_cases c6_34 : x1 = 6
    · replace hd := ob_t c6_34 hd
      refine lv_tableIn (off := 85) (tgt := 119) hx hb dX5_count_34 (by rw [c6_34]; decide) (by rw [c6_34]; decide) (by rw [c6_34]; decide) (by decide) ?_
      refine lv_aload_n hx hb dX5_count_119 rfl (lv_at hl 0 rfl) ?_
      refine va_get (D := (dC, dI)) (ci := 5) (v := .int (b.1 18)) (C := RX5) (T := TX5) (N := 23) hx hb hts hi_X5 hown hK hP 0 rfl rfl 18 (by decide) kw2 (fun _ h9 => h9) rfl dX5_count_120 ?_
      have e1 := Option.some.inj hd
      subst e1
      exact ob_iret hx hb hr hlocks hP hD hS dX5_count_123
    replace hd := ob_f c6_34 hd
    by_cases c7_34 : x1 = 7
    · replace hd := ob_t c7_34 hd
      refine lv_tableIn (off := 90) (tgt := 124) hx hb dX5_count_34 (by rw [c7_34]; decide) (by rw [c7_34]; decide) (by rw [c7_34]; decide) (by decide) ?_
      refine lv_aload_n hx hb dX5_count_124 rfl (lv_at hl 0 rfl) ?_
      refine va_get (D := (dC, dI)) (ci := 5) (v := .int (b.1 4)) (C := RX5) (T := TX5) (N := 23) hx hb hts hi_X5 hown hK hP 0 rfl rfl 4 (by decide) kw3 (fun _ h9 => h9) rfl dX5_count_125 ?_
      have e1 := Option.some.inj hd
      subst e1
      exact ob_iret hx hb hr hlocks hP hD hS dX5_count_128
    replace hd := ob_f c7_34 hd
    refine lv_tableOut (tgt := 129) hx hb dX5_count_34 (by have n0 := lv_neT c0_34 (show (0 : Int32).toInt = 0 from rfl); have n1 := lv_neT c1_34 (show (1 : Int32).toInt = 1 from rfl); have n2 := lv_neT c2_34 (show (2 : Int32).toInt = 2 from rfl); have n3 := lv_neT c3_34 (show (3 : Int32).toInt = 3 from rfl); have n4 := lv_neT c4_34 (show (4 : Int32).toInt = 4 from rfl); have n5 := lv_neT c5_34 (show (5 : Int32).toInt = 5 from rfl); have n6 := lv_neT c6_34 (show (6 : Int32).toInt = 6 from rfl); have n7 := lv_neT c7_34 (show (7 : Int32).toInt = 7 from rfl); omega) (by decide) ?_
    refine lv_ldc hx hb hown kw4 dX5_count_129 ?_
    have e1 := Option.some.inj hd
    subst e1
    exact ob_iret hx hb hr hlocks hP hD hS dX5_count_131
  have L4 : ∀  (fu : Nat), ∀ (H : Heap) (locs : List Loc)  (z2 : Int32) (z3 : Int32) (ls : Array Slot), va_P (dC, dI) vwCl (ob_w5 o_b a_b cI cZ b) H → va_D A (ob_w5 o_b a_b cI cZ b) → va_S A s.heap H locs → lv_has ls 4 [(0, .ref o_b), (1, .int x1), (2, .int z2), (3, .int z3)] → fd_X5_count_L4 fu b x1 z2 z3 = some (rr) → W p l e ({ frames := 1, cells := 0, slots := 0, locals := 22 } : Room) s m (List.toArray [.ref o_b, .int x1]) below meth c H locs 0 0 (MQ below ((ob_Qi (dC, dI) rr (ob_w5 o_b a_b cI cZ b)) A) (List.toArray [.ref o_b, .int x1]) s 0 0 A) (F0 m 4 ls []) := by
    intro  fu
    induction fu with
    | zero =>
      intro H locs z2 z3 ls hP hD hS hl hd
      rw [fd_X5_count_L4] at hd
      cases hd
    | succ fu ih =>
      intro H locs z2 z3 ls hP hD hS hl hd
      rw [fd_X5_count_L4] at hd
      refine lv_iload_n hx hb dX5_count_4 rfl (lv_at hl 3 rfl) ?_
      refine lv_bipush (v := 8) hx hb dX5_count_5 (by decide) ?_
      refine lv_icmp_ge (tgt := 33) hx hb dX5_count_7 (by decide) (fun c_7 => ?_) (fun c_7 => ?_)
      · replace hd := ob_t c_7 hd
        exact L33   _ _ z2 _ hP hD hS (lv_sub hl [0, 1, 2] rfl) hd
      · replace hd := ob_f c_7 hd
        refine lv_iload_n hx hb dX5_count_10 rfl (lv_at hl 2 rfl) ?_
        refine lv_aload_n hx hb dX5_count_11 rfl (lv_at hl 0 rfl) ?_
        refine va_get (D := (dC, dI)) (ci := 5) (v := .ref (a_b 0)) (C := RX5) (T := TX5) (N := 23) hx hb hts hi_X5 hown hK hP 0 rfl rfl 0 (by decide) kw0 (fun _ h9 => h9) rfl dX5_count_12 ?_
        refine lv_iload_n hx hb dX5_count_15 rfl (lv_at hl 3 rfl) ?_
        obtain ⟨h1_16, hd⟩ := ob_nn hd
        refine va_iald hx hb hK hP 1 0 rfl rfl h1_16 dX5_count_16 ?_
        refine lv_if_ge (tgt := 24) hx hb dX5_count_17 (by decide) (fun c_17 => ?_) (fun c_17 => ?_)
        · replace hd := ob_t c_17 hd
          refine lv_iconst (v := 1) hx hb dX5_count_24 (by decide) ?_
          refine lv_iadd hx hb dX5_count_25 ?_
          refine lv_topi (fun x_1 ex_1 => ?_)
          replace hd := ob_lx ex_1 hd
          clear ex_1
          refine lv_istore_n (lv' := [(2, .int x_1), (0, .ref o_b), (1, .int x1), (3, .int z3)]) hx hb dX5_count_26 rfl hl (by decide) rfl (fun ls hl => ?_)
          obtain ⟨x_2, ex_2⟩ : ∃ z : Int32, z = z3 + 1 := ⟨_, rfl⟩
          replace hd := ob_lx ex_2 hd
          refine lv_iinc (v := x_2) (lv' := [(3, .int x_2), (2, .int x_1), (0, .ref o_b), (1, .int x1)]) hx hb dX5_count_27 hl (k := 3) rfl (by rw [ex_2]; rfl) (by decide) rfl (fun ls hl => ?_)
          clear ex_2
          refine lv_goto (tgt := 4) hx hb dX5_count_30 (by decide) ?_
          exact ih _ _ x_1 x_2 _ hP hD hS (lv_sub hl [2, 3, 1, 0] rfl) hd
        · replace hd := ob_f c_17 hd
          refine lv_iconst (v := 0) hx hb dX5_count_20 (by decide) ?_
          refine lv_goto (tgt := 25) hx hb dX5_count_21 (by decide) ?_
          refine lv_iadd hx hb dX5_count_25 ?_
          refine lv_topi (fun x_3 ex_3 => ?_)
          replace hd := ob_lx ex_3 hd
          clear ex_3
          refine lv_istore_n (lv' := [(2, .int x_3), (0, .ref o_b), (1, .int x1), (3, .int z3)]) hx hb dX5_count_26 rfl hl (by decide) rfl (fun ls hl => ?_)
          obtain ⟨x_4, ex_4⟩ : ∃ z : Int32, z = z3 + 1 := ⟨_, rfl⟩
          replace hd := ob_lx ex_4 hd
          refine lv_iinc (v := x_4) (lv' := [(3, .int x_4), (2, .int x_3), (0, .ref o_b), (1, .int x1)]) hx hb dX5_count_27 hl (k := 3) rfl (by rw [ex_4]; rfl) (by decide) rfl (fun ls hl => ?_)
          clear ex_4
          refine lv_goto (tgt := 4) hx hb dX5_count_30 (by decide) ?_
          exact ih _ _ x_3 x_4 _ hP hD hS (lv_sub hl [2, 3, 1, 0] rfl) hd
  refine lv_iconst (v := 0) hx hb dX5_count_0 (by decide) ?_
  refine lv_istore_n (lv' := [(2, .int 0), (0, .ref o_b), (1, .int x1)]) hx hb dX5_count_1 rfl hl (by decide) rfl (fun ls hl => ?_)
  refine lv_iconst (v := 0) hx hb dX5_count_2 (by decide) ?_
  refine lv_istore_n (lv' := [(3, .int 0), (2, .int 0), (0, .ref o_b), (1, .int x1)]) hx hb dX5_count_3 rfl hl (by decide) rfl (fun ls hl => ?_)
  exact L4  2000 _ _ 0 0 _ hP hD hS (lv_sub hl [2, 3, 1, 0] rfl) hd

def fd_X5_status  (b : ob_B)  : Option (Int32) := some (b.1 3)
set_option maxHeartbeats 4000000 in
set_option maxRecDepth 100000 in
theorem mt_X5_status (l : Launch) (dC : Nat → ClassId) (dI : Nat → Nat → Nat) (cI cZ cR cW : ClassId) (xs : Nat → Nat) (sz : Nat) (o_b : Nat) (a_b : Nat → Nat) (b : ob_B)   (rr : Int32) (hd : fd_X5_status b = some (rr)) : ob_M l yX5_status wsX5_status ({ frames := 0, cells := 0, slots := 0, locals := 0 } : Room) (dC, dI) (ob_ty cI cZ cR cW) xs [.ref o_b] (ob_w5 o_b a_b cI cZ b) sz (ob_Qi (dC, dI) rr (ob_w5 o_b a_b cI cZ b)) := by
  rw [fd_X5_status] at hd
  refine ob_in (cc := cX5_status) (maxL := 1) (ret := (some .int)) (own := RX5) (by decide) rfl rfl [(0, .ref o_b)] rfl (Nat.le_of_ble_eq_true rfl) ?_
  intro p e s m below meth c hx hb hr hml hown hts hlocks hnm hK A hA hE hP hD hS ls hl
  have kw0 := hts (.fieldLink RX5 54 "OathCoachModel" "status" "I") (by decide +kernel)
  have hi_X5 : ∀ w ∈ u_ws RX5 TX5 23, w ∈ wsX5_status := by decide +kernel
  refine lv_aload_n hx hb dX5_status_0 rfl (lv_at hl 0 rfl) ?_
  refine va_get (D := (dC, dI)) (ci := 5) (v := .int (b.1 3)) (C := RX5) (T := TX5) (N := 23) hx hb hts hi_X5 hown hK hP 0 rfl rfl 3 (by decide) kw0 (fun _ h9 => h9) rfl dX5_status_1 ?_
  have e1 := Option.some.inj hd
  subst e1
  exact ob_iret hx hb hr hlocks hP hD hS dX5_status_4
