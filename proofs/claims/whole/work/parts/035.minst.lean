def fd_X5_late_L89 (k_30 : ob_B → Int32 → Int32 → Int32 → Int32 → Option (Int32)) (b : ob_B) (x1 : Int32) (z2 : Int32) (z4 : Int32) (z5 : Int32) (v0 : Int32) : Option (Int32) := if z5 ≤ z2 then (ob_lt (z4 + 1 : Int32) (fun x_3 => k_30 b x1 z2 v0 x_3)) else (ob_lt (z4 + 1 : Int32) (fun x_4 => k_30 b x1 z5 v0 x_4))
def fd_X5_late_L75 (k_30 : ob_B → Int32 → Int32 → Int32 → Int32 → Option (Int32)) (b : ob_B) (x1 : Int32) (z2 : Int32) (z3 : Int32) (z4 : Int32) (v0 : Int32) : Option (Int32) := if v0 ≤ z2 then (fd_X5_late_L89 k_30 b x1 z2 z4 v0 z3) else (fd_X5_late_L89 k_30 b x1 z2 z4 v0 z4)
def fd_X5_late_L109  (b : ob_B) (x1 : Int32) (z2 : Int32) (z3 : Int32) : Option (Int32) := if z3 = (-1000000) then (some (z3)) else (if x1 = 1 then (some (z3)) else (some (z2)))
def fd_X5_late_L30  : Nat → ob_B → Int32 → Int32 → Int32 → Int32 → Option (Int32)
  | 0, _, _, _, _, _ => none
  | fu + 1, b, x1, z2, z3, z4 => if ((b.2 12) (Int32.toNatClampNeg 2)) ≤ z4 then (fd_X5_late_L109 b x1 z2 z3) else (if (35 + z4) < 0 ∨ 42 ≤ Int32.toNatClampNeg (35 + z4) then none else (if ((b.2 12) (Int32.toNatClampNeg (35 + z4))) = 0 then (if (28 + z4) < 0 ∨ 42 ≤ Int32.toNatClampNeg (28 + z4) then none else (fd_X5_late_L75 (fd_X5_late_L30 fu) b x1 z2 z3 z4 (((b.2 12) (Int32.toNatClampNeg 3)) - ((b.2 12) (Int32.toNatClampNeg (28 + z4)))))) else (fd_X5_late_L75 (fd_X5_late_L30 fu) b x1 z2 z3 z4 0)))
def fd_X5_late  (b : ob_B) (x1 : Int32) : Option (Int32) := ob_b1 (fd_X5_isRoute b) (fun r_1 => if r_1 = 0 then (some ((-1000002))) else (ob_b1 (fd_X5_in x1 0 1) (fun r_2 => if r_2 = 0 then (some ((-1000001))) else (fd_X5_late_L30 2000 b x1 0 (-1000000) 0))))
set_option maxHeartbeats 4000000 in
set_option maxRecDepth 100000 in
theorem mt_X5_late (l : Launch) (dC : Nat → ClassId) (dI : Nat → Nat → Nat) (cI cZ cR cW : ClassId) (xs : Nat → Nat) (sz : Nat) (o_b : Nat) (a_b : Nat → Nat) (b : ob_B) (x1 : Int32)  (rr : Int32) (hd : fd_X5_late b x1 = some (rr)) : ob_M l yX5_late wsX5_late ({ frames := 1, cells := 0, slots := 0, locals := 22 } : Room) (dC, dI) (ob_ty cI cZ cR cW) xs [.ref o_b, .int x1] (ob_w5 o_b a_b cI cZ b) sz (ob_Qi (dC, dI) rr (ob_w5 o_b a_b cI cZ b)) := by
  rw [fd_X5_late] at hd
  refine ob_in (cc := cX5_late) (maxL := 6) (ret := (some .int)) (own := RX5) (by decide) rfl rfl [(0, .ref o_b), (1, .int x1)] rfl (Nat.le_of_ble_eq_true rfl) ?_
  intro p e s m below meth c hx hb hr hml hown hts hlocks hnm hK A hA hE hP hD hS ls hl
  have kw0 := hts (.constant RX5 163 (-1000000)) (by decide +kernel)
  have kw1 := hts (.constant RX5 63 (-1000001)) (by decide +kernel)
  have kw2 := hts (.constant RX5 130 (-1000002)) (by decide +kernel)
  have kw3 := hts (.fieldLink RX5 22 "OathCoachModel" "now" "[I") (by decide +kernel)
  have hi_X5 : ∀ w ∈ u_ws RX5 TX5 23, w ∈ wsX5_late := by decide +kernel
  have L89 : ∀ (k_30 : ob_B → Int32 → Int32 → Int32 → Int32 → Option (Int32)) (hk_30 : ∀ (H : Heap) (locs : List Loc)  (z2 : Int32) (z3 : Int32) (z4 : Int32) (ls : Array Slot), va_P (dC, dI) vwCl (ob_w5 o_b a_b cI cZ b) H → va_D A (ob_w5 o_b a_b cI cZ b) → va_S A s.heap H locs → lv_has ls 6 [(0, .ref o_b), (1, .int x1), (2, .int z2), (3, .int z3), (4, .int z4)] → k_30 b x1 z2 z3 z4 = some (rr) → W p l e ({ frames := 1, cells := 0, slots := 0, locals := 22 } : Room) s m (List.toArray [.ref o_b, .int x1]) below meth c H locs 0 0 (MQ below ((ob_Qi (dC, dI) rr (ob_w5 o_b a_b cI cZ b)) A) (List.toArray [.ref o_b, .int x1]) s 0 0 A) (F0 m 30 ls [])), ∀ (H : Heap) (locs : List Loc)  (z2 : Int32) (z4 : Int32) (z5 : Int32) (v0 : Int32) (ls : Array Slot), va_P (dC, dI) vwCl (ob_w5 o_b a_b cI cZ b) H → va_D A (ob_w5 o_b a_b cI cZ b) → va_S A s.heap H locs → lv_has ls 6 [(0, .ref o_b), (1, .int x1), (2, .int z2), (4, .int z4), (5, .int z5)] → fd_X5_late_L89 k_30 b x1 z2 z4 z5 v0 = some (rr) → W p l e ({ frames := 1, cells := 0, slots := 0, locals := 22 } : Room) s m (List.toArray [.ref o_b, .int x1]) below meth c H locs 0 0 (MQ below ((ob_Qi (dC, dI) rr (ob_w5 o_b a_b cI cZ b)) A) (List.toArray [.ref o_b, .int x1]) s 0 0 A) (F0 m 89 ls [.int v0]) := by
    intro k_30 hk_30 H locs z2 z4 z5 v0 ls hP hD hS hl hd
    rw [fd_X5_late_L89] at hd
    refine lv_istore_n (lv' := [(3, .int v0), (0, .ref o_b), (1, .int x1), (2, .int z2), (4, .int z4), (5, .int z5)]) hx hb dX5_late_89 rfl hl (by decide) rfl (fun ls hl => ?_)
    refine lv_iload hx hb dX5_late_90 (lv_at hl 5 rfl) ?_
    refine lv_iload_n hx hb dX5_late_92 rfl (lv_at hl 3 rfl) ?_
    refine lv_icmp_le (tgt := 101) hx hb dX5_late_93 (by decide) (fun c_93 => ?_) (fun c_93 => ?_)
    · replace hd := ob_t c_93 hd
      refine lv_iload_n hx hb dX5_late_101 rfl (lv_at hl 3 rfl) ?_
      refine lv_istore_n (lv' := [(2, .int z2), (3, .int v0), (0, .ref o_b), (1, .int x1), (4, .int z4), (5, .int z5)]) hx hb dX5_late_102 rfl hl (by decide) rfl (fun ls hl => ?_)
      obtain ⟨x_3, ex_3⟩ : ∃ z : Int32, z = z4 + 1 := ⟨_, rfl⟩
      replace hd := ob_lx ex_3 hd
      refine lv_iinc (v := x_3) (lv' := [(4, .int x_3), (2, .int z2), (3, .int v0), (0, .ref o_b), (1, .int x1), (5, .int z5)]) hx hb dX5_late_103 hl (k := 4) rfl (by rw [ex_3]; rfl) (by decide) rfl (fun ls hl => ?_)
      clear ex_3
      refine lv_goto (tgt := 30) hx hb dX5_late_106 (by decide) ?_
      exact hk_30 _ _ z2 v0 x_3 _ hP hD hS (lv_sub hl [3, 4, 1, 2, 0] rfl) hd
    · replace hd := ob_f c_93 hd
      refine lv_iload hx hb dX5_late_96 (lv_at hl 5 rfl) ?_
      refine lv_goto (tgt := 102) hx hb dX5_late_98 (by decide) ?_
      refine lv_istore_n (lv' := [(2, .int z5), (3, .int v0), (0, .ref o_b), (1, .int x1), (4, .int z4), (5, .int z5)]) hx hb dX5_late_102 rfl hl (by decide) rfl (fun ls hl => ?_)
      obtain ⟨x_4, ex_4⟩ : ∃ z : Int32, z = z4 + 1 := ⟨_, rfl⟩
      replace hd := ob_lx ex_4 hd
      refine lv_iinc (v := x_4) (lv' := [(4, .int x_4), (2, .int z5), (3, .int v0), (0, .ref o_b), (1, .int x1), (5, .int z5)]) hx hb dX5_late_103 hl (k := 4) rfl (by rw [ex_4]; rfl) (by decide) rfl (fun ls hl => ?_)
      clear ex_4
      refine lv_goto (tgt := 30) hx hb dX5_late_106 (by decide) ?_
      exact hk_30 _ _ z5 v0 x_4 _ hP hD hS (lv_sub hl [3, 4, 1, 2, 0] rfl) hd
  have L75 : ∀ (k_30 : ob_B → Int32 → Int32 → Int32 → Int32 → Option (Int32)) (hk_30 : ∀ (H : Heap) (locs : List Loc)  (z2 : Int32) (z3 : Int32) (z4 : Int32) (ls : Array Slot), va_P (dC, dI) vwCl (ob_w5 o_b a_b cI cZ b) H → va_D A (ob_w5 o_b a_b cI cZ b) → va_S A s.heap H locs → lv_has ls 6 [(0, .ref o_b), (1, .int x1), (2, .int z2), (3, .int z3), (4, .int z4)] → k_30 b x1 z2 z3 z4 = some (rr) → W p l e ({ frames := 1, cells := 0, slots := 0, locals := 22 } : Room) s m (List.toArray [.ref o_b, .int x1]) below meth c H locs 0 0 (MQ below ((ob_Qi (dC, dI) rr (ob_w5 o_b a_b cI cZ b)) A) (List.toArray [.ref o_b, .int x1]) s 0 0 A) (F0 m 30 ls [])), ∀ (H : Heap) (locs : List Loc)  (z2 : Int32) (z3 : Int32) (z4 : Int32) (v0 : Int32) (ls : Array Slot), va_P (dC, dI) vwCl (ob_w5 o_b a_b cI cZ b) H → va_D A (ob_w5 o_b a_b cI cZ b) → va_S A s.heap H locs → lv_has ls 6 [(0, .ref o_b), (1, .int x1), (2, .int z2), (3, .int z3), (4, .int z4)] → fd_X5_late_L75 k_30 b x1 z2 z3 z4 v0 = some (rr) → W p l e ({ frames := 1, cells := 0, slots := 0, locals := 22 } : Room) s m (List.toArray [.ref o_b, .int x1]) below meth c H locs 0 0 (MQ below ((ob_Qi (dC, dI) rr (ob_w5 o_b a_b cI cZ b)) A) (List.toArray [.ref o_b, .int x1]) s 0 0 A) (F0 m 75 ls [.int v0]) := by
    intro k_30 hk_30 H locs z2 z3 z4 v0 ls hP hD hS hl hd
    rw [fd_X5_late_L75] at hd
    refine lv_istore (lv' := [(5, .int v0), (0, .ref o_b), (1, .int x1), (2, .int z2), (3, .int z3), (4, .int z4)]) hx hb dX5_late_75 hl (by decide) rfl (fun ls hl => ?_)
    refine lv_iload hx hb dX5_late_77 (lv_at hl 0 rfl) ?_
    refine lv_iload_n hx hb dX5_late_79 rfl (lv_at hl 3 rfl) ?_
    refine lv_icmp_le (tgt := 88) hx hb dX5_late_80 (by decide) (fun c_80 => ?_) (fun c_80 => ?_)
    · replace hd := ob_t c_80 hd
      refine lv_iload_n hx hb dX5_late_88 rfl (lv_at hl 4 rfl) ?_
      exact L89 k_30 hk_30  _ _ z2 z4 v0 z3 _ hP hD hS (lv_sub hl [1, 2, 3, 5, 0] rfl) hd
    · replace hd := ob_f c_80 hd
      refine lv_iload hx hb dX5_late_83 (lv_at hl 5 rfl) ?_
      refine lv_goto (tgt := 89) hx hb dX5_late_85 (by decide) ?_
      exact L89 k_30 hk_30  _ _ z2 z4 v0 z4 _ hP hD hS (lv_sub hl [1, 2, 3, 5, 0] rfl) hd
  have L109 : ∀ (H : Heap) (locs : List Loc)  (z2 : Int32) (z3 : Int32) (ls : Array Slot), va_P (dC, dI) vwCl (ob_w5 o_b a_b cI cZ b) H → va_D A (ob_w5 o_b a_b cI cZ b) → va_S A s.heap H locs → lv_has ls 6 [(1, .int x1), (2, .int z2), (3, .int z3)] → fd_X5_late_L109 b x1 z2 z3 = some (rr) → W p l e ({ frames := 1, cells := 0, slots := 0, locals := 22 } : Room) s m (List.toArray [.ref o_b, .int x1]) below meth c H locs 0 0 (MQ below ((ob_Qi (dC, dI) rr (ob_w5 o_b a_b cI cZ b)) A) (List.toArray [.ref o_b, .int x1]) s 0 0 A) (F0 m 109 ls []) := by
    intro  H locs z2 z3 ls hP hD hS hl hd
    rw [fd_X5_late_L109] at hd
    refine lv_iload_n hx hb dX5_late_109 rfl (lv_at hl 2 rfl) ?_
    refine lv_ldc hx hb hown kw0 dX5_late_110 ?_
    refine lv_icmp_eq (tgt := 120) hx hb dX5_late_112 (by decide) (fun c_112 => ?_) (fun c_112 => ?_)
    · replace hd := ob_t c_112 hd
      refine lv_iload_n hx hb dX5_late_120 rfl (lv_at hl 2 rfl) ?_
      refine lv_goto (tgt := 125) hx hb dX5_late_121 (by decide) ?_
      have e1 := Option.some.inj hd
      subst e1
      exact ob_iret hx hb hr hlocks hP hD hS dX5_late_125
    · replace hd := ob_f c_112 hd
      refine lv_iload_n hx hb dX5_late_115 rfl (lv_at hl 0 rfl) ?_
      refine lv_iconst (v := 1) hx hb dX5_late_116 (by decide) ?_
      refine lv_icmp_ne (tgt := 124) hx hb dX5_late_117 (by decide) (fun c_117 => ?_) (fun c_117 => ?_)
      · replace hd := ob_f c_117 hd
        refine lv_iload_n hx hb dX5_late_124 rfl (lv_at hl 1 rfl) ?_
        have e1 := Option.some.inj hd
        subst e1
        exact ob_iret hx hb hr hlocks hP hD hS dX5_late_125
      · replace hd := ob_t c_117 hd
        refine lv_iload_n hx hb dX5_late_120 rfl (lv_at hl 2 rfl) ?_
        refine lv_goto (tgt := 125) hx hb dX5_late_121 (by decide) ?_
        have e1 := Option.some.inj hd
        subst e1
        exact ob_iret hx hb hr hlocks hP hD hS dX5_late_125
  have L30 : ∀  (fu : Nat), ∀ (H : Heap) (locs : List Loc)  (z2 : Int32) (z3 : Int32) (z4 : Int32) (ls : Array Slot), va_P (dC, dI) vwCl (ob_w5 o_b a_b cI cZ b) H → va_D A (ob_w5 o_b a_b cI cZ b) → va_S A s.heap H locs → lv_has ls 6 [(0, .ref o_b), (1, .int x1), (2, .int z2), (3, .int z3), (4, .int z4)] → fd_X5_late_L30 fu b x1 z2 z3 z4 = some (rr) → W p l e ({ frames := 1, cells := 0, slots := 0, locals := 22 } : Room) s m (List.toArray [.ref o_b, .int x1]) below meth c H locs 0 0 (MQ below ((ob_Qi (dC, dI) rr (ob_w5 o_b a_b cI cZ b)) A) (List.toArray [.ref o_b, .int x1]) s 0 0 A) (F0 m 30 ls []) := by
    intro  fu
    induction fu with
    | zero =>
      intro H locs z2 z3 z4 ls hP hD hS hl hd
      rw [fd_X5_late_L30] at hd
      cases hd
    | succ fu ih =>
      intro H locs z2 z3 z4 ls hP hD hS hl hd
      rw [fd_X5_late_L30] at hd
      refine lv_iload hx hb dX5_late_30 (lv_at hl 4 rfl) ?_
      refine lv_aload_n hx hb dX5_late_32 rfl (lv_at hl 0 rfl) ?_
      refine va_get (D := (dC, dI)) (ci := 5) (v := .ref (a_b 12)) (C := RX5) (T := TX5) (N := 23) hx hb hts hi_X5 hown hK hP 0 rfl rfl 12 (by decide) kw3 (fun _ h9 => h9) rfl dX5_late_33 ?_
      refine lv_iconst (v := 2) hx hb dX5_late_36 (by decide) ?_
      refine va_iald hx hb hK hP 5 0 rfl rfl (by unfold vp_in; decide) dX5_late_37 ?_
      refine lv_icmp_ge (tgt := 109) hx hb dX5_late_38 (by decide) (fun c_38 => ?_) (fun c_38 => ?_)
      · replace hd := ob_t c_38 hd
        exact L109   _ _ z2 z3 _ hP hD hS (lv_sub hl [1, 2, 3] rfl) hd
      · replace hd := ob_f c_38 hd
        refine lv_aload_n hx hb dX5_late_41 rfl (lv_at hl 0 rfl) ?_
        refine va_get (D := (dC, dI)) (ci := 5) (v := .ref (a_b 12)) (C := RX5) (T := TX5) (N := 23) hx hb hts hi_X5 hown hK hP 0 rfl rfl 12 (by decide) kw3 (fun _ h9 => h9) rfl dX5_late_42 ?_
        refine lv_bipush (v := 35) hx hb dX5_late_45 (by decide) ?_
        refine lv_iload hx hb dX5_late_47 (lv_at hl 4 rfl) ?_
        refine lv_iadd hx hb dX5_late_49 ?_
        obtain ⟨h1_50, hd⟩ := ob_nn hd
        refine va_iald hx hb hK hP 5 0 rfl rfl h1_50 dX5_late_50 ?_
        refine lv_if_ne (tgt := 74) hx hb dX5_late_51 (by decide) (fun c_51 => ?_) (fun c_51 => ?_)
        · replace hd := ob_f c_51 hd
          refine lv_iconst (v := 0) hx hb dX5_late_74 (by decide) ?_
          exact L75 (fd_X5_late_L30 fu) ih  _ _ z2 z3 z4 0 _ hP hD hS (lv_sub hl [0, 1, 2, 3, 4] rfl) hd
        · replace hd := ob_t c_51 hd
          refine lv_aload_n hx hb dX5_late_54 rfl (lv_at hl 0 rfl) ?_
          refine va_get (D := (dC, dI)) (ci := 5) (v := .ref (a_b 12)) (C := RX5) (T := TX5) (N := 23) hx hb hts hi_X5 hown hK hP 0 rfl rfl 12 (by decide) kw3 (fun _ h9 => h9) rfl dX5_late_55 ?_
          refine lv_iconst (v := 3) hx hb dX5_late_58 (by decide) ?_
          refine va_iald hx hb hK hP 5 0 rfl rfl (by unfold vp_in; decide) dX5_late_59 ?_
          refine lv_aload_n hx hb dX5_late_60 rfl (lv_at hl 0 rfl) ?_
          refine va_get (D := (dC, dI)) (ci := 5) (v := .ref (a_b 12)) (C := RX5) (T := TX5) (N := 23) hx hb hts hi_X5 hown hK hP 0 rfl rfl 12 (by decide) kw3 (fun _ h9 => h9) rfl dX5_late_61 ?_
          refine lv_bipush (v := 28) hx hb dX5_late_64 (by decide) ?_
          refine lv_iload hx hb dX5_late_66 (lv_at hl 4 rfl) ?_
          refine lv_iadd hx hb dX5_late_68 ?_
          obtain ⟨h1_69, hd⟩ := ob_nn hd
          refine va_iald hx hb hK hP 5 0 rfl rfl h1_69 dX5_late_69 ?_
          refine lv_isub hx hb dX5_late_70 ?_
          refine lv_goto (tgt := 75) hx hb dX5_late_71 (by decide) ?_
          exact L75 (fd_X5_late_L30 fu) ih  _ _ z2 z3 z4 (((b.2 12) (Int32.toNatClampNeg 3)) - ((b.2 12) (Int32.toNatClampNeg (28 + z4)))) _ hP hD hS (lv_sub hl [0, 1, 2, 3, 4] rfl) hd
  refine lv_aload_n hx hb dX5_late_0 rfl (lv_at hl 0 rfl) ?_
  obtain ⟨r_1, hc_1, hd⟩ := ob_s1 hd
  refine ob_Vi (isC := [0, 1, 2, 3, 4, 5, 6, 7, 8, 9, 10, 11, 12, 13]) (isR := []) (is2 := [0, 1, 2, 3, 4, 5, 6, 7, 8, 9, 10, 11, 12, 13]) (wc := (ob_w5 o_b a_b cI cZ b)) (wr := ([] : va_W)) (w1 := (ob_w5 o_b a_b cI cZ b)) (w2 := (ob_w5 o_b a_b cI cZ b)) (b := o_b) (As := []) (rest := []) ⟨hx, hb, hml, hown, hts⟩ (mt_X5_isRoute l dC dI cI cZ cR cW xs _ o_b a_b b r_1 hc_1) (cwV 0 hts gX5_late_X5_isRoute rfl rfl rfl (by decide +kernel) ⟨Nat.le_of_ble_eq_true rfl, Nat.le_of_ble_eq_true rfl⟩) hK hE hP hD hS hA ⟨rfl, rfl, rfl, rfl, rfl, rfl, rfl⟩ 5 0 rfl rfl rfl hl rfl rfl (Nat.le_of_ble_eq_true rfl) ⟨Nat.le_of_ble_eq_true rfl, Nat.le_of_ble_eq_true rfl⟩ dX5_late_1 (fun H locs hP hD hS => ?_)
  refine W.widen (k := 0) (n := 0) (Nat.le_refl _) (Nat.le_refl _) ?_
  refine lv_if_ne (tgt := 10) hx hb dX5_late_4 (by decide) (fun c_4 => ?_) (fun c_4 => ?_)
  · replace hd := ob_f c_4 hd
    refine lv_iload_n hx hb dX5_late_10 rfl (lv_at hl 1 rfl) ?_
    refine lv_iconst (v := 0) hx hb dX5_late_11 (by decide) ?_
    refine lv_iconst (v := 1) hx hb dX5_late_12 (by decide) ?_
    obtain ⟨r_2, hc_13, hd⟩ := ob_s1 hd
    refine ob_Si (isC := []) (isR := [0, 1, 2, 3, 4, 5, 6, 7, 8, 9, 10, 11, 12, 13]) (is2 := [0, 1, 2, 3, 4, 5, 6, 7, 8, 9, 10, 11, 12, 13]) (wc := ([] : va_W)) (wr := (List.filterMap (fun i => (ob_w5 o_b a_b cI cZ b)[i]?) [0, 1, 2, 3, 4, 5, 6, 7, 8, 9, 10, 11, 12, 13])) (w1 := ([] : va_W)) (w2 := (ob_w5 o_b a_b cI cZ b)) (As := [.int x1, .int 0, .int 1]) (rest := []) ⟨hx, hb, hml, hown, hts⟩ (mt_X5_in l dC dI cI cZ cR cW xs _ x1 0 1 r_2 hc_13) (va_cwS 3 hts gX5_late_X5_in rfl rfl rfl (by decide +kernel) ⟨Nat.le_of_ble_eq_true rfl, Nat.le_of_ble_eq_true rfl⟩) hK hE hP hD hS hA ⟨rfl, rfl, rfl, rfl, rfl, rfl, rfl⟩ hl rfl rfl (Nat.le_of_ble_eq_true rfl) ⟨Nat.le_of_ble_eq_true rfl, Nat.le_of_ble_eq_true rfl⟩ dX5_late_13 (fun H locs hP hD hS => ?_)
    refine W.widen (k := 0) (n := 0) (Nat.le_refl _) (Nat.le_refl _) ?_
    refine lv_if_ne (tgt := 22) hx hb dX5_late_16 (by decide) (fun c_16 => ?_) (fun c_16 => ?_)
    · replace hd := ob_f c_16 hd
      refine lv_iconst (v := 0) hx hb dX5_late_22 (by decide) ?_
      refine lv_istore_n (lv' := [(2, .int 0), (0, .ref o_b), (1, .int x1)]) hx hb dX5_late_23 rfl hl (by decide) rfl (fun ls hl => ?_)
      refine lv_ldc hx hb hown kw0 dX5_late_24 ?_
      refine lv_istore_n (lv' := [(3, .int (-1000000)), (2, .int 0), (0, .ref o_b), (1, .int x1)]) hx hb dX5_late_26 rfl hl (by decide) rfl (fun ls hl => ?_)
      refine lv_iconst (v := 0) hx hb dX5_late_27 (by decide) ?_
      refine lv_istore (lv' := [(4, .int 0), (3, .int (-1000000)), (2, .int 0), (0, .ref o_b), (1, .int x1)]) hx hb dX5_late_28 hl (by decide) rfl (fun ls hl => ?_)
      exact L30  2000 _ _ 0 (-1000000) 0 _ hP hD hS (lv_sub hl [3, 4, 2, 1, 0] rfl) hd
    · replace hd := ob_t c_16 hd
      refine lv_ldc hx hb hown kw1 dX5_late_19 ?_
      have e1 := Option.some.inj hd
      subst e1
      exact ob_iret hx hb hr hlocks hP hD hS dX5_late_21
  · replace hd := ob_t c_4 hd
    refine lv_ldc hx hb hown kw2 dX5_late_7 ?_
    have e1 := Option.some.inj hd
    subst e1
    exact ob_iret hx hb hr hlocks hP hD hS dX5_late_9

def fd_X5_lies_L168 (k_89 : ob_B → Int32 → Int32 → Int32 → Int32 → Int64 → Int64 → Int32 → Option (Int64)) (b : ob_B) (x1 : Int32) (x2 : Int32) (x3 : Int32) (z4 : Int32) (z5 : Int64) (z7 : Int64) (z9 : Int32) (z10 : Int64) : Option (Int64) := ob_b1 (fd_X5_pullerOf ((b.2 12)) z9) (fun r_19 => ob_b1 (fd_X5_towards ((b.2 12)) r_19) (fun r_20 => if r_20 = x1 then (ob_lt (z5 + z10 : Int64) (fun x_23 => ob_lt (z9 + 1 : Int32) (fun x_24 => k_89 b x1 x2 x3 z4 x_23 z7 x_24))) else (ob_lt (z5 + 0 : Int64) (fun x_21 => ob_lt (z9 + 1 : Int32) (fun x_22 => k_89 b x1 x2 x3 z4 x_21 z7 x_22)))))
def fd_X5_lies_L112 (k_89 : ob_B → Int32 → Int32 → Int32 → Int32 → Int64 → Int64 → Int32 → Option (Int64)) : Nat → ob_B → Int32 → Int32 → Int32 → Int32 → Int64 → Int64 → Int32 → Int64 → Int32 → Option (Int64)
  | 0, _, _, _, _, _, _, _, _, _, _ => none
  | fu + 1, b, x1, x2, x3, z4, z5, z7, z9, z10, z12 => if ((b.2 12) (Int32.toNatClampNeg 2)) ≤ z12 then (fd_X5_lies_L168 k_89 b x1 x2 x3 z4 z5 z7 z9 z10) else (ob_b1 (fd_X5_has z9 z12) (fun r_10 => if r_10 = 0 then (ob_b1 (fd_X5_has z4 z12) (fun r_11 => if r_11 = 0 then (ob_lt (z10 * 1 : Int64) (fun x_12 => ob_lt (z12 + 1 : Int32) (fun x_13 => fd_X5_lies_L112 k_89 fu b x1 x2 x3 z4 z5 z7 z9 x_12 x_13))) else (ob_lt (z10 * (Int32.toInt64 (10 - x2)) : Int64) (fun x_14 => ob_lt (z12 + 1 : Int32) (fun x_15 => fd_X5_lies_L112 k_89 fu b x1 x2 x3 z4 z5 z7 z9 x_14 x_15))))) else (ob_lt (z10 * (Int32.toInt64 x2) : Int64) (fun x_16 => ob_lt (z12 + 1 : Int32) (fun x_17 => fd_X5_lies_L112 k_89 fu b x1 x2 x3 z4 z5 z7 z9 x_16 x_17)))))
def fd_X5_lies_L238  (b : ob_B) (x3 : Int32) (z5 : Int64) (z7 : Int64) (z9 : Int64) : Option (Int64) := if x3 = 0 then (if z9 = 0 then none else (some (z5 / z9))) else (if z9 = 0 then none else (some (z7 / z9)))
def fd_X5_lies_L213  : Nat → ob_B → Int32 → Int64 → Int64 → Int64 → Int64 → Option (Int64)
  | 0, _, _, _, _, _, _ => none
  | fu + 1, b, x3, z5, z7, z9, z11 => if (lg_cmp z11 0) ≤ 0 then (fd_X5_lies_L238 b x3 z5 z7 z9) else (if z11 = 0 then none else (ob_lt (z9 - z9 / z11 * z11 : Int64) (fun x_18 => fd_X5_lies_L213 fu b x3 z5 z7 z11 x_18)))
def fd_X5_lies_L205  (b : ob_B) (x3 : Int32) (z5 : Int64) (z7 : Int64) : Option (Int64) := fd_X5_lies_L213 2000 b x3 z5 z7 z5 z7
def fd_X5_lies_L89  : Nat → ob_B → Int32 → Int32 → Int32 → Int32 → Int64 → Int64 → Int32 → Option (Int64)
  | 0, _, _, _, _, _, _, _, _ => none
  | fu + 1, b, x1, x2, x3, z4, z5, z7, z9 => if z4 < z9 then (fd_X5_lies_L205 b x3 z5 z7) else (if (z9 &&& (z4 ^^^ (-1))) = 0 then (fd_X5_lies_L112 (fd_X5_lies_L89 fu) 2000 b x1 x2 x3 z4 z5 z7 z9 1 0) else (ob_lt (z9 + 1 : Int32) (fun x_9 => fd_X5_lies_L89 fu b x1 x2 x3 z4 z5 z7 x_9)))
def fd_X5_lies_L62  : Nat → ob_B → Int32 → Int32 → Int32 → Int32 → Int64 → Int64 → Int32 → Option (Int64)
  | 0, _, _, _, _, _, _, _, _ => none
  | fu + 1, b, x1, x2, x3, z4, z5, z7, z9 => ob_b1 (fd_X5_bits z4) (fun r_6 => if r_6 ≤ z9 then (fd_X5_lies_L89 2000 b x1 x2 x3 z4 z5 z7 0) else (ob_lt (z7 * 10 : Int64) (fun x_7 => ob_lt (z9 + 1 : Int32) (fun x_8 => fd_X5_lies_L62 fu b x1 x2 x3 z4 z5 x_7 x_8))))
def fd_X5_lies  (b : ob_B) (x1 : Int32) (x2 : Int32) (x3 : Int32) : Option (Int64) := ob_b1 (fd_X5_isRoute b) (fun r_1 => if r_1 = 0 then (some ((-1000002))) else (ob_b1 (fd_X5_in x1 0 9) (fun r_2 => if r_2 = 0 then (some ((-1000001))) else (ob_b1 (fd_X5_in x2 0 10) (fun r_3 => if r_3 = 0 then (some ((-1000001))) else (ob_b1 (fd_X5_in x3 0 1) (fun r_4 => if r_4 = 0 then (some ((-1000001))) else (ob_b1 (fd_X5_openOf ((b.2 12))) (fun r_5 => fd_X5_lies_L62 2000 b x1 x2 x3 r_5 0 1 0)))))))))
set_option maxHeartbeats 4000000 in
set_option maxRecDepth 100000 in
theorem mt_X5_lies (l : Launch) (dC : Nat → ClassId) (dI : Nat → Nat → Nat) (cI cZ cR cW : ClassId) (xs : Nat → Nat) (sz : Nat) (o_b : Nat) (a_b : Nat → Nat) (b : ob_B) (x1 : Int32) (x2 : Int32) (x3 : Int32)  (rr : Int64) (hd : fd_X5_lies b x1 x2 x3 = some (rr)) : ob_M l yX5_lies wsX5_lies ({ frames := 3, cells := 0, slots := 0, locals := 69 } : Room) (dC, dI) (ob_ty cI cZ cR cW) xs [.ref o_b, .int x1, .int x2, .int x3] (ob_w5 o_b a_b cI cZ b) sz (ob_Ql (dC, dI) rr (ob_w5 o_b a_b cI cZ b)) := by
  rw [fd_X5_lies] at hd
  refine ob_in (cc := cX5_lies) (maxL := 15) (ret := (some .long)) (own := RX5) (by decide) rfl rfl [(0, .ref o_b), (1, .int x1), (2, .int x2), (3, .int x3)] rfl (Nat.le_of_ble_eq_true rfl) ?_
  intro p e s m below meth c hx hb hr hml hown hts hlocks hnm hK A hA hE hP hD hS ls hl
  have kw0 := hts (.constantLong RX5 186 (-1000001)) (by decide +kernel)
  have kw1 := hts (.fieldLink RX5 22 "OathCoachModel" "now" "[I") (by decide +kernel)
  have kw2 := hts (.constantLong RX5 184 (-1000002)) (by decide +kernel)
  have kw3 := hts (.constantLong RX5 188 (10)) (by decide +kernel)
  have hi_X5 : ∀ w ∈ u_ws RX5 TX5 23, w ∈ wsX5_lies := by decide +kernel
  have L168 : ∀ (k_89 : ob_B → Int32 → Int32 → Int32 → Int32 → Int64 → Int64 → Int32 → Option (Int64)) (hk_89 : ∀ (H : Heap) (locs : List Loc)  (z4 : Int32) (z5 : Int64) (z7 : Int64) (z9 : Int32) (ls : Array Slot), va_P (dC, dI) vwCl (ob_w5 o_b a_b cI cZ b) H → va_D A (ob_w5 o_b a_b cI cZ b) → va_S A s.heap H locs → lv_has ls 15 [(0, .ref o_b), (1, .int x1), (2, .int x2), (3, .int x3), (4, .int z4), (5, .long z5), (7, .long z7), (9, .int z9)] → k_89 b x1 x2 x3 z4 z5 z7 z9 = some (rr) → W p l e ({ frames := 3, cells := 0, slots := 0, locals := 69 } : Room) s m (List.toArray [.ref o_b, .int x1, .int x2, .int x3]) below meth c H locs 0 0 (MQ below ((ob_Ql (dC, dI) rr (ob_w5 o_b a_b cI cZ b)) A) (List.toArray [.ref o_b, .int x1, .int x2, .int x3]) s 0 0 A) (F0 m 89 ls [])), ∀ (H : Heap) (locs : List Loc)  (z4 : Int32) (z5 : Int64) (z7 : Int64) (z9 : Int32) (z10 : Int64) (ls : Array Slot), va_P (dC, dI) vwCl (ob_w5 o_b a_b cI cZ b) H → va_D A (ob_w5 o_b a_b cI cZ b) → va_S A s.heap H locs → lv_has ls 15 [(0, .ref o_b), (1, .int x1), (2, .int x2), (3, .int x3), (4, .int z4), (5, .long z5), (7, .long z7), (9, .int z9), (10, .long z10)] → fd_X5_lies_L168 k_89 b x1 x2 x3 z4 z5 z7 z9 z10 = some (rr) → W p l e ({ frames := 3, cells := 0, slots := 0, locals := 69 } : Room) s m (List.toArray [.ref o_b, .int x1, .int x2, .int x3]) below meth c H locs 0 0 (MQ below ((ob_Ql (dC, dI) rr (ob_w5 o_b a_b cI cZ b)) A) (List.toArray [.ref o_b, .int x1, .int x2, .int x3]) s 0 0 A) (F0 m 168 ls []) := by
    intro k_89 hk_89 H locs z4 z5 z7 z9 z10 ls hP hD hS hl hd
    rw [fd_X5_lies_L168] at hd
    refine lv_lload hx hb dX5_lies_168 (lv_at hl 5 rfl) ?_
    refine lv_aload_n hx hb dX5_lies_170 rfl (lv_at hl 0 rfl) ?_
    refine va_get (D := (dC, dI)) (ci := 5) (v := .ref (a_b 12)) (C := RX5) (T := TX5) (N := 23) hx hb hts hi_X5 hown hK hP 0 rfl rfl 12 (by decide) kw1 (fun _ h9 => h9) rfl dX5_lies_171 ?_
    refine lv_aload_n hx hb dX5_lies_174 rfl (lv_at hl 0 rfl) ?_
    refine va_get (D := (dC, dI)) (ci := 5) (v := .ref (a_b 12)) (C := RX5) (T := TX5) (N := 23) hx hb hts hi_X5 hown hK hP 0 rfl rfl 12 (by decide) kw1 (fun _ h9 => h9) rfl dX5_lies_175 ?_
    refine lv_iload hx hb dX5_lies_178 (lv_at hl 7 rfl) ?_
    obtain ⟨r_19, hc_180, hd⟩ := ob_s1 hd
    refine ob_Si (isC := [5]) (isR := [0, 1, 2, 3, 4, 6, 7, 8, 9, 10, 11, 12, 13]) (is2 := [0, 1, 2, 3, 4, 13, 5, 6, 7, 8, 9, 10, 11, 12]) (wc := (ob_wa (a_b 12) cI 42 (b.2 12))) (wr := (List.filterMap (fun i => (ob_w5 o_b a_b cI cZ b)[i]?) [0, 1, 2, 3, 4, 6, 7, 8, 9, 10, 11, 12, 13])) (w1 := (ob_wa (a_b 12) cI 42 (b.2 12))) (w2 := (ob_w5 o_b a_b cI cZ b)) (As := [.ref (a_b 12), .int z9]) (rest := [.ref (a_b 12), .long z5]) ⟨hx, hb, hml, hown, hts⟩ (mt_X5_pullerOf l dC dI cI cZ cR cW xs _ ((a_b 12)) ((b.2 12)) z9 r_19 hc_180) (va_cwS 2 hts gX5_lies_X5_pullerOf rfl rfl rfl (by decide +kernel) ⟨Nat.le_of_ble_eq_true rfl, Nat.le_of_ble_eq_true rfl⟩) hK hE hP hD hS hA ⟨rfl, rfl, rfl, rfl, rfl, rfl, rfl⟩ hl rfl rfl (Nat.le_of_ble_eq_true rfl) ⟨Nat.le_of_ble_eq_true rfl, Nat.le_of_ble_eq_true rfl⟩ dX5_lies_180 (fun H locs hP hD hS => ?_)
    refine W.widen (k := 0) (n := 0) (Nat.le_refl _) (Nat.le_refl _) ?_
    obtain ⟨r_20, hc_183, hd⟩ := ob_s1 hd
    refine ob_Si (isC := [5]) (isR := [0, 1, 2, 3, 4, 6, 7, 8, 9, 10, 11, 12, 13]) (is2 := [0, 1, 2, 3, 4, 13, 5, 6, 7, 8, 9, 10, 11, 12]) (wc := (ob_wa (a_b 12) cI 42 (b.2 12))) (wr := (List.filterMap (fun i => (ob_w5 o_b a_b cI cZ b)[i]?) [0, 1, 2, 3, 4, 6, 7, 8, 9, 10, 11, 12, 13])) (w1 := (ob_wa (a_b 12) cI 42 (b.2 12))) (w2 := (ob_w5 o_b a_b cI cZ b)) (As := [.ref (a_b 12), .int r_19]) (rest := [.long z5]) ⟨hx, hb, hml, hown, hts⟩ (mt_X5_towards l dC dI cI cZ cR cW xs _ ((a_b 12)) ((b.2 12)) r_19 r_20 hc_183) (va_cwS 2 hts gX5_lies_X5_towards rfl rfl rfl (by decide +kernel) ⟨Nat.le_of_ble_eq_true rfl, Nat.le_of_ble_eq_true rfl⟩) hK hE hP hD hS hA ⟨rfl, rfl, rfl, rfl, rfl, rfl, rfl⟩ hl rfl rfl (Nat.le_of_ble_eq_true rfl) ⟨Nat.le_of_ble_eq_true rfl, Nat.le_of_ble_eq_true rfl⟩ dX5_lies_183 (fun H locs hP hD hS => ?_)
    refine W.widen (k := 0) (n := 0) (Nat.le_refl _) (Nat.le_refl _) ?_
    refine lv_iload_n hx hb dX5_lies_186 rfl (lv_at hl 1 rfl) ?_
    refine lv_icmp_ne (tgt := 195) hx hb dX5_lies_187 (by decide) (fun c_187 => ?_) (fun c_187 => ?_)
    · replace hd := ob_f c_187 hd
      refine lv_lconst (v := 0) hx hb dX5_lies_195 (by decide) ?_
      refine lv_ladd hx hb dX5_lies_196 ?_
      refine lv_topl (fun x_21 ex_21 => ?_)
      replace hd := ob_lx ex_21 hd
      clear ex_21
      refine lv_lstore (lv' := [(5, .long x_21), (0, .ref o_b), (1, .int x1), (2, .int x2), (3, .int x3), (4, .int z4), (7, .long z7), (9, .int z9), (10, .long z10)]) hx hb dX5_lies_197 hl (by decide) rfl (fun ls hl => ?_)
      obtain ⟨x_22, ex_22⟩ : ∃ z : Int32, z = z9 + 1 := ⟨_, rfl⟩
      replace hd := ob_lx ex_22 hd
      refine lv_iinc (v := x_22) (lv' := [(9, .int x_22), (5, .long x_21), (0, .ref o_b), (1, .int x1), (2, .int x2), (3, .int x3), (4, .int z4), (7, .long z7), (10, .long z10)]) hx hb dX5_lies_199 hl (k := 7) rfl (by rw [ex_22]; rfl) (by decide) rfl (fun ls hl => ?_)
      clear ex_22
      refine lv_goto (tgt := 89) hx hb dX5_lies_202 (by decide) ?_
      exact hk_89 _ _ z4 x_21 z7 x_22 _ hP hD hS (lv_sub hl [2, 3, 4, 5, 6, 1, 7, 0] rfl) hd
    · replace hd := ob_t c_187 hd
      refine lv_lload hx hb dX5_lies_190 (lv_at hl 8 rfl) ?_
      refine lv_goto (tgt := 196) hx hb dX5_lies_192 (by decide) ?_
      refine lv_ladd hx hb dX5_lies_196 ?_
      refine lv_topl (fun x_23 ex_23 => ?_)
      replace hd := ob_lx ex_23 hd
      clear ex_23
      refine lv_lstore (lv' := [(5, .long x_23), (0, .ref o_b), (1, .int x1), (2, .int x2), (3, .int x3), (4, .int z4), (7, .long z7), (9, .int z9), (10, .long z10)]) hx hb dX5_lies_197 hl (by decide) rfl (fun ls hl => ?_)
      obtain ⟨x_24, ex_24⟩ : ∃ z : Int32, z = z9 + 1 := ⟨_, rfl⟩
      replace hd := ob_lx ex_24 hd
      refine lv_iinc (v := x_24) (lv' := [(9, .int x_24), (5, .long x_23), (0, .ref o_b), (1, .int x1), (2, .int x2), (3, .int x3), (4, .int z4), (7, .long z7), (10, .long z10)]) hx hb dX5_lies_199 hl (k := 7) rfl (by rw [ex_24]; rfl) (by decide) rfl (fun ls hl => ?_)
      clear ex_24
      refine lv_goto (tgt := 89) hx hb dX5_lies_202 (by decide) ?_
      exact hk_89 _ _ z4 x_23 z7 x_24 _ hP hD hS (lv_sub hl [2, 3, 4, 5, 6, 1, 7, 0] rfl) hd
  have L112 : ∀ (k_89 : ob_B → Int32 → Int32 → Int32 → Int32 → Int64 → Int64 → Int32 → Option (Int64)) (hk_89 : ∀ (H : Heap) (locs : List Loc)  (z4 : Int32) (z5 : Int64) (z7 : Int64) (z9 : Int32) (ls : Array Slot), va_P (dC, dI) vwCl (ob_w5 o_b a_b cI cZ b) H → va_D A (ob_w5 o_b a_b cI cZ b) → va_S A s.heap H locs → lv_has ls 15 [(0, .ref o_b), (1, .int x1), (2, .int x2), (3, .int x3), (4, .int z4), (5, .long z5), (7, .long z7), (9, .int z9)] → k_89 b x1 x2 x3 z4 z5 z7 z9 = some (rr) → W p l e ({ frames := 3, cells := 0, slots := 0, locals := 69 } : Room) s m (List.toArray [.ref o_b, .int x1, .int x2, .int x3]) below meth c H locs 0 0 (MQ below ((ob_Ql (dC, dI) rr (ob_w5 o_b a_b cI cZ b)) A) (List.toArray [.ref o_b, .int x1, .int x2, .int x3]) s 0 0 A) (F0 m 89 ls [])) (fu : Nat), ∀ (H : Heap) (locs : List Loc)  (z4 : Int32) (z5 : Int64) (z7 : Int64) (z9 : Int32) (z10 : Int64) (z12 : Int32) (ls : Array Slot), va_P (dC, dI) vwCl (ob_w5 o_b a_b cI cZ b) H → va_D A (ob_w5 o_b a_b cI cZ b) → va_S A s.heap H locs → lv_has ls 15 [(0, .ref o_b), (1, .int x1), (2, .int x2), (3, .int x3), (4, .int z4), (5, .long z5), (7, .long z7), (9, .int z9), (10, .long z10), (12, .int z12)] → fd_X5_lies_L112 k_89 fu b x1 x2 x3 z4 z5 z7 z9 z10 z12 = some (rr) → W p l e ({ frames := 3, cells := 0, slots := 0, locals := 69 } : Room) s m (List.toArray [.ref o_b, .int x1, .int x2, .int x3]) below meth c H locs 0 0 (MQ below ((ob_Ql (dC, dI) rr (ob_w5 o_b a_b cI cZ b)) A) (List.toArray [.ref o_b, .int x1, .int x2, .int x3]) s 0 0 A) (F0 m 112 ls []) := by
    intro k_89 hk_89 fu
    induction fu with
    | zero =>
      intro H locs z4 z5 z7 z9 z10 z12 ls hP hD hS hl hd
      rw [fd_X5_lies_L112] at hd
      cases hd
    | succ fu ih =>
      intro H locs z4 z5 z7 z9 z10 z12 ls hP hD hS hl hd
      rw [fd_X5_lies_L112] at hd
      refine lv_iload hx hb dX5_lies_112 (lv_at hl 9 rfl) ?_
      refine lv_aload_n hx hb dX5_lies_114 rfl (lv_at hl 0 rfl) ?_
      refine va_get (D := (dC, dI)) (ci := 5) (v := .ref (a_b 12)) (C := RX5) (T := TX5) (N := 23) hx hb hts hi_X5 hown hK hP 0 rfl rfl 12 (by decide) kw1 (fun _ h9 => h9) rfl dX5_lies_115 ?_
      refine lv_iconst (v := 2) hx hb dX5_lies_118 (by decide) ?_
      refine va_iald hx hb hK hP 5 0 rfl rfl (by unfold vp_in; decide) dX5_lies_119 ?_
      refine lv_icmp_ge (tgt := 168) hx hb dX5_lies_120 (by decide) (fun c_120 => ?_) (fun c_120 => ?_)
      · replace hd := ob_t c_120 hd
        exact L168 k_89 hk_89  _ _ z4 z5 z7 z9 z10 _ hP hD hS (lv_sub hl [0, 1, 2, 3, 4, 5, 6, 7, 8] rfl) hd
      · replace hd := ob_f c_120 hd
        refine lv_lload hx hb dX5_lies_123 (lv_at hl 8 rfl) ?_
        refine lv_iload hx hb dX5_lies_125 (lv_at hl 7 rfl) ?_
        refine lv_iload hx hb dX5_lies_127 (lv_at hl 9 rfl) ?_
        obtain ⟨r_10, hc_129, hd⟩ := ob_s1 hd
        refine ob_Si (isC := []) (isR := [0, 1, 2, 3, 4, 5, 6, 7, 8, 9, 10, 11, 12, 13]) (is2 := [0, 1, 2, 3, 4, 5, 6, 7, 8, 9, 10, 11, 12, 13]) (wc := ([] : va_W)) (wr := (List.filterMap (fun i => (ob_w5 o_b a_b cI cZ b)[i]?) [0, 1, 2, 3, 4, 5, 6, 7, 8, 9, 10, 11, 12, 13])) (w1 := ([] : va_W)) (w2 := (ob_w5 o_b a_b cI cZ b)) (As := [.int z9, .int z12]) (rest := [.long z10]) ⟨hx, hb, hml, hown, hts⟩ (mt_X5_has l dC dI cI cZ cR cW xs _ z9 z12 r_10 hc_129) (va_cwS 2 hts gX5_lies_X5_has rfl rfl rfl (by decide +kernel) ⟨Nat.le_of_ble_eq_true rfl, Nat.le_of_ble_eq_true rfl⟩) hK hE hP hD hS hA ⟨rfl, rfl, rfl, rfl, rfl, rfl, rfl⟩ hl rfl rfl (Nat.le_of_ble_eq_true rfl) ⟨Nat.le_of_ble_eq_true rfl, Nat.le_of_ble_eq_true rfl⟩ dX5_lies_129 (fun H locs hP hD hS => ?_)
        refine W.widen (k := 0) (n := 0) (Nat.le_refl _) (Nat.le_refl _) ?_
        refine lv_if_eq (tgt := 140) hx hb dX5_lies_132 (by decide) (fun c_132 => ?_) (fun c_132 => ?_)
        · replace hd := ob_t c_132 hd
          refine lv_iload hx hb dX5_lies_140 (lv_at hl 4 rfl) ?_
          refine lv_iload hx hb dX5_lies_142 (lv_at hl 9 rfl) ?_
          obtain ⟨r_11, hc_144, hd⟩ := ob_s1 hd
          refine ob_Si (isC := []) (isR := [0, 1, 2, 3, 4, 5, 6, 7, 8, 9, 10, 11, 12, 13]) (is2 := [0, 1, 2, 3, 4, 5, 6, 7, 8, 9, 10, 11, 12, 13]) (wc := ([] : va_W)) (wr := (List.filterMap (fun i => (ob_w5 o_b a_b cI cZ b)[i]?) [0, 1, 2, 3, 4, 5, 6, 7, 8, 9, 10, 11, 12, 13])) (w1 := ([] : va_W)) (w2 := (ob_w5 o_b a_b cI cZ b)) (As := [.int z4, .int z12]) (rest := [.long z10]) ⟨hx, hb, hml, hown, hts⟩ (mt_X5_has l dC dI cI cZ cR cW xs _ z4 z12 r_11 hc_144) (va_cwS 2 hts gX5_lies_X5_has rfl rfl rfl (by decide +kernel) ⟨Nat.le_of_ble_eq_true rfl, Nat.le_of_ble_eq_true rfl⟩) hK hE hP hD hS hA ⟨rfl, rfl, rfl, rfl, rfl, rfl, rfl⟩ hl rfl rfl (Nat.le_of_ble_eq_true rfl) ⟨Nat.le_of_ble_eq_true rfl, Nat.le_of_ble_eq_true rfl⟩ dX5_lies_144 (fun H locs hP hD hS => ?_)
          refine W.widen (k := 0) (n := 0) (Nat.le_refl _) (Nat.le_refl _) ?_
          refine lv_if_eq (tgt := 158) hx hb dX5_lies_147 (by decide) (fun c_147 => ?_) (fun c_147 => ?_)
          · replace hd := ob_t c_147 hd
            refine lv_lconst (v := 1) hx hb dX5_lies_158 (by decide) ?_
            refine lv_lmul hx hb dX5_lies_159 ?_
            refine lv_topl (fun x_12 ex_12 => ?_)
            replace hd := ob_lx ex_12 hd
            clear ex_12
            refine lv_lstore (lv' := [(10, .long x_12), (0, .ref o_b), (1, .int x1), (2, .int x2), (3, .int x3), (4, .int z4), (5, .long z5), (7, .long z7), (9, .int z9), (12, .int z12)]) hx hb dX5_lies_160 hl (by decide) rfl (fun ls hl => ?_)
            obtain ⟨x_13, ex_13⟩ : ∃ z : Int32, z = z12 + 1 := ⟨_, rfl⟩
            replace hd := ob_lx ex_13 hd
            refine lv_iinc (v := x_13) (lv' := [(12, .int x_13), (10, .long x_12), (0, .ref o_b), (1, .int x1), (2, .int x2), (3, .int x3), (4, .int z4), (5, .long z5), (7, .long z7), (9, .int z9)]) hx hb dX5_lies_162 hl (k := 9) rfl (by rw [ex_13]; rfl) (by decide) rfl (fun ls hl => ?_)
            clear ex_13
            refine lv_goto (tgt := 112) hx hb dX5_lies_165 (by decide) ?_
            exact ih _ _ z4 z5 z7 z9 x_12 x_13 _ hP hD hS (lv_sub hl [2, 3, 4, 5, 6, 7, 8, 9, 1, 0] rfl) hd
          · replace hd := ob_f c_147 hd
            refine lv_bipush (v := 10) hx hb dX5_lies_150 (by decide) ?_
            refine lv_iload_n hx hb dX5_lies_152 rfl (lv_at hl 2 rfl) ?_
            refine lv_isub hx hb dX5_lies_153 ?_
            refine lv_i2l hx hb dX5_lies_154 rfl ?_
            refine lv_goto (tgt := 159) hx hb dX5_lies_155 (by decide) ?_
            refine lv_lmul hx hb dX5_lies_159 ?_
            refine lv_topl (fun x_14 ex_14 => ?_)
            replace hd := ob_lx ex_14 hd
            clear ex_14
            refine lv_lstore (lv' := [(10, .long x_14), (0, .ref o_b), (1, .int x1), (2, .int x2), (3, .int x3), (4, .int z4), (5, .long z5), (7, .long z7), (9, .int z9), (12, .int z12)]) hx hb dX5_lies_160 hl (by decide) rfl (fun ls hl => ?_)
            obtain ⟨x_15, ex_15⟩ : ∃ z : Int32, z = z12 + 1 := ⟨_, rfl⟩
            replace hd := ob_lx ex_15 hd
            refine lv_iinc (v := x_15) (lv' := [(12, .int x_15), (10, .long x_14), (0, .ref o_b), (1, .int x1), (2, .int x2), (3, .int x3), (4, .int z4), (5, .long z5), (7, .long z7), (9, .int z9)]) hx hb dX5_lies_162 hl (k := 9) rfl (by rw [ex_15]; rfl) (by decide) rfl (fun ls hl => ?_)
            clear ex_15
            refine lv_goto (tgt := 112) hx hb dX5_lies_165 (by decide) ?_
            exact ih _ _ z4 z5 z7 z9 x_14 x_15 _ hP hD hS (lv_sub hl [2, 3, 4, 5, 6, 7, 8, 9, 1, 0] rfl) hd
        · replace hd := ob_f c_132 hd
          refine lv_iload_n hx hb dX5_lies_135 rfl (lv_at hl 2 rfl) ?_
          refine lv_i2l hx hb dX5_lies_136 rfl ?_
          refine lv_goto (tgt := 159) hx hb dX5_lies_137 (by decide) ?_
          refine lv_lmul hx hb dX5_lies_159 ?_
          refine lv_topl (fun x_16 ex_16 => ?_)
          replace hd := ob_lx ex_16 hd
          clear ex_16
          refine lv_lstore (lv' := [(10, .long x_16), (0, .ref o_b), (1, .int x1), (2, .int x2), (3, .int x3), (4, .int z4), (5, .long z5), (7, .long z7), (9, .int z9), (12, .int z12)]) hx hb dX5_lies_160 hl (by decide) rfl (fun ls hl => ?_)
          obtain ⟨x_17, ex_17⟩ : ∃ z : Int32, z = z12 + 1 := ⟨_, rfl⟩
          replace hd := ob_lx ex_17 hd
          refine lv_iinc (v := x_17) (lv' := [(12, .int x_17), (10, .long x_16), (0, .ref o_b), (1, .int x1), (2, .int x2), (3, .int x3), (4, .int z4), (5, .long z5), (7, .long z7), (9, .int z9)]) hx hb dX5_lies_162 hl (k := 9) rfl (by rw [ex_17]; rfl) (by decide) rfl (fun ls hl => ?_)
          clear ex_17
          refine lv_goto (tgt := 112) hx hb dX5_lies_165 (by decide) ?_
          exact ih _ _ z4 z5 z7 z9 x_16 x_17 _ hP hD hS (lv_sub hl [2, 3, 4, 5, 6, 7, 8, 9, 1, 0] rfl) hd
  have L238 : ∀ (H : Heap) (locs : List Loc)  (z5 : Int64) (z7 : Int64) (z9 : Int64) (ls : Array Slot), va_P (dC, dI) vwCl (ob_w5 o_b a_b cI cZ b) H → va_D A (ob_w5 o_b a_b cI cZ b) → va_S A s.heap H locs → lv_has ls 15 [(3, .int x3), (5, .long z5), (7, .long z7), (9, .long z9)] → fd_X5_lies_L238 b x3 z5 z7 z9 = some (rr) → W p l e ({ frames := 3, cells := 0, slots := 0, locals := 69 } : Room) s m (List.toArray [.ref o_b, .int x1, .int x2, .int x3]) below meth c H locs 0 0 (MQ below ((ob_Ql (dC, dI) rr (ob_w5 o_b a_b cI cZ b)) A) (List.toArray [.ref o_b, .int x1, .int x2, .int x3]) s 0 0 A) (F0 m 238 ls []) := by
    intro  H locs z5 z7 z9 ls hP hD hS hl hd
    rw [fd_X5_lies_L238] at hd
    refine lv_iload_n hx hb dX5_lies_238 rfl (lv_at hl 0 rfl) ?_
    refine lv_if_ne (tgt := 247) hx hb dX5_lies_239 (by decide) (fun c_239 => ?_) (fun c_239 => ?_)
    · replace hd := ob_f c_239 hd
      refine lv_lload hx hb dX5_lies_247 (lv_at hl 2 rfl) ?_
      refine lv_lload hx hb dX5_lies_249 (lv_at hl 3 rfl) ?_
      obtain ⟨h0_251, hd⟩ := ob_nn hd
      refine lv_ldiv hx hb dX5_lies_251 h0_251 ?_
      have e1 := Option.some.inj hd
      subst e1
      exact ob_lret hx hb hr hlocks hP hD hS dX5_lies_252
    · replace hd := ob_t c_239 hd
      refine lv_lload hx hb dX5_lies_242 (lv_at hl 1 rfl) ?_
      refine lv_goto (tgt := 249) hx hb dX5_lies_244 (by decide) ?_
      refine lv_lload hx hb dX5_lies_249 (lv_at hl 3 rfl) ?_
      obtain ⟨h0_251, hd⟩ := ob_nn hd
      refine lv_ldiv hx hb dX5_lies_251 h0_251 ?_
      have e1 := Option.some.inj hd
      subst e1
      exact ob_lret hx hb hr hlocks hP hD hS dX5_lies_252
  have L213 : ∀  (fu : Nat), ∀ (H : Heap) (locs : List Loc)  (z5 : Int64) (z7 : Int64) (z9 : Int64) (z11 : Int64) (ls : Array Slot), va_P (dC, dI) vwCl (ob_w5 o_b a_b cI cZ b) H → va_D A (ob_w5 o_b a_b cI cZ b) → va_S A s.heap H locs → lv_has ls 15 [(3, .int x3), (5, .long z5), (7, .long z7), (9, .long z9), (11, .long z11)] → fd_X5_lies_L213 fu b x3 z5 z7 z9 z11 = some (rr) → W p l e ({ frames := 3, cells := 0, slots := 0, locals := 69 } : Room) s m (List.toArray [.ref o_b, .int x1, .int x2, .int x3]) below meth c H locs 0 0 (MQ below ((ob_Ql (dC, dI) rr (ob_w5 o_b a_b cI cZ b)) A) (List.toArray [.ref o_b, .int x1, .int x2, .int x3]) s 0 0 A) (F0 m 213 ls []) := by
    intro  fu
    induction fu with
    | zero =>
      intro H locs z5 z7 z9 z11 ls hP hD hS hl hd
      rw [fd_X5_lies_L213] at hd
      cases hd
    | succ fu ih =>
      intro H locs z5 z7 z9 z11 ls hP hD hS hl hd
      rw [fd_X5_lies_L213] at hd
      refine lv_lload hx hb dX5_lies_213 (lv_at hl 4 rfl) ?_
      refine lv_lconst (v := 0) hx hb dX5_lies_215 (by decide) ?_
      refine W.lcmp hx hb dX5_lies_216 ?_
      refine lv_if_le (tgt := 238) hx hb dX5_lies_217 (by decide) (fun c_217 => ?_) (fun c_217 => ?_)
      · replace hd := ob_t c_217 hd
        exact L238   _ _ z5 z7 z9 _ hP hD hS (lv_sub hl [0, 1, 2, 3] rfl) hd
      · replace hd := ob_f c_217 hd
        refine lv_lload hx hb dX5_lies_220 (lv_at hl 3 rfl) ?_
        refine lv_lload hx hb dX5_lies_222 (lv_at hl 4 rfl) ?_
        obtain ⟨h0_224, hd⟩ := ob_nn hd
        refine lv_lrem hx hb dX5_lies_224 h0_224 ?_
        refine lv_topl (fun x_18 ex_18 => ?_)
        replace hd := ob_lx ex_18 hd
        clear ex_18
        refine lv_lstore (lv' := [(13, .long x_18), (3, .int x3), (5, .long z5), (7, .long z7), (9, .long z9), (11, .long z11)]) hx hb dX5_lies_225 hl (by decide) rfl (fun ls hl => ?_)
        refine lv_lload hx hb dX5_lies_227 (lv_at hl 5 rfl) ?_
        refine lv_lstore (lv' := [(9, .long z11), (13, .long x_18), (3, .int x3), (5, .long z5), (7, .long z7), (11, .long z11)]) hx hb dX5_lies_229 hl (by decide) rfl (fun ls hl => ?_)
        refine lv_lload hx hb dX5_lies_231 (lv_at hl 1 rfl) ?_
        refine lv_lstore (lv' := [(11, .long x_18), (9, .long z11), (13, .long x_18), (3, .int x3), (5, .long z5), (7, .long z7)]) hx hb dX5_lies_233 hl (by decide) rfl (fun ls hl => ?_)
        refine lv_goto (tgt := 213) hx hb dX5_lies_235 (by decide) ?_
        exact ih _ _ z5 z7 z11 x_18 _ hP hD hS (lv_sub hl [3, 4, 5, 1, 0] rfl) hd
  have L205 : ∀ (H : Heap) (locs : List Loc)  (z5 : Int64) (z7 : Int64) (ls : Array Slot), va_P (dC, dI) vwCl (ob_w5 o_b a_b cI cZ b) H → va_D A (ob_w5 o_b a_b cI cZ b) → va_S A s.heap H locs → lv_has ls 15 [(3, .int x3), (5, .long z5), (7, .long z7)] → fd_X5_lies_L205 b x3 z5 z7 = some (rr) → W p l e ({ frames := 3, cells := 0, slots := 0, locals := 69 } : Room) s m (List.toArray [.ref o_b, .int x1, .int x2, .int x3]) below meth c H locs 0 0 (MQ below ((ob_Ql (dC, dI) rr (ob_w5 o_b a_b cI cZ b)) A) (List.toArray [.ref o_b, .int x1, .int x2, .int x3]) s 0 0 A) (F0 m 205 ls []) := by
    intro  H locs z5 z7 ls hP hD hS hl hd
    rw [fd_X5_lies_L205] at hd
    refine lv_lload hx hb dX5_lies_205 (lv_at hl 1 rfl) ?_
    refine lv_lstore (lv' := [(9, .long z5), (3, .int x3), (5, .long z5), (7, .long z7)]) hx hb dX5_lies_207 hl (by decide) rfl (fun ls hl => ?_)
    refine lv_lload hx hb dX5_lies_209 (lv_at hl 3 rfl) ?_
    refine lv_lstore (lv' := [(11, .long z7), (9, .long z5), (3, .int x3), (5, .long z5), (7, .long z7)]) hx hb dX5_lies_211 hl (by decide) rfl (fun ls hl => ?_)
    exact L213  2000 _ _ z5 z7 z5 z7 _ hP hD hS (lv_sub hl [2, 3, 4, 1, 0] rfl) hd
  have L89 : ∀  (fu : Nat), ∀ (H : Heap) (locs : List Loc)  (z4 : Int32) (z5 : Int64) (z7 : Int64) (z9 : Int32) (ls : Array Slot), va_P (dC, dI) vwCl (ob_w5 o_b a_b cI cZ b) H → va_D A (ob_w5 o_b a_b cI cZ b) → va_S A s.heap H locs → lv_has ls 15 [(0, .ref o_b), (1, .int x1), (2, .int x2), (3, .int x3), (4, .int z4), (5, .long z5), (7, .long z7), (9, .int z9)] → fd_X5_lies_L89 fu b x1 x2 x3 z4 z5 z7 z9 = some (rr) → W p l e ({ frames := 3, cells := 0, slots := 0, locals := 69 } : Room) s m (List.toArray [.ref o_b, .int x1, .int x2, .int x3]) below meth c H locs 0 0 (MQ below ((ob_Ql (dC, dI) rr (ob_w5 o_b a_b cI cZ b)) A) (List.toArray [.ref o_b, .int x1, .int x2, .int x3]) s 0 0 A) (F0 m 89 ls []) := by
    intro  fu
    induction fu with
    | zero =>
      intro H locs z4 z5 z7 z9 ls hP hD hS hl hd
      rw [fd_X5_lies_L89] at hd
      cases hd
    | succ fu ih =>
      intro H locs z4 z5 z7 z9 ls hP hD hS hl hd
      rw [fd_X5_lies_L89] at hd
      refine lv_iload hx hb dX5_lies_89 (lv_at hl 7 rfl) ?_
      refine lv_iload hx hb dX5_lies_91 (lv_at hl 4 rfl) ?_
      refine lv_icmp_gt (tgt := 205) hx hb dX5_lies_93 (by decide) (fun c_93 => ?_) (fun c_93 => ?_)
      · replace hd := ob_t c_93 hd
        exact L205   _ _ z5 z7 _ hP hD hS (lv_sub hl [3, 5, 6] rfl) hd
      · replace hd := ob_f c_93 hd
        refine lv_iload hx hb dX5_lies_96 (lv_at hl 7 rfl) ?_
        refine lv_iload hx hb dX5_lies_98 (lv_at hl 4 rfl) ?_
        refine lv_iconst (v := (-1)) hx hb dX5_lies_100 (by decide) ?_
        refine lv_ixor hx hb dX5_lies_101 ?_
        refine lv_iand hx hb dX5_lies_102 ?_
        refine lv_if_ne (tgt := 199) hx hb dX5_lies_103 (by decide) (fun c_103 => ?_) (fun c_103 => ?_)
        · replace hd := ob_f c_103 hd
          obtain ⟨x_9, ex_9⟩ : ∃ z : Int32, z = z9 + 1 := ⟨_, rfl⟩
          replace hd := ob_lx ex_9 hd
          refine lv_iinc (v := x_9) (lv' := [(9, .int x_9), (0, .ref o_b), (1, .int x1), (2, .int x2), (3, .int x3), (4, .int z4), (5, .long z5), (7, .long z7)]) hx hb dX5_lies_199 hl (k := 7) rfl (by rw [ex_9]; rfl) (by decide) rfl (fun ls hl => ?_)
          clear ex_9
          refine lv_goto (tgt := 89) hx hb dX5_lies_202 (by decide) ?_
          exact ih _ _ z4 z5 z7 x_9 _ hP hD hS (lv_sub hl [1, 2, 3, 4, 5, 6, 7, 0] rfl) hd
        · replace hd := ob_t c_103 hd
          refine lv_lconst (v := 1) hx hb dX5_lies_106 (by decide) ?_
          refine lv_lstore (lv' := [(10, .long 1), (0, .ref o_b), (1, .int x1), (2, .int x2), (3, .int x3), (4, .int z4), (5, .long z5), (7, .long z7), (9, .int z9)]) hx hb dX5_lies_107 hl (by decide) rfl (fun ls hl => ?_)
          refine lv_iconst (v := 0) hx hb dX5_lies_109 (by decide) ?_
          refine lv_istore (lv' := [(12, .int 0), (10, .long 1), (0, .ref o_b), (1, .int x1), (2, .int x2), (3, .int x3), (4, .int z4), (5, .long z5), (7, .long z7), (9, .int z9)]) hx hb dX5_lies_110 hl (by decide) rfl (fun ls hl => ?_)
          exact L112 (fd_X5_lies_L89 fu) ih 2000 _ _ z4 z5 z7 z9 1 0 _ hP hD hS (lv_sub hl [2, 3, 4, 5, 6, 7, 8, 9, 1, 0] rfl) hd
  have L62 : ∀  (fu : Nat), ∀ (H : Heap) (locs : List Loc)  (z4 : Int32) (z5 : Int64) (z7 : Int64) (z9 : Int32) (ls : Array Slot), va_P (dC, dI) vwCl (ob_w5 o_b a_b cI cZ b) H → va_D A (ob_w5 o_b a_b cI cZ b) → va_S A s.heap H locs → lv_has ls 15 [(0, .ref o_b), (1, .int x1), (2, .int x2), (3, .int x3), (4, .int z4), (5, .long z5), (7, .long z7), (9, .int z9)] → fd_X5_lies_L62 fu b x1 x2 x3 z4 z5 z7 z9 = some (rr) → W p l e ({ frames := 3, cells := 0, slots := 0, locals := 69 } : Room) s m (List.toArray [.ref o_b, .int x1, .int x2, .int x3]) below meth c H locs 0 0 (MQ below ((ob_Ql (dC, dI) rr (ob_w5 o_b a_b cI cZ b)) A) (List.toArray [.ref o_b, .int x1, .int x2, .int x3]) s 0 0 A) (F0 m 62 ls []) := by
    intro  fu
    induction fu with
    | zero =>
      intro H locs z4 z5 z7 z9 ls hP hD hS hl hd
      rw [fd_X5_lies_L62] at hd
      cases hd
    | succ fu ih =>
      intro H locs z4 z5 z7 z9 ls hP hD hS hl hd
      rw [fd_X5_lies_L62] at hd
      refine lv_iload hx hb dX5_lies_62 (lv_at hl 7 rfl) ?_
      refine lv_iload hx hb dX5_lies_64 (lv_at hl 4 rfl) ?_
      obtain ⟨r_6, hc_66, hd⟩ := ob_s1 hd
      refine ob_Si (isC := []) (isR := [0, 1, 2, 3, 4, 5, 6, 7, 8, 9, 10, 11, 12, 13]) (is2 := [0, 1, 2, 3, 4, 5, 6, 7, 8, 9, 10, 11, 12, 13]) (wc := ([] : va_W)) (wr := (List.filterMap (fun i => (ob_w5 o_b a_b cI cZ b)[i]?) [0, 1, 2, 3, 4, 5, 6, 7, 8, 9, 10, 11, 12, 13])) (w1 := ([] : va_W)) (w2 := (ob_w5 o_b a_b cI cZ b)) (As := [.int z4]) (rest := [.int z9]) ⟨hx, hb, hml, hown, hts⟩ (mt_X5_bits l dC dI cI cZ cR cW xs _ z4 r_6 hc_66) (va_cwS 1 hts gX5_lies_X5_bits rfl rfl rfl (by decide +kernel) ⟨Nat.le_of_ble_eq_true rfl, Nat.le_of_ble_eq_true rfl⟩) hK hE hP hD hS hA ⟨rfl, rfl, rfl, rfl, rfl, rfl, rfl⟩ hl rfl rfl (Nat.le_of_ble_eq_true rfl) ⟨Nat.le_of_ble_eq_true rfl, Nat.le_of_ble_eq_true rfl⟩ dX5_lies_66 (fun H locs hP hD hS => ?_)
      refine W.widen (k := 0) (n := 0) (Nat.le_refl _) (Nat.le_refl _) ?_
      refine lv_icmp_ge (tgt := 86) hx hb dX5_lies_69 (by decide) (fun c_69 => ?_) (fun c_69 => ?_)
      · replace hd := ob_t c_69 hd
        refine lv_iconst (v := 0) hx hb dX5_lies_86 (by decide) ?_
        refine lv_istore (lv' := [(9, .int 0), (0, .ref o_b), (1, .int x1), (2, .int x2), (3, .int x3), (4, .int z4), (5, .long z5), (7, .long z7)]) hx hb dX5_lies_87 hl (by decide) rfl (fun ls hl => ?_)
        exact L89  2000 _ _ z4 z5 z7 0 _ hP hD hS (lv_sub hl [1, 2, 3, 4, 5, 6, 7, 0] rfl) hd
      · replace hd := ob_f c_69 hd
        refine lv_lload hx hb dX5_lies_72 (lv_at hl 6 rfl) ?_
        refine lv_ldc2 hx hb hown kw3 dX5_lies_74 ?_
        refine lv_lmul hx hb dX5_lies_77 ?_
        refine lv_topl (fun x_7 ex_7 => ?_)
        replace hd := ob_lx ex_7 hd
        clear ex_7
        refine lv_lstore (lv' := [(7, .long x_7), (0, .ref o_b), (1, .int x1), (2, .int x2), (3, .int x3), (4, .int z4), (5, .long z5), (9, .int z9)]) hx hb dX5_lies_78 hl (by decide) rfl (fun ls hl => ?_)
        obtain ⟨x_8, ex_8⟩ : ∃ z : Int32, z = z9 + 1 := ⟨_, rfl⟩
        replace hd := ob_lx ex_8 hd
        refine lv_iinc (v := x_8) (lv' := [(9, .int x_8), (7, .long x_7), (0, .ref o_b), (1, .int x1), (2, .int x2), (3, .int x3), (4, .int z4), (5, .long z5)]) hx hb dX5_lies_80 hl (k := 7) rfl (by rw [ex_8]; rfl) (by decide) rfl (fun ls hl => ?_)
        clear ex_8
        refine lv_goto (tgt := 62) hx hb dX5_lies_83 (by decide) ?_
        exact ih _ _ z4 z5 x_7 x_8 _ hP hD hS (lv_sub hl [2, 3, 4, 5, 6, 7, 1, 0] rfl) hd
  refine lv_aload_n hx hb dX5_lies_0 rfl (lv_at hl 0 rfl) ?_
  obtain ⟨r_1, hc_1, hd⟩ := ob_s1 hd
  refine ob_Vi (isC := [0, 1, 2, 3, 4, 5, 6, 7, 8, 9, 10, 11, 12, 13]) (isR := []) (is2 := [0, 1, 2, 3, 4, 5, 6, 7, 8, 9, 10, 11, 12, 13]) (wc := (ob_w5 o_b a_b cI cZ b)) (wr := ([] : va_W)) (w1 := (ob_w5 o_b a_b cI cZ b)) (w2 := (ob_w5 o_b a_b cI cZ b)) (b := o_b) (As := []) (rest := []) ⟨hx, hb, hml, hown, hts⟩ (mt_X5_isRoute l dC dI cI cZ cR cW xs _ o_b a_b b r_1 hc_1) (cwV 0 hts gX5_lies_X5_isRoute rfl rfl rfl (by decide +kernel) ⟨Nat.le_of_ble_eq_true rfl, Nat.le_of_ble_eq_true rfl⟩) hK hE hP hD hS hA ⟨rfl, rfl, rfl, rfl, rfl, rfl, rfl⟩ 5 0 rfl rfl rfl hl rfl rfl (Nat.le_of_ble_eq_true rfl) ⟨Nat.le_of_ble_eq_true rfl, Nat.le_of_ble_eq_true rfl⟩ dX5_lies_1 (fun H locs hP hD hS => ?_)
  refine W.widen (k := 0) (n := 0) (Nat.le_refl _) (Nat.le_refl _) ?_
  refine lv_if_ne (tgt := 11) hx hb dX5_lies_4 (by decide) (fun c_4 => ?_) (fun c_4 => ?_)
  · replace hd := ob_f c_4 hd
    refine lv_iload_n hx hb dX5_lies_11 rfl (lv_at hl 1 rfl) ?_
    refine lv_iconst (v := 0) hx hb dX5_lies_12 (by decide) ?_
    refine lv_bipush (v := 9) hx hb dX5_lies_13 (by decide) ?_
    obtain ⟨r_2, hc_15, hd⟩ := ob_s1 hd
    refine ob_Si (isC := []) (isR := [0, 1, 2, 3, 4, 5, 6, 7, 8, 9, 10, 11, 12, 13]) (is2 := [0, 1, 2, 3, 4, 5, 6, 7, 8, 9, 10, 11, 12, 13]) (wc := ([] : va_W)) (wr := (List.filterMap (fun i => (ob_w5 o_b a_b cI cZ b)[i]?) [0, 1, 2, 3, 4, 5, 6, 7, 8, 9, 10, 11, 12, 13])) (w1 := ([] : va_W)) (w2 := (ob_w5 o_b a_b cI cZ b)) (As := [.int x1, .int 0, .int 9]) (rest := []) ⟨hx, hb, hml, hown, hts⟩ (mt_X5_in l dC dI cI cZ cR cW xs _ x1 0 9 r_2 hc_15) (va_cwS 3 hts gX5_lies_X5_in rfl rfl rfl (by decide +kernel) ⟨Nat.le_of_ble_eq_true rfl, Nat.le_of_ble_eq_true rfl⟩) hK hE hP hD hS hA ⟨rfl, rfl, rfl, rfl, rfl, rfl, rfl⟩ hl rfl rfl (Nat.le_of_ble_eq_true rfl) ⟨Nat.le_of_ble_eq_true rfl, Nat.le_of_ble_eq_true rfl⟩ dX5_lies_15 (fun H locs hP hD hS => ?_)
    refine W.widen (k := 0) (n := 0) (Nat.le_refl _) (Nat.le_refl _) ?_
    refine lv_if_eq (tgt := 40) hx hb dX5_lies_18 (by decide) (fun c_18 => ?_) (fun c_18 => ?_)
    · replace hd := ob_t c_18 hd
      refine lv_ldc2 hx hb hown kw0 dX5_lies_40 ?_
      have e1 := Option.some.inj hd
      subst e1
      exact ob_lret hx hb hr hlocks hP hD hS dX5_lies_43
    · replace hd := ob_f c_18 hd
      refine lv_iload_n hx hb dX5_lies_21 rfl (lv_at hl 2 rfl) ?_
      refine lv_iconst (v := 0) hx hb dX5_lies_22 (by decide) ?_
      refine lv_bipush (v := 10) hx hb dX5_lies_23 (by decide) ?_
      obtain ⟨r_3, hc_25, hd⟩ := ob_s1 hd
      refine ob_Si (isC := []) (isR := [0, 1, 2, 3, 4, 5, 6, 7, 8, 9, 10, 11, 12, 13]) (is2 := [0, 1, 2, 3, 4, 5, 6, 7, 8, 9, 10, 11, 12, 13]) (wc := ([] : va_W)) (wr := (List.filterMap (fun i => (ob_w5 o_b a_b cI cZ b)[i]?) [0, 1, 2, 3, 4, 5, 6, 7, 8, 9, 10, 11, 12, 13])) (w1 := ([] : va_W)) (w2 := (ob_w5 o_b a_b cI cZ b)) (As := [.int x2, .int 0, .int 10]) (rest := []) ⟨hx, hb, hml, hown, hts⟩ (mt_X5_in l dC dI cI cZ cR cW xs _ x2 0 10 r_3 hc_25) (va_cwS 3 hts gX5_lies_X5_in rfl rfl rfl (by decide +kernel) ⟨Nat.le_of_ble_eq_true rfl, Nat.le_of_ble_eq_true rfl⟩) hK hE hP hD hS hA ⟨rfl, rfl, rfl, rfl, rfl, rfl, rfl⟩ hl rfl rfl (Nat.le_of_ble_eq_true rfl) ⟨Nat.le_of_ble_eq_true rfl, Nat.le_of_ble_eq_true rfl⟩ dX5_lies_25 (fun H locs hP hD hS => ?_)
      refine W.widen (k := 0) (n := 0) (Nat.le_refl _) (Nat.le_refl _) ?_
      refine lv_if_eq (tgt := 40) hx hb dX5_lies_28 (by decide) (fun c_28 => ?_) (fun c_28 => ?_)
      · replace hd := ob_t c_28 hd
        refine lv_ldc2 hx hb hown kw0 dX5_lies_40 ?_
        have e1 := Option.some.inj hd
        subst e1
        exact ob_lret hx hb hr hlocks hP hD hS dX5_lies_43
      · replace hd := ob_f c_28 hd
        refine lv_iload_n hx hb dX5_lies_31 rfl (lv_at hl 3 rfl) ?_
        refine lv_iconst (v := 0) hx hb dX5_lies_32 (by decide) ?_
        refine lv_iconst (v := 1) hx hb dX5_lies_33 (by decide) ?_
        obtain ⟨r_4, hc_34, hd⟩ := ob_s1 hd
        refine ob_Si (isC := []) (isR := [0, 1, 2, 3, 4, 5, 6, 7, 8, 9, 10, 11, 12, 13]) (is2 := [0, 1, 2, 3, 4, 5, 6, 7, 8, 9, 10, 11, 12, 13]) (wc := ([] : va_W)) (wr := (List.filterMap (fun i => (ob_w5 o_b a_b cI cZ b)[i]?) [0, 1, 2, 3, 4, 5, 6, 7, 8, 9, 10, 11, 12, 13])) (w1 := ([] : va_W)) (w2 := (ob_w5 o_b a_b cI cZ b)) (As := [.int x3, .int 0, .int 1]) (rest := []) ⟨hx, hb, hml, hown, hts⟩ (mt_X5_in l dC dI cI cZ cR cW xs _ x3 0 1 r_4 hc_34) (va_cwS 3 hts gX5_lies_X5_in rfl rfl rfl (by decide +kernel) ⟨Nat.le_of_ble_eq_true rfl, Nat.le_of_ble_eq_true rfl⟩) hK hE hP hD hS hA ⟨rfl, rfl, rfl, rfl, rfl, rfl, rfl⟩ hl rfl rfl (Nat.le_of_ble_eq_true rfl) ⟨Nat.le_of_ble_eq_true rfl, Nat.le_of_ble_eq_true rfl⟩ dX5_lies_34 (fun H locs hP hD hS => ?_)
        refine W.widen (k := 0) (n := 0) (Nat.le_refl _) (Nat.le_refl _) ?_
        refine lv_if_ne (tgt := 44) hx hb dX5_lies_37 (by decide) (fun c_37 => ?_) (fun c_37 => ?_)
        · replace hd := ob_f c_37 hd
          refine lv_aload_n hx hb dX5_lies_44 rfl (lv_at hl 0 rfl) ?_
          refine va_get (D := (dC, dI)) (ci := 5) (v := .ref (a_b 12)) (C := RX5) (T := TX5) (N := 23) hx hb hts hi_X5 hown hK hP 0 rfl rfl 12 (by decide) kw1 (fun _ h9 => h9) rfl dX5_lies_45 ?_
          obtain ⟨r_5, hc_48, hd⟩ := ob_s1 hd
          refine ob_Si (isC := [5]) (isR := [0, 1, 2, 3, 4, 6, 7, 8, 9, 10, 11, 12, 13]) (is2 := [0, 1, 2, 3, 4, 13, 5, 6, 7, 8, 9, 10, 11, 12]) (wc := (ob_wa (a_b 12) cI 42 (b.2 12))) (wr := (List.filterMap (fun i => (ob_w5 o_b a_b cI cZ b)[i]?) [0, 1, 2, 3, 4, 6, 7, 8, 9, 10, 11, 12, 13])) (w1 := (ob_wa (a_b 12) cI 42 (b.2 12))) (w2 := (ob_w5 o_b a_b cI cZ b)) (As := [.ref (a_b 12)]) (rest := []) ⟨hx, hb, hml, hown, hts⟩ (mt_X5_openOf l dC dI cI cZ cR cW xs _ ((a_b 12)) ((b.2 12)) r_5 hc_48) (va_cwS 1 hts gX5_lies_X5_openOf rfl rfl rfl (by decide +kernel) ⟨Nat.le_of_ble_eq_true rfl, Nat.le_of_ble_eq_true rfl⟩) hK hE hP hD hS hA ⟨rfl, rfl, rfl, rfl, rfl, rfl, rfl⟩ hl rfl rfl (Nat.le_of_ble_eq_true rfl) ⟨Nat.le_of_ble_eq_true rfl, Nat.le_of_ble_eq_true rfl⟩ dX5_lies_48 (fun H locs hP hD hS => ?_)
          refine W.widen (k := 0) (n := 0) (Nat.le_refl _) (Nat.le_refl _) ?_
          refine lv_istore (lv' := [(4, .int r_5), (0, .ref o_b), (1, .int x1), (2, .int x2), (3, .int x3)]) hx hb dX5_lies_51 hl (by decide) rfl (fun ls hl => ?_)
          refine lv_lconst (v := 0) hx hb dX5_lies_53 (by decide) ?_
          refine lv_lstore (lv' := [(5, .long 0), (4, .int r_5), (0, .ref o_b), (1, .int x1), (2, .int x2), (3, .int x3)]) hx hb dX5_lies_54 hl (by decide) rfl (fun ls hl => ?_)
          refine lv_lconst (v := 1) hx hb dX5_lies_56 (by decide) ?_
          refine lv_lstore (lv' := [(7, .long 1), (5, .long 0), (4, .int r_5), (0, .ref o_b), (1, .int x1), (2, .int x2), (3, .int x3)]) hx hb dX5_lies_57 hl (by decide) rfl (fun ls hl => ?_)
          refine lv_iconst (v := 0) hx hb dX5_lies_59 (by decide) ?_
          refine lv_istore (lv' := [(9, .int 0), (7, .long 1), (5, .long 0), (4, .int r_5), (0, .ref o_b), (1, .int x1), (2, .int x2), (3, .int x3)]) hx hb dX5_lies_60 hl (by decide) rfl (fun ls hl => ?_)
          exact L62  2000 _ _ r_5 0 1 0 _ hP hD hS (lv_sub hl [4, 5, 6, 7, 3, 2, 1, 0] rfl) hd
        · replace hd := ob_t c_37 hd
          refine lv_ldc2 hx hb hown kw0 dX5_lies_40 ?_
          have e1 := Option.some.inj hd
          subst e1
          exact ob_lret hx hb hr hlocks hP hD hS dX5_lies_43
  · replace hd := ob_t c_4 hd
    refine lv_ldc2 hx hb hown kw2 dX5_lies_7 ?_
    have e1 := Option.some.inj hd
    subst e1
    exact ob_lret hx hb hr hlocks hP hD hS dX5_lies_10

def fd_X5_order_L43 (k_25 : ob_B → Int32 → Int32 → Option (Int32 × ob_B)) : Nat → ob_B → Int32 → Int32 → Int32 → Int32 → Option (Int32 × ob_B)
  | 0, _, _, _, _, _ => none
  | fu + 1, b, z2, z3, z4, z5 => if ((b.2 12) (Int32.toNatClampNeg 2)) ≤ z5 then (ob_lt (z3 + 1 : Int32) (fun x_6 => k_25 b z2 x_6)) else (ob_b1 (fd_X5_has z4 z5) (fun r_7 => if r_7 = 0 then (ob_lt (z5 + 1 : Int32) (fun x_8 => fd_X5_order_L43 k_25 fu b z2 z3 z4 x_8)) else (if z2 = 0 then (some (z5, b)) else (ob_lt (z2 + (-1) : Int32) (fun x_9 => ob_lt (z5 + 1 : Int32) (fun x_10 => fd_X5_order_L43 k_25 fu b x_9 z3 z4 x_10))))))
def fd_X5_order_L25  : Nat → ob_B → Int32 → Int32 → Option (Int32 × ob_B)
  | 0, _, _, _ => none
  | fu + 1, b, z2, z3 => if 60 ≤ z3 then (some ((-1000000), b)) else (ob_b2 (fd_X5_pass ((b.2 14))) (fun r_3 f_4 => ob_lt (ob_A b 14 f_4 : ob_B) (fun b_5 => fd_X5_order_L43 (fd_X5_order_L25 fu) 2000 b_5 z2 z3 r_3 0)))
def fd_X5_order  (b : ob_B) (x1 : Int32) : Option (Int32 × ob_B) := ob_b1 (fd_X5_isRoute b) (fun r_1 => if r_1 = 0 then (some ((-1000002), b)) else (if 0 ≤ x1 then (ob_b1 (fd_X5_begin b) (fun b_2 => fd_X5_order_L25 2000 b_2 x1 0)) else (some ((-1000001), b))))
set_option maxHeartbeats 4000000 in
set_option maxRecDepth 100000 in
theorem mt_X5_order (l : Launch) (dC : Nat → ClassId) (dI : Nat → Nat → Nat) (cI cZ cR cW : ClassId) (xs : Nat → Nat) (sz : Nat) (o_b : Nat) (a_b : Nat → Nat) (b : ob_B) (x1 : Int32)  (rr : Int32) (b' : ob_B) (hd : fd_X5_order b x1 = some (rr, b')) : ob_M l yX5_order wsX5_order ({ frames := 4, cells := 0, slots := 0, locals := 92 } : Room) (dC, dI) (ob_ty cI cZ cR cW) xs [.ref o_b, .int x1] (ob_w5 o_b a_b cI cZ b) sz (ob_Qi (dC, dI) rr (ob_w5 o_b a_b cI cZ b')) := by
  rw [fd_X5_order] at hd
  refine ob_in (cc := cX5_order) (maxL := 6) (ret := (some .int)) (own := RX5) (by decide) rfl rfl [(0, .ref o_b), (1, .int x1)] rfl (Nat.le_of_ble_eq_true rfl) ?_
  intro p e s m below meth c hx hb hr hml hown hts hlocks hnm hK A hA hE hP hD hS ls hl
  have kw0 := hts (.constant RX5 63 (-1000001)) (by decide +kernel)
  have kw1 := hts (.constant RX5 130 (-1000002)) (by decide +kernel)
  have kw2 := hts (.constant RX5 163 (-1000000)) (by decide +kernel)
  have kw3 := hts (.fieldLink RX5 28 "OathCoachModel" "tried" "[I") (by decide +kernel)
  have kw4 := hts (.fieldLink RX5 22 "OathCoachModel" "now" "[I") (by decide +kernel)
  have hi_X5 : ∀ w ∈ u_ws RX5 TX5 23, w ∈ wsX5_order := by decide +kernel
  have L43 : ∀ (k_25 : ob_B → Int32 → Int32 → Option (Int32 × ob_B)) (hk_25 : ∀ (H : Heap) (locs : List Loc) (b : ob_B) (z2 : Int32) (z3 : Int32) (ls : Array Slot), va_P (dC, dI) vwCl (ob_w5 o_b a_b cI cZ b) H → va_D A (ob_w5 o_b a_b cI cZ b) → va_S A s.heap H locs → lv_has ls 6 [(0, .ref o_b), (2, .int z2), (3, .int z3)] → k_25 b z2 z3 = some (rr, b') → W p l e ({ frames := 4, cells := 0, slots := 0, locals := 92 } : Room) s m (List.toArray [.ref o_b, .int x1]) below meth c H locs 0 0 (MQ below ((ob_Qi (dC, dI) rr (ob_w5 o_b a_b cI cZ b')) A) (List.toArray [.ref o_b, .int x1]) s 0 0 A) (F0 m 25 ls [])) (fu : Nat), ∀ (H : Heap) (locs : List Loc) (b : ob_B) (z2 : Int32) (z3 : Int32) (z4 : Int32) (z5 : Int32) (ls : Array Slot), va_P (dC, dI) vwCl (ob_w5 o_b a_b cI cZ b) H → va_D A (ob_w5 o_b a_b cI cZ b) → va_S A s.heap H locs → lv_has ls 6 [(0, .ref o_b), (2, .int z2), (3, .int z3), (4, .int z4), (5, .int z5)] → fd_X5_order_L43 k_25 fu b z2 z3 z4 z5 = some (rr, b') → W p l e ({ frames := 4, cells := 0, slots := 0, locals := 92 } : Room) s m (List.toArray [.ref o_b, .int x1]) below meth c H locs 0 0 (MQ below ((ob_Qi (dC, dI) rr (ob_w5 o_b a_b cI cZ b')) A) (List.toArray [.ref o_b, .int x1]) s 0 0 A) (F0 m 43 ls []) := by
    intro k_25 hk_25 fu
    induction fu with
    | zero =>
      intro H locs b z2 z3 z4 z5 ls hP hD hS hl hd
      rw [fd_X5_order_L43] at hd
      cases hd
    | succ fu ih =>
      intro H locs b z2 z3 z4 z5 ls hP hD hS hl hd
      rw [fd_X5_order_L43] at hd
      refine lv_iload hx hb dX5_order_43 (lv_at hl 4 rfl) ?_
      refine lv_aload_n hx hb dX5_order_45 rfl (lv_at hl 0 rfl) ?_
      refine va_get (D := (dC, dI)) (ci := 5) (v := .ref (a_b 12)) (C := RX5) (T := TX5) (N := 23) hx hb hts hi_X5 hown hK hP 0 rfl rfl 12 (by decide) kw4 (fun _ h9 => h9) rfl dX5_order_46 ?_
      refine lv_iconst (v := 2) hx hb dX5_order_49 (by decide) ?_
      refine va_iald hx hb hK hP 5 0 rfl rfl (by unfold vp_in; decide) dX5_order_50 ?_
      refine lv_icmp_ge (tgt := 80) hx hb dX5_order_51 (by decide) (fun c_51 => ?_) (fun c_51 => ?_)
      · replace hd := ob_t c_51 hd
        obtain ⟨x_6, ex_6⟩ : ∃ z : Int32, z = z3 + 1 := ⟨_, rfl⟩
        replace hd := ob_lx ex_6 hd
        refine lv_iinc (v := x_6) (lv' := [(3, .int x_6), (0, .ref o_b), (2, .int z2), (4, .int z4), (5, .int z5)]) hx hb dX5_order_80 hl (k := 2) rfl (by rw [ex_6]; rfl) (by decide) rfl (fun ls hl => ?_)
        clear ex_6
        refine lv_goto (tgt := 25) hx hb dX5_order_83 (by decide) ?_
        exact hk_25 _ _ b z2 x_6 _ hP hD hS (lv_sub hl [1, 2, 0] rfl) hd
      · replace hd := ob_f c_51 hd
        refine lv_iload hx hb dX5_order_54 (lv_at hl 3 rfl) ?_
        refine lv_iload hx hb dX5_order_56 (lv_at hl 4 rfl) ?_
        obtain ⟨r_7, hc_58, hd⟩ := ob_s1 hd
        refine ob_Si (isC := []) (isR := [0, 1, 2, 3, 4, 5, 6, 7, 8, 9, 10, 11, 12, 13]) (is2 := [0, 1, 2, 3, 4, 5, 6, 7, 8, 9, 10, 11, 12, 13]) (wc := ([] : va_W)) (wr := (List.filterMap (fun i => (ob_w5 o_b a_b cI cZ b)[i]?) [0, 1, 2, 3, 4, 5, 6, 7, 8, 9, 10, 11, 12, 13])) (w1 := ([] : va_W)) (w2 := (ob_w5 o_b a_b cI cZ b)) (As := [.int z4, .int z5]) (rest := []) ⟨hx, hb, hml, hown, hts⟩ (mt_X5_has l dC dI cI cZ cR cW xs _ z4 z5 r_7 hc_58) (va_cwS 2 hts gX5_order_X5_has rfl rfl rfl (by decide +kernel) ⟨Nat.le_of_ble_eq_true rfl, Nat.le_of_ble_eq_true rfl⟩) hK hE hP hD hS hA ⟨rfl, rfl, rfl, rfl, rfl, rfl, rfl⟩ hl rfl rfl (Nat.le_of_ble_eq_true rfl) ⟨Nat.le_of_ble_eq_true rfl, Nat.le_of_ble_eq_true rfl⟩ dX5_order_58 (fun H locs hP hD hS => ?_)
        refine W.widen (k := 0) (n := 0) (Nat.le_refl _) (Nat.le_refl _) ?_
        refine lv_if_eq (tgt := 74) hx hb dX5_order_61 (by decide) (fun c_61 => ?_) (fun c_61 => ?_)
        · replace hd := ob_t c_61 hd
          obtain ⟨x_8, ex_8⟩ : ∃ z : Int32, z = z5 + 1 := ⟨_, rfl⟩
          replace hd := ob_lx ex_8 hd
          refine lv_iinc (v := x_8) (lv' := [(5, .int x_8), (0, .ref o_b), (2, .int z2), (3, .int z3), (4, .int z4)]) hx hb dX5_order_74 hl (k := 4) rfl (by rw [ex_8]; rfl) (by decide) rfl (fun ls hl => ?_)
          clear ex_8
          refine lv_goto (tgt := 43) hx hb dX5_order_77 (by decide) ?_
          exact ih _ _ b z2 z3 z4 x_8 _ hP hD hS (lv_sub hl [1, 2, 3, 4, 0] rfl) hd
        · replace hd := ob_f c_61 hd
          refine lv_iload_n hx hb dX5_order_64 rfl (lv_at hl 1 rfl) ?_
          refine lv_if_ne (tgt := 71) hx hb dX5_order_65 (by decide) (fun c_65 => ?_) (fun c_65 => ?_)
          · replace hd := ob_f c_65 hd
            obtain ⟨x_9, ex_9⟩ : ∃ z : Int32, z = z2 + (-1) := ⟨_, rfl⟩
            replace hd := ob_lx ex_9 hd
            refine lv_iinc (v := x_9) (lv' := [(2, .int x_9), (0, .ref o_b), (3, .int z3), (4, .int z4), (5, .int z5)]) hx hb dX5_order_71 hl (k := 1) rfl (by rw [ex_9]; rfl) (by decide) rfl (fun ls hl => ?_)
            clear ex_9
            obtain ⟨x_10, ex_10⟩ : ∃ z : Int32, z = z5 + 1 := ⟨_, rfl⟩
            replace hd := ob_lx ex_10 hd
            refine lv_iinc (v := x_10) (lv' := [(5, .int x_10), (2, .int x_9), (0, .ref o_b), (3, .int z3), (4, .int z4)]) hx hb dX5_order_74 hl (k := 4) rfl (by rw [ex_10]; rfl) (by decide) rfl (fun ls hl => ?_)
            clear ex_10
            refine lv_goto (tgt := 43) hx hb dX5_order_77 (by decide) ?_
            exact ih _ _ b x_9 z3 z4 x_10 _ hP hD hS (lv_sub hl [2, 1, 3, 4, 0] rfl) hd
          · replace hd := ob_t c_65 hd
            refine lv_iload hx hb dX5_order_68 (lv_at hl 4 rfl) ?_
            obtain ⟨e1, e2⟩ := ob_pp hd
            subst e1
            subst e2
            exact ob_iret hx hb hr hlocks hP hD hS dX5_order_70
  have L25 : ∀  (fu : Nat), ∀ (H : Heap) (locs : List Loc) (b : ob_B) (z2 : Int32) (z3 : Int32) (ls : Array Slot), va_P (dC, dI) vwCl (ob_w5 o_b a_b cI cZ b) H → va_D A (ob_w5 o_b a_b cI cZ b) → va_S A s.heap H locs → lv_has ls 6 [(0, .ref o_b), (2, .int z2), (3, .int z3)] → fd_X5_order_L25 fu b z2 z3 = some (rr, b') → W p l e ({ frames := 4, cells := 0, slots := 0, locals := 92 } : Room) s m (List.toArray [.ref o_b, .int x1]) below meth c H locs 0 0 (MQ below ((ob_Qi (dC, dI) rr (ob_w5 o_b a_b cI cZ b')) A) (List.toArray [.ref o_b, .int x1]) s 0 0 A) (F0 m 25 ls []) := by
    intro  fu
    induction fu with
    | zero =>
      intro H locs b z2 z3 ls hP hD hS hl hd
      rw [fd_X5_order_L25] at hd
      cases hd
    | succ fu ih =>
      intro H locs b z2 z3 ls hP hD hS hl hd
      rw [fd_X5_order_L25] at hd
      refine lv_iload_n hx hb dX5_order_25 rfl (lv_at hl 2 rfl) ?_
      refine lv_bipush (v := 60) hx hb dX5_order_26 (by decide) ?_
      refine lv_icmp_ge (tgt := 86) hx hb dX5_order_28 (by decide) (fun c_28 => ?_) (fun c_28 => ?_)
      · replace hd := ob_t c_28 hd
        refine lv_ldc hx hb hown kw2 dX5_order_86 ?_
        obtain ⟨e1, e2⟩ := ob_pp hd
        subst e1
        subst e2
        exact ob_iret hx hb hr hlocks hP hD hS dX5_order_88
      · replace hd := ob_f c_28 hd
        refine lv_aload_n hx hb dX5_order_31 rfl (lv_at hl 0 rfl) ?_
        refine va_get (D := (dC, dI)) (ci := 5) (v := .ref (a_b 14)) (C := RX5) (T := TX5) (N := 23) hx hb hts hi_X5 hown hK hP 0 rfl rfl 14 (by decide) kw3 (fun _ h9 => h9) rfl dX5_order_32 ?_
        obtain ⟨r_3, f_4, hc_35, hd⟩ := ob_s2 hd
        refine ob_Si (isC := [7]) (isR := [0, 1, 2, 3, 4, 5, 6, 8, 9, 10, 11, 12, 13]) (is2 := [0, 1, 2, 3, 4, 5, 6, 13, 7, 8, 9, 10, 11, 12]) (wc := (ob_wa (a_b 14) cI 42 (b.2 14))) (wr := (List.filterMap (fun i => (ob_w5 o_b a_b cI cZ b)[i]?) [0, 1, 2, 3, 4, 5, 6, 8, 9, 10, 11, 12, 13])) (w1 := (ob_wa (a_b 14) cI 42 f_4)) (w2 := (ob_w5 o_b a_b cI cZ (ob_A b 14 f_4))) (As := [.ref (a_b 14)]) (rest := []) ⟨hx, hb, hml, hown, hts⟩ (mt_X5_pass l dC dI cI cZ cR cW xs _ ((a_b 14)) ((b.2 14)) r_3 f_4 hc_35) (va_cwS 1 hts gX5_order_X5_pass rfl rfl rfl (by decide +kernel) ⟨Nat.le_of_ble_eq_true rfl, Nat.le_of_ble_eq_true rfl⟩) hK hE hP hD hS hA ⟨rfl, rfl, rfl, rfl, rfl, rfl, rfl⟩ hl rfl rfl (Nat.le_of_ble_eq_true rfl) ⟨Nat.le_of_ble_eq_true rfl, Nat.le_of_ble_eq_true rfl⟩ dX5_order_35 (fun H locs hP hD hS => ?_)
        refine W.widen (k := 0) (n := 0) (Nat.le_refl _) (Nat.le_refl _) ?_
        obtain ⟨b_5, eb_5⟩ : ∃ z : ob_B, z = ob_A b 14 f_4 := ⟨_, rfl⟩
        replace hd := ob_lx eb_5 hd
        replace hP : va_P (dC, dI) vwCl (ob_w5 o_b a_b cI cZ b_5) H := by rw [eb_5]; exact hP
        replace hD : va_D A (ob_w5 o_b a_b cI cZ b_5) := by rw [eb_5]; exact hD
        clear eb_5
        refine lv_istore (lv' := [(4, .int r_3), (0, .ref o_b), (2, .int z2), (3, .int z3)]) hx hb dX5_order_38 hl (by decide) rfl (fun ls hl => ?_)
        refine lv_iconst (v := 0) hx hb dX5_order_40 (by decide) ?_
        refine lv_istore (lv' := [(5, .int 0), (4, .int r_3), (0, .ref o_b), (2, .int z2), (3, .int z3)]) hx hb dX5_order_41 hl (by decide) rfl (fun ls hl => ?_)
        exact L43 (fd_X5_order_L25 fu) ih 2000 _ _ b_5 z2 z3 r_3 0 _ hP hD hS (lv_sub hl [2, 3, 4, 1, 0] rfl) hd
  refine lv_aload_n hx hb dX5_order_0 rfl (lv_at hl 0 rfl) ?_
  obtain ⟨r_1, hc_1, hd⟩ := ob_s1 hd
  refine ob_Vi (isC := [0, 1, 2, 3, 4, 5, 6, 7, 8, 9, 10, 11, 12, 13]) (isR := []) (is2 := [0, 1, 2, 3, 4, 5, 6, 7, 8, 9, 10, 11, 12, 13]) (wc := (ob_w5 o_b a_b cI cZ b)) (wr := ([] : va_W)) (w1 := (ob_w5 o_b a_b cI cZ b)) (w2 := (ob_w5 o_b a_b cI cZ b)) (b := o_b) (As := []) (rest := []) ⟨hx, hb, hml, hown, hts⟩ (mt_X5_isRoute l dC dI cI cZ cR cW xs _ o_b a_b b r_1 hc_1) (cwV 0 hts gX5_order_X5_isRoute rfl rfl rfl (by decide +kernel) ⟨Nat.le_of_ble_eq_true rfl, Nat.le_of_ble_eq_true rfl⟩) hK hE hP hD hS hA ⟨rfl, rfl, rfl, rfl, rfl, rfl, rfl⟩ 5 0 rfl rfl rfl hl rfl rfl (Nat.le_of_ble_eq_true rfl) ⟨Nat.le_of_ble_eq_true rfl, Nat.le_of_ble_eq_true rfl⟩ dX5_order_1 (fun H locs hP hD hS => ?_)
  refine W.widen (k := 0) (n := 0) (Nat.le_refl _) (Nat.le_refl _) ?_
  refine lv_if_ne (tgt := 10) hx hb dX5_order_4 (by decide) (fun c_4 => ?_) (fun c_4 => ?_)
  · replace hd := ob_f c_4 hd
    refine lv_iload_n hx hb dX5_order_10 rfl (lv_at hl 1 rfl) ?_
    refine lv_if_ge (tgt := 17) hx hb dX5_order_11 (by decide) (fun c_11 => ?_) (fun c_11 => ?_)
    · replace hd := ob_t c_11 hd
      refine lv_aload_n hx hb dX5_order_17 rfl (lv_at hl 0 rfl) ?_
      obtain ⟨b_2, hc_18, hd⟩ := ob_s1 hd
      refine ob_Vv (isC := [0, 1, 2, 3, 4, 5, 6, 7, 8, 9, 10, 11, 12, 13]) (isR := []) (is2 := [0, 1, 2, 3, 4, 5, 6, 7, 8, 9, 10, 11, 12, 13]) (wc := (ob_w5 o_b a_b cI cZ b)) (wr := ([] : va_W)) (w1 := (ob_w5 o_b a_b cI cZ b_2)) (w2 := (ob_w5 o_b a_b cI cZ b_2)) (b := o_b) (As := []) (rest := []) ⟨hx, hb, hml, hown, hts⟩ (mt_X5_begin l dC dI cI cZ cR cW xs _ o_b a_b b b_2 hc_18) (cwV 0 hts gX5_order_X5_begin rfl rfl rfl (by decide +kernel) ⟨Nat.le_of_ble_eq_true rfl, Nat.le_of_ble_eq_true rfl⟩) hK hE hP hD hS hA ⟨rfl, rfl, rfl, rfl, rfl, rfl, rfl⟩ 5 0 rfl rfl rfl hl rfl rfl (Nat.le_of_ble_eq_true rfl) ⟨Nat.le_of_ble_eq_true rfl, Nat.le_of_ble_eq_true rfl⟩ dX5_order_18 (fun H locs hP hD hS => ?_)
      refine W.widen (k := 0) (n := 0) (Nat.le_refl _) (Nat.le_refl _) ?_
      refine lv_iload_n hx hb dX5_order_21 rfl (lv_at hl 1 rfl) ?_
      refine lv_istore_n (lv' := [(2, .int x1), (0, .ref o_b), (1, .int x1)]) hx hb dX5_order_22 rfl hl (by decide) rfl (fun ls hl => ?_)
      refine lv_iconst (v := 0) hx hb dX5_order_23 (by decide) ?_
      refine lv_istore_n (lv' := [(3, .int 0), (2, .int x1), (0, .ref o_b), (1, .int x1)]) hx hb dX5_order_24 rfl hl (by decide) rfl (fun ls hl => ?_)
      exact L25  2000 _ _ b_2 x1 0 _ hP hD hS (lv_sub hl [2, 1, 0] rfl) hd
    · replace hd := ob_f c_11 hd
      refine lv_ldc hx hb hown kw0 dX5_order_14 ?_
      obtain ⟨e1, e2⟩ := ob_pp hd
      subst e1
      subst e2
      exact ob_iret hx hb hr hlocks hP hD hS dX5_order_16
  · replace hd := ob_t c_4 hd
    refine lv_ldc hx hb hown kw1 dX5_order_7 ?_
    obtain ⟨e1, e2⟩ := ob_pp hd
    subst e1
    subst e2
    exact ob_iret hx hb hr hlocks hP hD hS dX5_order_9

def fd_X5_drawn_L123 (k_53 : ob_B → Int32 → Int32 → Int64 → Int32 → Option (Int32 × ob_B)) (b : ob_B) (x1 : Int32) (x3 : Int32) (z4 : Int64) (z6 : Int32) : Option (Int32 × ob_B) := ob_b2 (fd_X5_pass ((b.2 14))) (fun r_14 f_15 => ob_lt (ob_A b 14 f_15 : ob_B) (fun b_16 => ob_lt (z6 + 1 : Int32) (fun x_17 => k_53 b_16 x1 x3 z4 x_17)))
def fd_X5_drawn_L137  (b : ob_B) (x3 : Int32) : Option (Int32 × ob_B) := if x3 = 0 then (some ((b.2 14) (Int32.toNatClampNeg 0), b)) else (ob_b1 (fd_X5_openOf ((b.2 14))) (fun r_12 => ob_b1 (fd_X5_bits r_12) (fun r_13 => some (r_13, b))))
def fd_X5_drawn_L53  : Nat → ob_B → Int32 → Int32 → Int64 → Int32 → Option (Int32 × ob_B)
  | 0, _, _, _, _, _ => none
  | fu + 1, b, x1, x3, z4, z6 => if x1 ≤ z6 then (fd_X5_drawn_L137 b x3) else (ob_lt ((z4 * 16807) - (z4 * 16807) / 2147483647 * 2147483647 : Int64) (fun x_7 => if (lg_cmp (x_7 - x_7 / 3 * 3) 0) = 0 then (if (Int32.toInt64 ((b.2 12) (Int32.toNatClampNeg 2))) = 0 then none else (ob_lt (Int64.toInt32 (x_7 - x_7 / (Int32.toInt64 ((b.2 12) (Int32.toNatClampNeg 2))) * (Int32.toInt64 ((b.2 12) (Int32.toNatClampNeg 2)))) : Int32) (fun x_8 => ob_lt (Int64.toInt32 (x_7 - x_7 / 10 * 10) : Int32) (fun x_9 => if (14 + x_8) < 0 ∨ 42 ≤ Int32.toNatClampNeg (14 + x_8) then none else (ob_lt (ob_A b 14 (upd (b.2 14) (Int32.toNatClampNeg (14 + x_8)) x_9) : ob_B) (fun b_10 => if (35 + x_8) < 0 ∨ 42 ≤ Int32.toNatClampNeg (35 + x_8) then none else (ob_lt (ob_A b_10 14 (upd (b_10.2 14) (Int32.toNatClampNeg (35 + x_8)) 0) : ob_B) (fun b_11 => fd_X5_drawn_L123 (fd_X5_drawn_L53 fu) b_11 x1 x3 x_7 z6)))))))) else (fd_X5_drawn_L123 (fd_X5_drawn_L53 fu) b x1 x3 x_7 z6)))
def fd_X5_drawn  (b : ob_B) (x1 : Int32) (x2 : Int32) (x3 : Int32) : Option (Int32 × ob_B) := ob_b1 (fd_X5_isRoute b) (fun r_1 => if r_1 = 0 then (some ((-1000002), b)) else (ob_b1 (fd_X5_in x1 0 60) (fun r_2 => if r_2 = 0 then (some ((-1000001), b)) else (ob_b1 (fd_X5_in x2 1 999999) (fun r_3 => if r_3 = 0 then (some ((-1000001), b)) else (ob_b1 (fd_X5_in x3 0 1) (fun r_4 => if r_4 = 0 then (some ((-1000001), b)) else (ob_b1 (fd_X5_begin b) (fun b_5 => ob_lt (Int32.toInt64 x2 : Int64) (fun x_6 => fd_X5_drawn_L53 2000 b_5 x1 x3 x_6 0))))))))))
set_option maxHeartbeats 4000000 in
set_option maxRecDepth 100000 in
theorem mt_X5_drawn (l : Launch) (dC : Nat → ClassId) (dI : Nat → Nat → Nat) (cI cZ cR cW : ClassId) (xs : Nat → Nat) (sz : Nat) (o_b : Nat) (a_b : Nat → Nat) (b : ob_B) (x1 : Int32) (x2 : Int32) (x3 : Int32)  (rr : Int32) (b' : ob_B) (hd : fd_X5_drawn b x1 x2 x3 = some (rr, b')) : ob_M l yX5_drawn wsX5_drawn ({ frames := 4, cells := 0, slots := 0, locals := 92 } : Room) (dC, dI) (ob_ty cI cZ cR cW) xs [.ref o_b, .int x1, .int x2, .int x3] (ob_w5 o_b a_b cI cZ b) sz (ob_Qi (dC, dI) rr (ob_w5 o_b a_b cI cZ b')) := by
  rw [fd_X5_drawn] at hd
  refine ob_in (cc := cX5_drawn) (maxL := 8) (ret := (some .int)) (own := RX5) (by decide) rfl rfl [(0, .ref o_b), (1, .int x1), (2, .int x2), (3, .int x3)] rfl (Nat.le_of_ble_eq_true rfl) ?_
  intro p e s m below meth c hx hb hr hml hown hts hlocks hnm hK A hA hE hP hD hS ls hl
  have kw0 := hts (.constant RX5 63 (-1000001)) (by decide +kernel)
  have kw1 := hts (.constant RX5 190 (999999)) (by decide +kernel)
  have kw2 := hts (.constant RX5 130 (-1000002)) (by decide +kernel)
  have kw3 := hts (.constantLong RX5 191 (16807)) (by decide +kernel)
  have kw4 := hts (.constantLong RX5 193 (2147483647)) (by decide +kernel)
  have kw5 := hts (.constantLong RX5 195 (3)) (by decide +kernel)
  have kw6 := hts (.fieldLink RX5 22 "OathCoachModel" "now" "[I") (by decide +kernel)
  have kw7 := hts (.fieldLink RX5 28 "OathCoachModel" "tried" "[I") (by decide +kernel)
  have kw8 := hts (.constantLong RX5 188 (10)) (by decide +kernel)
  have hi_X5 : ∀ w ∈ u_ws RX5 TX5 23, w ∈ wsX5_drawn := by decide +kernel
  have L123 : ∀ (k_53 : ob_B → Int32 → Int32 → Int64 → Int32 → Option (Int32 × ob_B)) (hk_53 : ∀ (H : Heap) (locs : List Loc) (b : ob_B) (z4 : Int64) (z6 : Int32) (ls : Array Slot), va_P (dC, dI) vwCl (ob_w5 o_b a_b cI cZ b) H → va_D A (ob_w5 o_b a_b cI cZ b) → va_S A s.heap H locs → lv_has ls 8 [(0, .ref o_b), (1, .int x1), (3, .int x3), (4, .long z4), (6, .int z6)] → k_53 b x1 x3 z4 z6 = some (rr, b') → W p l e ({ frames := 4, cells := 0, slots := 0, locals := 92 } : Room) s m (List.toArray [.ref o_b, .int x1, .int x2, .int x3]) below meth c H locs 0 0 (MQ below ((ob_Qi (dC, dI) rr (ob_w5 o_b a_b cI cZ b')) A) (List.toArray [.ref o_b, .int x1, .int x2, .int x3]) s 0 0 A) (F0 m 53 ls [])), ∀ (H : Heap) (locs : List Loc) (b : ob_B) (z4 : Int64) (z6 : Int32) (ls : Array Slot), va_P (dC, dI) vwCl (ob_w5 o_b a_b cI cZ b) H → va_D A (ob_w5 o_b a_b cI cZ b) → va_S A s.heap H locs → lv_has ls 8 [(0, .ref o_b), (1, .int x1), (3, .int x3), (4, .long z4), (6, .int z6)] → fd_X5_drawn_L123 k_53 b x1 x3 z4 z6 = some (rr, b') → W p l e ({ frames := 4, cells := 0, slots := 0, locals := 92 } : Room) s m (List.toArray [.ref o_b, .int x1, .int x2, .int x3]) below meth c H locs 0 0 (MQ below ((ob_Qi (dC, dI) rr (ob_w5 o_b a_b cI cZ b')) A) (List.toArray [.ref o_b, .int x1, .int x2, .int x3]) s 0 0 A) (F0 m 123 ls []) := by
    intro k_53 hk_53 H locs b z4 z6 ls hP hD hS hl hd
    rw [fd_X5_drawn_L123] at hd
    refine lv_aload_n hx hb dX5_drawn_123 rfl (lv_at hl 0 rfl) ?_
    refine va_get (D := (dC, dI)) (ci := 5) (v := .ref (a_b 14)) (C := RX5) (T := TX5) (N := 23) hx hb hts hi_X5 hown hK hP 0 rfl rfl 14 (by decide) kw7 (fun _ h9 => h9) rfl dX5_drawn_124 ?_
    obtain ⟨r_14, f_15, hc_127, hd⟩ := ob_s2 hd
    refine ob_Si (isC := [7]) (isR := [0, 1, 2, 3, 4, 5, 6, 8, 9, 10, 11, 12, 13]) (is2 := [0, 1, 2, 3, 4, 5, 6, 13, 7, 8, 9, 10, 11, 12]) (wc := (ob_wa (a_b 14) cI 42 (b.2 14))) (wr := (List.filterMap (fun i => (ob_w5 o_b a_b cI cZ b)[i]?) [0, 1, 2, 3, 4, 5, 6, 8, 9, 10, 11, 12, 13])) (w1 := (ob_wa (a_b 14) cI 42 f_15)) (w2 := (ob_w5 o_b a_b cI cZ (ob_A b 14 f_15))) (As := [.ref (a_b 14)]) (rest := []) ⟨hx, hb, hml, hown, hts⟩ (mt_X5_pass l dC dI cI cZ cR cW xs _ ((a_b 14)) ((b.2 14)) r_14 f_15 hc_127) (va_cwS 1 hts gX5_drawn_X5_pass rfl rfl rfl (by decide +kernel) ⟨Nat.le_of_ble_eq_true rfl, Nat.le_of_ble_eq_true rfl⟩) hK hE hP hD hS hA ⟨rfl, rfl, rfl, rfl, rfl, rfl, rfl⟩ hl rfl rfl (Nat.le_of_ble_eq_true rfl) ⟨Nat.le_of_ble_eq_true rfl, Nat.le_of_ble_eq_true rfl⟩ dX5_drawn_127 (fun H locs hP hD hS => ?_)
    refine W.widen (k := 0) (n := 0) (Nat.le_refl _) (Nat.le_refl _) ?_
    obtain ⟨b_16, eb_16⟩ : ∃ z : ob_B, z = ob_A b 14 f_15 := ⟨_, rfl⟩
    replace hd := ob_lx eb_16 hd
    replace hP : va_P (dC, dI) vwCl (ob_w5 o_b a_b cI cZ b_16) H := by rw [eb_16]; exact hP
    replace hD : va_D A (ob_w5 o_b a_b cI cZ b_16) := by rw [eb_16]; exact hD
    clear eb_16
    refine lv_pop hx hb dX5_drawn_130 rfl ?_
    obtain ⟨x_17, ex_17⟩ : ∃ z : Int32, z = z6 + 1 := ⟨_, rfl⟩
    replace hd := ob_lx ex_17 hd
    refine lv_iinc (v := x_17) (lv' := [(6, .int x_17), (0, .ref o_b), (1, .int x1), (3, .int x3), (4, .long z4)]) hx hb dX5_drawn_131 hl (k := 4) rfl (by rw [ex_17]; rfl) (by decide) rfl (fun ls hl => ?_)
    clear ex_17
    refine lv_goto (tgt := 53) hx hb dX5_drawn_134 (by decide) ?_
    exact hk_53 _ _ b_16 z4 x_17 _ hP hD hS (lv_sub hl [1, 2, 3, 4, 0] rfl) hd
  have L137 : ∀ (H : Heap) (locs : List Loc) (b : ob_B)  (ls : Array Slot), va_P (dC, dI) vwCl (ob_w5 o_b a_b cI cZ b) H → va_D A (ob_w5 o_b a_b cI cZ b) → va_S A s.heap H locs → lv_has ls 8 [(0, .ref o_b), (3, .int x3)] → fd_X5_drawn_L137 b x3 = some (rr, b') → W p l e ({ frames := 4, cells := 0, slots := 0, locals := 92 } : Room) s m (List.toArray [.ref o_b, .int x1, .int x2, .int x3]) below meth c H locs 0 0 (MQ below ((ob_Qi (dC, dI) rr (ob_w5 o_b a_b cI cZ b')) A) (List.toArray [.ref o_b, .int x1, .int x2, .int x3]) s 0 0 A) (F0 m 137 ls []) := by
    intro  H locs b ls hP hD hS hl hd
    rw [fd_X5_drawn_L137] at hd
    refine lv_iload_n hx hb dX5_drawn_137 rfl (lv_at hl 1 rfl) ?_
    refine lv_if_ne (tgt := 150) hx hb dX5_drawn_138 (by decide) (fun c_138 => ?_) (fun c_138 => ?_)
    · replace hd := ob_f c_138 hd
      refine lv_aload_n hx hb dX5_drawn_150 rfl (lv_at hl 0 rfl) ?_
      refine va_get (D := (dC, dI)) (ci := 5) (v := .ref (a_b 14)) (C := RX5) (T := TX5) (N := 23) hx hb hts hi_X5 hown hK hP 0 rfl rfl 14 (by decide) kw7 (fun _ h9 => h9) rfl dX5_drawn_151 ?_
      obtain ⟨r_12, hc_154, hd⟩ := ob_s1 hd
      refine ob_Si (isC := [7]) (isR := [0, 1, 2, 3, 4, 5, 6, 8, 9, 10, 11, 12, 13]) (is2 := [0, 1, 2, 3, 4, 5, 6, 13, 7, 8, 9, 10, 11, 12]) (wc := (ob_wa (a_b 14) cI 42 (b.2 14))) (wr := (List.filterMap (fun i => (ob_w5 o_b a_b cI cZ b)[i]?) [0, 1, 2, 3, 4, 5, 6, 8, 9, 10, 11, 12, 13])) (w1 := (ob_wa (a_b 14) cI 42 (b.2 14))) (w2 := (ob_w5 o_b a_b cI cZ b)) (As := [.ref (a_b 14)]) (rest := []) ⟨hx, hb, hml, hown, hts⟩ (mt_X5_openOf l dC dI cI cZ cR cW xs _ ((a_b 14)) ((b.2 14)) r_12 hc_154) (va_cwS 1 hts gX5_drawn_X5_openOf rfl rfl rfl (by decide +kernel) ⟨Nat.le_of_ble_eq_true rfl, Nat.le_of_ble_eq_true rfl⟩) hK hE hP hD hS hA ⟨rfl, rfl, rfl, rfl, rfl, rfl, rfl⟩ hl rfl rfl (Nat.le_of_ble_eq_true rfl) ⟨Nat.le_of_ble_eq_true rfl, Nat.le_of_ble_eq_true rfl⟩ dX5_drawn_154 (fun H locs hP hD hS => ?_)
      refine W.widen (k := 0) (n := 0) (Nat.le_refl _) (Nat.le_refl _) ?_
      obtain ⟨r_13, hc_157, hd⟩ := ob_s1 hd
      refine ob_Si (isC := []) (isR := [0, 1, 2, 3, 4, 5, 6, 7, 8, 9, 10, 11, 12, 13]) (is2 := [0, 1, 2, 3, 4, 5, 6, 7, 8, 9, 10, 11, 12, 13]) (wc := ([] : va_W)) (wr := (List.filterMap (fun i => (ob_w5 o_b a_b cI cZ b)[i]?) [0, 1, 2, 3, 4, 5, 6, 7, 8, 9, 10, 11, 12, 13])) (w1 := ([] : va_W)) (w2 := (ob_w5 o_b a_b cI cZ b)) (As := [.int r_12]) (rest := []) ⟨hx, hb, hml, hown, hts⟩ (mt_X5_bits l dC dI cI cZ cR cW xs _ r_12 r_13 hc_157) (va_cwS 1 hts gX5_drawn_X5_bits rfl rfl rfl (by decide +kernel) ⟨Nat.le_of_ble_eq_true rfl, Nat.le_of_ble_eq_true rfl⟩) hK hE hP hD hS hA ⟨rfl, rfl, rfl, rfl, rfl, rfl, rfl⟩ hl rfl rfl (Nat.le_of_ble_eq_true rfl) ⟨Nat.le_of_ble_eq_true rfl, Nat.le_of_ble_eq_true rfl⟩ dX5_drawn_157 (fun H locs hP hD hS => ?_)
      refine W.widen (k := 0) (n := 0) (Nat.le_refl _) (Nat.le_refl _) ?_
      obtain ⟨e1, e2⟩ := ob_pp hd
      subst e1
      subst e2
      exact ob_iret hx hb hr hlocks hP hD hS dX5_drawn_160
    · replace hd := ob_t c_138 hd
      refine lv_aload_n hx hb dX5_drawn_141 rfl (lv_at hl 0 rfl) ?_
      refine va_get (D := (dC, dI)) (ci := 5) (v := .ref (a_b 14)) (C := RX5) (T := TX5) (N := 23) hx hb hts hi_X5 hown hK hP 0 rfl rfl 14 (by decide) kw7 (fun _ h9 => h9) rfl dX5_drawn_142 ?_
      refine lv_iconst (v := 0) hx hb dX5_drawn_145 (by decide) ?_
      refine va_iald hx hb hK hP 7 0 rfl rfl (by unfold vp_in; decide) dX5_drawn_146 ?_
      refine lv_goto (tgt := 160) hx hb dX5_drawn_147 (by decide) ?_
      obtain ⟨e1, e2⟩ := ob_pp hd
      subst e1
      subst e2
      exact ob_iret hx hb hr hlocks hP hD hS dX5_drawn_160
  have L53 : ∀  (fu : Nat), ∀ (H : Heap) (locs : List Loc) (b : ob_B) (z4 : Int64) (z6 : Int32) (ls : Array Slot), va_P (dC, dI) vwCl (ob_w5 o_b a_b cI cZ b) H → va_D A (ob_w5 o_b a_b cI cZ b) → va_S A s.heap H locs → lv_has ls 8 [(0, .ref o_b), (1, .int x1), (3, .int x3), (4, .long z4), (6, .int z6)] → fd_X5_drawn_L53 fu b x1 x3 z4 z6 = some (rr, b') → W p l e ({ frames := 4, cells := 0, slots := 0, locals := 92 } : Room) s m (List.toArray [.ref o_b, .int x1, .int x2, .int x3]) below meth c H locs 0 0 (MQ below ((ob_Qi (dC, dI) rr (ob_w5 o_b a_b cI cZ b')) A) (List.toArray [.ref o_b, .int x1, .int x2, .int x3]) s 0 0 A) (F0 m 53 ls []) := by
    intro  fu
    induction fu with
    | zero =>
      intro H locs b z4 z6 ls hP hD hS hl hd
      rw [fd_X5_drawn_L53] at hd
      cases hd
    | succ fu ih =>
      intro H locs b z4 z6 ls hP hD hS hl hd
      rw [fd_X5_drawn_L53] at hd
      refine lv_iload hx hb dX5_drawn_53 (lv_at hl 4 rfl) ?_
      refine lv_iload_n hx hb dX5_drawn_55 rfl (lv_at hl 1 rfl) ?_
      refine lv_icmp_ge (tgt := 137) hx hb dX5_drawn_56 (by decide) (fun c_56 => ?_) (fun c_56 => ?_)
      · replace hd := ob_t c_56 hd
        exact L137   _ _ b _ hP hD hS (lv_sub hl [0, 2] rfl) hd
      · replace hd := ob_f c_56 hd
        refine lv_lload hx hb dX5_drawn_59 (lv_at hl 3 rfl) ?_
        refine lv_ldc2 hx hb hown kw3 dX5_drawn_61 ?_
        refine lv_lmul hx hb dX5_drawn_64 ?_
        refine lv_ldc2 hx hb hown kw4 dX5_drawn_65 ?_
        refine lv_lrem hx hb dX5_drawn_68 (by decide) ?_
        refine lv_topl (fun x_7 ex_7 => ?_)
        replace hd := ob_lx ex_7 hd
        clear ex_7
        refine lv_lstore (lv' := [(4, .long x_7), (0, .ref o_b), (1, .int x1), (3, .int x3), (6, .int z6)]) hx hb dX5_drawn_69 hl (by decide) rfl (fun ls hl => ?_)
        refine lv_lload hx hb dX5_drawn_71 (lv_at hl 0 rfl) ?_
        refine lv_ldc2 hx hb hown kw5 dX5_drawn_73 ?_
        refine lv_lrem hx hb dX5_drawn_76 (by decide) ?_
        refine lv_lconst (v := 0) hx hb dX5_drawn_77 (by decide) ?_
        refine W.lcmp hx hb dX5_drawn_78 ?_
        refine lv_if_ne (tgt := 123) hx hb dX5_drawn_79 (by decide) (fun c_79 => ?_) (fun c_79 => ?_)
        · replace hd := ob_f c_79 hd
          exact L123 (fd_X5_drawn_L53 fu) ih  _ _ b x_7 z6 _ hP hD hS (lv_sub hl [1, 2, 3, 0, 4] rfl) hd
        · replace hd := ob_t c_79 hd
          refine lv_lload hx hb dX5_drawn_82 (lv_at hl 0 rfl) ?_
          refine lv_aload_n hx hb dX5_drawn_84 rfl (lv_at hl 1 rfl) ?_
          refine va_get (D := (dC, dI)) (ci := 5) (v := .ref (a_b 12)) (C := RX5) (T := TX5) (N := 23) hx hb hts hi_X5 hown hK hP 0 rfl rfl 12 (by decide) kw6 (fun _ h9 => h9) rfl dX5_drawn_85 ?_
          refine lv_iconst (v := 2) hx hb dX5_drawn_88 (by decide) ?_
          refine va_iald hx hb hK hP 5 0 rfl rfl (by unfold vp_in; decide) dX5_drawn_89 ?_
          refine lv_i2l hx hb dX5_drawn_90 rfl ?_
          obtain ⟨h0_91, hd⟩ := ob_nn hd
          refine lv_lrem hx hb dX5_drawn_91 h0_91 ?_
          refine lv_l2i hx hb dX5_drawn_92 rfl ?_
          refine lv_topi (fun x_8 ex_8 => ?_)
          replace hd := ob_lx ex_8 hd
          clear ex_8
          refine lv_istore (lv' := [(7, .int x_8), (4, .long x_7), (0, .ref o_b), (1, .int x1), (3, .int x3), (6, .int z6)]) hx hb dX5_drawn_93 hl (by decide) rfl (fun ls hl => ?_)
          refine lv_aload_n hx hb dX5_drawn_95 rfl (lv_at hl 2 rfl) ?_
          refine va_get (D := (dC, dI)) (ci := 5) (v := .ref (a_b 14)) (C := RX5) (T := TX5) (N := 23) hx hb hts hi_X5 hown hK hP 0 rfl rfl 14 (by decide) kw7 (fun _ h9 => h9) rfl dX5_drawn_96 ?_
          refine lv_bipush (v := 14) hx hb dX5_drawn_99 (by decide) ?_
          refine lv_iload hx hb dX5_drawn_101 (lv_at hl 0 rfl) ?_
          refine lv_iadd hx hb dX5_drawn_103 ?_
          refine lv_lload hx hb dX5_drawn_104 (lv_at hl 1 rfl) ?_
          refine lv_ldc2 hx hb hown kw8 dX5_drawn_106 ?_
          refine lv_lrem hx hb dX5_drawn_109 (by decide) ?_
          refine lv_l2i hx hb dX5_drawn_110 rfl ?_
          refine lv_topi (fun x_9 ex_9 => ?_)
          replace hd := ob_lx ex_9 hd
          clear ex_9
          obtain ⟨h1_111, hd⟩ := ob_nn hd
          refine va_iast hx hb hK hP hD hS 7 0 rfl rfl h1_111 dX5_drawn_111 (fun H locs hP hD hS => ?_)
          obtain ⟨b_10, eb_10⟩ : ∃ z : ob_B, z = ob_A b 14 (upd (b.2 14) (Int32.toNatClampNeg (14 + x_8)) x_9) := ⟨_, rfl⟩
          replace hd := ob_lx eb_10 hd
          replace hP : va_P (dC, dI) vwCl (ob_w5 o_b a_b cI cZ b_10) H := by rw [eb_10]; exact hP
          replace hD : va_D A (ob_w5 o_b a_b cI cZ b_10) := by rw [eb_10]; exact hD
          clear eb_10
          refine lv_aload_n hx hb dX5_drawn_112 rfl (lv_at hl 2 rfl) ?_
          refine va_get (D := (dC, dI)) (ci := 5) (v := .ref (a_b 14)) (C := RX5) (T := TX5) (N := 23) hx hb hts hi_X5 hown hK hP 0 rfl rfl 14 (by decide) kw7 (fun _ h9 => h9) rfl dX5_drawn_113 ?_
          refine lv_bipush (v := 35) hx hb dX5_drawn_116 (by decide) ?_
          refine lv_iload hx hb dX5_drawn_118 (lv_at hl 0 rfl) ?_
          refine lv_iadd hx hb dX5_drawn_120 ?_
          refine lv_iconst (v := 0) hx hb dX5_drawn_121 (by decide) ?_
          obtain ⟨h1_122, hd⟩ := ob_nn hd
          refine va_iast hx hb hK hP hD hS 7 0 rfl rfl h1_122 dX5_drawn_122 (fun H locs hP hD hS => ?_)
          obtain ⟨b_11, eb_11⟩ : ∃ z : ob_B, z = ob_A b_10 14 (upd (b_10.2 14) (Int32.toNatClampNeg (35 + x_8)) 0) := ⟨_, rfl⟩
          replace hd := ob_lx eb_11 hd
          replace hP : va_P (dC, dI) vwCl (ob_w5 o_b a_b cI cZ b_11) H := by rw [eb_11]; exact hP
          replace hD : va_D A (ob_w5 o_b a_b cI cZ b_11) := by rw [eb_11]; exact hD
          clear eb_11
          exact L123 (fd_X5_drawn_L53 fu) ih  _ _ b_11 x_7 z6 _ hP hD hS (lv_sub hl [2, 3, 4, 1, 5] rfl) hd
  refine lv_aload_n hx hb dX5_drawn_0 rfl (lv_at hl 0 rfl) ?_
  obtain ⟨r_1, hc_1, hd⟩ := ob_s1 hd
  refine ob_Vi (isC := [0, 1, 2, 3, 4, 5, 6, 7, 8, 9, 10, 11, 12, 13]) (isR := []) (is2 := [0, 1, 2, 3, 4, 5, 6, 7, 8, 9, 10, 11, 12, 13]) (wc := (ob_w5 o_b a_b cI cZ b)) (wr := ([] : va_W)) (w1 := (ob_w5 o_b a_b cI cZ b)) (w2 := (ob_w5 o_b a_b cI cZ b)) (b := o_b) (As := []) (rest := []) ⟨hx, hb, hml, hown, hts⟩ (mt_X5_isRoute l dC dI cI cZ cR cW xs _ o_b a_b b r_1 hc_1) (cwV 0 hts gX5_drawn_X5_isRoute rfl rfl rfl (by decide +kernel) ⟨Nat.le_of_ble_eq_true rfl, Nat.le_of_ble_eq_true rfl⟩) hK hE hP hD hS hA ⟨rfl, rfl, rfl, rfl, rfl, rfl, rfl⟩ 5 0 rfl rfl rfl hl rfl rfl (Nat.le_of_ble_eq_true rfl) ⟨Nat.le_of_ble_eq_true rfl, Nat.le_of_ble_eq_true rfl⟩ dX5_drawn_1 (fun H locs hP hD hS => ?_)
  refine W.widen (k := 0) (n := 0) (Nat.le_refl _) (Nat.le_refl _) ?_
  refine lv_if_ne (tgt := 10) hx hb dX5_drawn_4 (by decide) (fun c_4 => ?_) (fun c_4 => ?_)
  · replace hd := ob_f c_4 hd
    refine lv_iload_n hx hb dX5_drawn_10 rfl (lv_at hl 1 rfl) ?_
    refine lv_iconst (v := 0) hx hb dX5_drawn_11 (by decide) ?_
    refine lv_bipush (v := 60) hx hb dX5_drawn_12 (by decide) ?_
    obtain ⟨r_2, hc_14, hd⟩ := ob_s1 hd
    refine ob_Si (isC := []) (isR := [0, 1, 2, 3, 4, 5, 6, 7, 8, 9, 10, 11, 12, 13]) (is2 := [0, 1, 2, 3, 4, 5, 6, 7, 8, 9, 10, 11, 12, 13]) (wc := ([] : va_W)) (wr := (List.filterMap (fun i => (ob_w5 o_b a_b cI cZ b)[i]?) [0, 1, 2, 3, 4, 5, 6, 7, 8, 9, 10, 11, 12, 13])) (w1 := ([] : va_W)) (w2 := (ob_w5 o_b a_b cI cZ b)) (As := [.int x1, .int 0, .int 60]) (rest := []) ⟨hx, hb, hml, hown, hts⟩ (mt_X5_in l dC dI cI cZ cR cW xs _ x1 0 60 r_2 hc_14) (va_cwS 3 hts gX5_drawn_X5_in rfl rfl rfl (by decide +kernel) ⟨Nat.le_of_ble_eq_true rfl, Nat.le_of_ble_eq_true rfl⟩) hK hE hP hD hS hA ⟨rfl, rfl, rfl, rfl, rfl, rfl, rfl⟩ hl rfl rfl (Nat.le_of_ble_eq_true rfl) ⟨Nat.le_of_ble_eq_true rfl, Nat.le_of_ble_eq_true rfl⟩ dX5_drawn_14 (fun H locs hP hD hS => ?_)
    refine W.widen (k := 0) (n := 0) (Nat.le_refl _) (Nat.le_refl _) ?_
    refine lv_if_eq (tgt := 39) hx hb dX5_drawn_17 (by decide) (fun c_17 => ?_) (fun c_17 => ?_)
    · replace hd := ob_t c_17 hd
      refine lv_ldc hx hb hown kw0 dX5_drawn_39 ?_
      obtain ⟨e1, e2⟩ := ob_pp hd
      subst e1
      subst e2
      exact ob_iret hx hb hr hlocks hP hD hS dX5_drawn_41
    · replace hd := ob_f c_17 hd
      refine lv_iload_n hx hb dX5_drawn_20 rfl (lv_at hl 2 rfl) ?_
      refine lv_iconst (v := 1) hx hb dX5_drawn_21 (by decide) ?_
      refine lv_ldc hx hb hown kw1 dX5_drawn_22 ?_
      obtain ⟨r_3, hc_24, hd⟩ := ob_s1 hd
      refine ob_Si (isC := []) (isR := [0, 1, 2, 3, 4, 5, 6, 7, 8, 9, 10, 11, 12, 13]) (is2 := [0, 1, 2, 3, 4, 5, 6, 7, 8, 9, 10, 11, 12, 13]) (wc := ([] : va_W)) (wr := (List.filterMap (fun i => (ob_w5 o_b a_b cI cZ b)[i]?) [0, 1, 2, 3, 4, 5, 6, 7, 8, 9, 10, 11, 12, 13])) (w1 := ([] : va_W)) (w2 := (ob_w5 o_b a_b cI cZ b)) (As := [.int x2, .int 1, .int 999999]) (rest := []) ⟨hx, hb, hml, hown, hts⟩ (mt_X5_in l dC dI cI cZ cR cW xs _ x2 1 999999 r_3 hc_24) (va_cwS 3 hts gX5_drawn_X5_in rfl rfl rfl (by decide +kernel) ⟨Nat.le_of_ble_eq_true rfl, Nat.le_of_ble_eq_true rfl⟩) hK hE hP hD hS hA ⟨rfl, rfl, rfl, rfl, rfl, rfl, rfl⟩ hl rfl rfl (Nat.le_of_ble_eq_true rfl) ⟨Nat.le_of_ble_eq_true rfl, Nat.le_of_ble_eq_true rfl⟩ dX5_drawn_24 (fun H locs hP hD hS => ?_)
      refine W.widen (k := 0) (n := 0) (Nat.le_refl _) (Nat.le_refl _) ?_
      refine lv_if_eq (tgt := 39) hx hb dX5_drawn_27 (by decide) (fun c_27 => ?_) (fun c_27 => ?_)
      · replace hd := ob_t c_27 hd
        refine lv_ldc hx hb hown kw0 dX5_drawn_39 ?_
        obtain ⟨e1, e2⟩ := ob_pp hd
        subst e1
        subst e2
        exact ob_iret hx hb hr hlocks hP hD hS dX5_drawn_41
      · replace hd := ob_f c_27 hd
        refine lv_iload_n hx hb dX5_drawn_30 rfl (lv_at hl 3 rfl) ?_
        refine lv_iconst (v := 0) hx hb dX5_drawn_31 (by decide) ?_
        refine lv_iconst (v := 1) hx hb dX5_drawn_32 (by decide) ?_
        obtain ⟨r_4, hc_33, hd⟩ := ob_s1 hd
        refine ob_Si (isC := []) (isR := [0, 1, 2, 3, 4, 5, 6, 7, 8, 9, 10, 11, 12, 13]) (is2 := [0, 1, 2, 3, 4, 5, 6, 7, 8, 9, 10, 11, 12, 13]) (wc := ([] : va_W)) (wr := (List.filterMap (fun i => (ob_w5 o_b a_b cI cZ b)[i]?) [0, 1, 2, 3, 4, 5, 6, 7, 8, 9, 10, 11, 12, 13])) (w1 := ([] : va_W)) (w2 := (ob_w5 o_b a_b cI cZ b)) (As := [.int x3, .int 0, .int 1]) (rest := []) ⟨hx, hb, hml, hown, hts⟩ (mt_X5_in l dC dI cI cZ cR cW xs _ x3 0 1 r_4 hc_33) (va_cwS 3 hts gX5_drawn_X5_in rfl rfl rfl (by decide +kernel) ⟨Nat.le_of_ble_eq_true rfl, Nat.le_of_ble_eq_true rfl⟩) hK hE hP hD hS hA ⟨rfl, rfl, rfl, rfl, rfl, rfl, rfl⟩ hl rfl rfl (Nat.le_of_ble_eq_true rfl) ⟨Nat.le_of_ble_eq_true rfl, Nat.le_of_ble_eq_true rfl⟩ dX5_drawn_33 (fun H locs hP hD hS => ?_)
        refine W.widen (k := 0) (n := 0) (Nat.le_refl _) (Nat.le_refl _) ?_
        refine lv_if_ne (tgt := 42) hx hb dX5_drawn_36 (by decide) (fun c_36 => ?_) (fun c_36 => ?_)
        · replace hd := ob_f c_36 hd
          refine lv_aload_n hx hb dX5_drawn_42 rfl (lv_at hl 0 rfl) ?_
          obtain ⟨b_5, hc_43, hd⟩ := ob_s1 hd
          refine ob_Vv (isC := [0, 1, 2, 3, 4, 5, 6, 7, 8, 9, 10, 11, 12, 13]) (isR := []) (is2 := [0, 1, 2, 3, 4, 5, 6, 7, 8, 9, 10, 11, 12, 13]) (wc := (ob_w5 o_b a_b cI cZ b)) (wr := ([] : va_W)) (w1 := (ob_w5 o_b a_b cI cZ b_5)) (w2 := (ob_w5 o_b a_b cI cZ b_5)) (b := o_b) (As := []) (rest := []) ⟨hx, hb, hml, hown, hts⟩ (mt_X5_begin l dC dI cI cZ cR cW xs _ o_b a_b b b_5 hc_43) (cwV 0 hts gX5_drawn_X5_begin rfl rfl rfl (by decide +kernel) ⟨Nat.le_of_ble_eq_true rfl, Nat.le_of_ble_eq_true rfl⟩) hK hE hP hD hS hA ⟨rfl, rfl, rfl, rfl, rfl, rfl, rfl⟩ 5 0 rfl rfl rfl hl rfl rfl (Nat.le_of_ble_eq_true rfl) ⟨Nat.le_of_ble_eq_true rfl, Nat.le_of_ble_eq_true rfl⟩ dX5_drawn_43 (fun H locs hP hD hS => ?_)
          refine W.widen (k := 0) (n := 0) (Nat.le_refl _) (Nat.le_refl _) ?_
          refine lv_iload_n hx hb dX5_drawn_46 rfl (lv_at hl 2 rfl) ?_
          refine lv_i2l hx hb dX5_drawn_47 rfl ?_
          refine lv_topl (fun x_6 ex_6 => ?_)
          replace hd := ob_lx ex_6 hd
          clear ex_6
          refine lv_lstore (lv' := [(4, .long x_6), (0, .ref o_b), (1, .int x1), (2, .int x2), (3, .int x3)]) hx hb dX5_drawn_48 hl (by decide) rfl (fun ls hl => ?_)
          refine lv_iconst (v := 0) hx hb dX5_drawn_50 (by decide) ?_
          refine lv_istore (lv' := [(6, .int 0), (4, .long x_6), (0, .ref o_b), (1, .int x1), (2, .int x2), (3, .int x3)]) hx hb dX5_drawn_51 hl (by decide) rfl (fun ls hl => ?_)
          exact L53  2000 _ _ b_5 x_6 0 _ hP hD hS (lv_sub hl [2, 3, 5, 1, 0] rfl) hd
        · replace hd := ob_t c_36 hd
          refine lv_ldc hx hb hown kw0 dX5_drawn_39 ?_
          obtain ⟨e1, e2⟩ := ob_pp hd
          subst e1
          subst e2
          exact ob_iret hx hb hr hlocks hP hD hS dX5_drawn_41
  · replace hd := ob_t c_4 hd
    refine lv_ldc hx hb hown kw2 dX5_drawn_7 ?_
    obtain ⟨e1, e2⟩ := ob_pp hd
    subst e1
    subst e2
    exact ob_iret hx hb hr hlocks hP hD hS dX5_drawn_9

def fd_X5_image  (b : ob_B) (x1 : Int32) : Option (Int32 × ob_B) := ob_b1 (fd_X5_in x1 0 1) (fun r_1 => if r_1 = 0 then (some ((-1000001), b)) else (ob_b1 (fd_X5_isRoute b) (fun r_2 => if r_2 = 0 then (some ((-1000002), b)) else (ob_b1 (fd_X5_lay 42 84 ((b.2 12)) ((b.2 15)) 0 (42 * x1)) (fun f_3 => ob_lt (ob_A b 15 f_3 : ob_B) (fun b_4 => if x1 < 0 ∨ 2 ≤ Int32.toNatClampNeg x1 then none else (ob_lt (ob_A b_4 16 (upd (b_4.2 16) (Int32.toNatClampNeg x1) (vp_nar .boolean 1)) : ob_B) (fun b_5 => some (1, b_5)))))))))
set_option maxHeartbeats 4000000 in
set_option maxRecDepth 100000 in
theorem mt_X5_image (l : Launch) (dC : Nat → ClassId) (dI : Nat → Nat → Nat) (cI cZ cR cW : ClassId) (xs : Nat → Nat) (sz : Nat) (o_b : Nat) (a_b : Nat → Nat) (b : ob_B) (x1 : Int32)  (rr : Int32) (b' : ob_B) (hd : fd_X5_image b x1 = some (rr, b')) : ob_M l yX5_image wsX5_image ({ frames := 1, cells := 0, slots := 0, locals := 24 } : Room) (dC, dI) (ob_ty cI cZ cR cW) xs [.ref o_b, .int x1] (ob_w5 o_b a_b cI cZ b) sz (ob_Qi (dC, dI) rr (ob_w5 o_b a_b cI cZ b')) := by
  rw [fd_X5_image] at hd
  refine ob_in (cc := cX5_image) (maxL := 2) (ret := (some .int)) (own := RX5) (by decide) rfl rfl [(0, .ref o_b), (1, .int x1)] rfl (Nat.le_of_ble_eq_true rfl) ?_
  intro p e s m below meth c hx hb hr hml hown hts hlocks hnm hK A hA hE hP hD hS ls hl
  have kw0 := hts (.fieldLink RX5 22 "OathCoachModel" "now" "[I") (by decide +kernel)
  have kw1 := hts (.fieldLink RX5 31 "OathCoachModel" "image" "[I") (by decide +kernel)
  have kw2 := hts (.fieldLink RX5 34 "OathCoachModel" "isKept" "[Z") (by decide +kernel)
  have kw3 := hts (.constant RX5 130 (-1000002)) (by decide +kernel)
  have kw4 := hts (.constant RX5 63 (-1000001)) (by decide +kernel)
  have hi_X5 : ∀ w ∈ u_ws RX5 TX5 23, w ∈ wsX5_image := by decide +kernel
  refine lv_iload_n hx hb dX5_image_0 rfl (lv_at hl 1 rfl) ?_
  refine lv_iconst (v := 0) hx hb dX5_image_1 (by decide) ?_
  refine lv_iconst (v := 1) hx hb dX5_image_2 (by decide) ?_
  obtain ⟨r_1, hc_3, hd⟩ := ob_s1 hd
  refine ob_Si (isC := []) (isR := [0, 1, 2, 3, 4, 5, 6, 7, 8, 9, 10, 11, 12, 13]) (is2 := [0, 1, 2, 3, 4, 5, 6, 7, 8, 9, 10, 11, 12, 13]) (wc := ([] : va_W)) (wr := (List.filterMap (fun i => (ob_w5 o_b a_b cI cZ b)[i]?) [0, 1, 2, 3, 4, 5, 6, 7, 8, 9, 10, 11, 12, 13])) (w1 := ([] : va_W)) (w2 := (ob_w5 o_b a_b cI cZ b)) (As := [.int x1, .int 0, .int 1]) (rest := []) ⟨hx, hb, hml, hown, hts⟩ (mt_X5_in l dC dI cI cZ cR cW xs _ x1 0 1 r_1 hc_3) (va_cwS 3 hts gX5_image_X5_in rfl rfl rfl (by decide +kernel) ⟨Nat.le_of_ble_eq_true rfl, Nat.le_of_ble_eq_true rfl⟩) hK hE hP hD hS hA ⟨rfl, rfl, rfl, rfl, rfl, rfl, rfl⟩ hl rfl rfl (Nat.le_of_ble_eq_true rfl) ⟨Nat.le_of_ble_eq_true rfl, Nat.le_of_ble_eq_true rfl⟩ dX5_image_3 (fun H locs hP hD hS => ?_)
  refine W.widen (k := 0) (n := 0) (Nat.le_refl _) (Nat.le_refl _) ?_
  refine lv_if_ne (tgt := 12) hx hb dX5_image_6 (by decide) (fun c_6 => ?_) (fun c_6 => ?_)
  · replace hd := ob_f c_6 hd
    refine lv_aload_n hx hb dX5_image_12 rfl (lv_at hl 0 rfl) ?_
    obtain ⟨r_2, hc_13, hd⟩ := ob_s1 hd
    refine ob_Vi (isC := [0, 1, 2, 3, 4, 5, 6, 7, 8, 9, 10, 11, 12, 13]) (isR := []) (is2 := [0, 1, 2, 3, 4, 5, 6, 7, 8, 9, 10, 11, 12, 13]) (wc := (ob_w5 o_b a_b cI cZ b)) (wr := ([] : va_W)) (w1 := (ob_w5 o_b a_b cI cZ b)) (w2 := (ob_w5 o_b a_b cI cZ b)) (b := o_b) (As := []) (rest := []) ⟨hx, hb, hml, hown, hts⟩ (mt_X5_isRoute l dC dI cI cZ cR cW xs _ o_b a_b b r_2 hc_13) (cwV 0 hts gX5_image_X5_isRoute rfl rfl rfl (by decide +kernel) ⟨Nat.le_of_ble_eq_true rfl, Nat.le_of_ble_eq_true rfl⟩) hK hE hP hD hS hA ⟨rfl, rfl, rfl, rfl, rfl, rfl, rfl⟩ 5 0 rfl rfl rfl hl rfl rfl (Nat.le_of_ble_eq_true rfl) ⟨Nat.le_of_ble_eq_true rfl, Nat.le_of_ble_eq_true rfl⟩ dX5_image_13 (fun H locs hP hD hS => ?_)
    refine W.widen (k := 0) (n := 0) (Nat.le_refl _) (Nat.le_refl _) ?_
    refine lv_if_ne (tgt := 22) hx hb dX5_image_16 (by decide) (fun c_16 => ?_) (fun c_16 => ?_)
    · replace hd := ob_f c_16 hd
      refine lv_aload_n hx hb dX5_image_22 rfl (lv_at hl 0 rfl) ?_
      refine va_get (D := (dC, dI)) (ci := 5) (v := .ref (a_b 12)) (C := RX5) (T := TX5) (N := 23) hx hb hts hi_X5 hown hK hP 0 rfl rfl 12 (by decide) kw0 (fun _ h9 => h9) rfl dX5_image_23 ?_
      refine lv_iconst (v := 0) hx hb dX5_image_26 (by decide) ?_
      refine lv_aload_n hx hb dX5_image_27 rfl (lv_at hl 0 rfl) ?_
      refine va_get (D := (dC, dI)) (ci := 5) (v := .ref (a_b 15)) (C := RX5) (T := TX5) (N := 23) hx hb hts hi_X5 hown hK hP 0 rfl rfl 15 (by decide) kw1 (fun _ h9 => h9) rfl dX5_image_28 ?_
      refine lv_bipush (v := 42) hx hb dX5_image_31 (by decide) ?_
      refine lv_iload_n hx hb dX5_image_33 rfl (lv_at hl 1 rfl) ?_
      refine lv_imul hx hb dX5_image_34 ?_
      obtain ⟨f_3, hc_35, hd⟩ := ob_s1 hd
      refine ob_Sv (isC := [5, 8]) (isR := [0, 1, 2, 3, 4, 6, 7, 9, 10, 11, 12, 13]) (is2 := [0, 1, 2, 3, 4, 12, 5, 6, 13, 7, 8, 9, 10, 11]) (wc := (ob_wa (a_b 12) cI 42 (b.2 12) ++ ob_wa (a_b 15) cI 84 (b.2 15))) (wr := (List.filterMap (fun i => (ob_w5 o_b a_b cI cZ b)[i]?) [0, 1, 2, 3, 4, 6, 7, 9, 10, 11, 12, 13])) (w1 := (ob_wa (a_b 12) cI 42 (b.2 12) ++ ob_wa (a_b 15) cI 84 f_3)) (w2 := (ob_w5 o_b a_b cI cZ (ob_A b 15 f_3))) (As := [.ref (a_b 12), .int 0, .ref (a_b 15), .int (42 * x1)]) (rest := []) ⟨hx, hb, hml, hown, hts⟩ (mt_X5_lay l dC dI cI cZ cR cW xs _ ((a_b 12)) 42 ((a_b 15)) 84 ((b.2 12)) ((b.2 15)) 0 (42 * x1) f_3 hc_35) (va_cwS 4 hts gX5_image_X5_lay rfl rfl rfl (by decide +kernel) ⟨Nat.le_of_ble_eq_true rfl, Nat.le_of_ble_eq_true rfl⟩) hK hE hP hD hS hA ⟨rfl, rfl, rfl, rfl, rfl, rfl, rfl⟩ hl rfl rfl (Nat.le_of_ble_eq_true rfl) ⟨Nat.le_of_ble_eq_true rfl, Nat.le_of_ble_eq_true rfl⟩ dX5_image_35 (fun H locs hP hD hS => ?_)
      refine W.widen (k := 0) (n := 0) (Nat.le_refl _) (Nat.le_refl _) ?_
      obtain ⟨b_4, eb_4⟩ : ∃ z : ob_B, z = ob_A b 15 f_3 := ⟨_, rfl⟩
      replace hd := ob_lx eb_4 hd
      replace hP : va_P (dC, dI) vwCl (ob_w5 o_b a_b cI cZ b_4) H := by rw [eb_4]; exact hP
      replace hD : va_D A (ob_w5 o_b a_b cI cZ b_4) := by rw [eb_4]; exact hD
      clear eb_4
      refine lv_aload_n hx hb dX5_image_38 rfl (lv_at hl 0 rfl) ?_
      refine va_get (D := (dC, dI)) (ci := 5) (v := .ref (a_b 16)) (C := RX5) (T := TX5) (N := 23) hx hb hts hi_X5 hown hK hP 0 rfl rfl 16 (by decide) kw2 (fun _ h9 => h9) rfl dX5_image_39 ?_
      refine lv_iload_n hx hb dX5_image_42 rfl (lv_at hl 1 rfl) ?_
      refine lv_iconst (v := 1) hx hb dX5_image_43 (by decide) ?_
      obtain ⟨h1_44, hd⟩ := ob_nn hd
      refine va_zast hx hb hK hP hD hS 9 1 rfl rfl h1_44 dX5_image_44 (fun H locs hP hD hS => ?_)
      obtain ⟨b_5, eb_5⟩ : ∃ z : ob_B, z = ob_A b_4 16 (upd (b_4.2 16) (Int32.toNatClampNeg x1) (vp_nar .boolean 1)) := ⟨_, rfl⟩
      replace hd := ob_lx eb_5 hd
      replace hP : va_P (dC, dI) vwCl (ob_w5 o_b a_b cI cZ b_5) H := by rw [eb_5]; exact hP
      replace hD : va_D A (ob_w5 o_b a_b cI cZ b_5) := by rw [eb_5]; exact hD
      clear eb_5
      refine lv_iconst (v := 1) hx hb dX5_image_45 (by decide) ?_
      obtain ⟨e1, e2⟩ := ob_pp hd
      subst e1
      subst e2
      exact ob_iret hx hb hr hlocks hP hD hS dX5_image_46
    · replace hd := ob_t c_16 hd
      refine lv_ldc hx hb hown kw3 dX5_image_19 ?_
      obtain ⟨e1, e2⟩ := ob_pp hd
      subst e1
      subst e2
      exact ob_iret hx hb hr hlocks hP hD hS dX5_image_21
  · replace hd := ob_t c_6 hd
    refine lv_ldc hx hb hown kw4 dX5_image_9 ?_
    obtain ⟨e1, e2⟩ := ob_pp hd
    subst e1
    subst e2
    exact ob_iret hx hb hr hlocks hP hD hS dX5_image_11

def fd_X5_restore  (b : ob_B) (x1 : Int32) : Option (Int32 × ob_B) := ob_b1 (fd_X5_in x1 0 1) (fun r_1 => if r_1 = 0 then (some ((-1000001), b)) else (if x1 < 0 ∨ 2 ≤ Int32.toNatClampNeg x1 then none else (if ((b.2 16) (Int32.toNatClampNeg x1)) = 0 then (some ((-1000002), b)) else (ob_b1 (fd_X5_lay 84 42 ((b.2 15)) ((b.2 12)) (42 * x1) 0) (fun f_2 => ob_lt (ob_A b 12 f_2 : ob_B) (fun b_3 => ob_lt (ob_I b_3 18 0 : ob_B) (fun b_4 => some (1, b_4))))))))
set_option maxHeartbeats 4000000 in
set_option maxRecDepth 100000 in
theorem mt_X5_restore (l : Launch) (dC : Nat → ClassId) (dI : Nat → Nat → Nat) (cI cZ cR cW : ClassId) (xs : Nat → Nat) (sz : Nat) (o_b : Nat) (a_b : Nat → Nat) (b : ob_B) (x1 : Int32)  (rr : Int32) (b' : ob_B) (hd : fd_X5_restore b x1 = some (rr, b')) : ob_M l yX5_restore wsX5_restore ({ frames := 1, cells := 0, slots := 0, locals := 24 } : Room) (dC, dI) (ob_ty cI cZ cR cW) xs [.ref o_b, .int x1] (ob_w5 o_b a_b cI cZ b) sz (ob_Qi (dC, dI) rr (ob_w5 o_b a_b cI cZ b')) := by
  rw [fd_X5_restore] at hd
  refine ob_in (cc := cX5_restore) (maxL := 2) (ret := (some .int)) (own := RX5) (by decide) rfl rfl [(0, .ref o_b), (1, .int x1)] rfl (Nat.le_of_ble_eq_true rfl) ?_
  intro p e s m below meth c hx hb hr hml hown hts hlocks hnm hK A hA hE hP hD hS ls hl
  have kw0 := hts (.fieldLink RX5 34 "OathCoachModel" "isKept" "[Z") (by decide +kernel)
  have kw1 := hts (.fieldLink RX5 31 "OathCoachModel" "image" "[I") (by decide +kernel)
  have kw2 := hts (.fieldLink RX5 22 "OathCoachModel" "now" "[I") (by decide +kernel)
  have kw3 := hts (.fieldLink RX5 127 "OathCoachModel" "acts" "I") (by decide +kernel)
  have kw4 := hts (.constant RX5 130 (-1000002)) (by decide +kernel)
  have kw5 := hts (.constant RX5 63 (-1000001)) (by decide +kernel)
  have hi_X5 : ∀ w ∈ u_ws RX5 TX5 23, w ∈ wsX5_restore := by decide +kernel
  refine lv_iload_n hx hb dX5_restore_0 rfl (lv_at hl 1 rfl) ?_
  refine lv_iconst (v := 0) hx hb dX5_restore_1 (by decide) ?_
  refine lv_iconst (v := 1) hx hb dX5_restore_2 (by decide) ?_
  obtain ⟨r_1, hc_3, hd⟩ := ob_s1 hd
  refine ob_Si (isC := []) (isR := [0, 1, 2, 3, 4, 5, 6, 7, 8, 9, 10, 11, 12, 13]) (is2 := [0, 1, 2, 3, 4, 5, 6, 7, 8, 9, 10, 11, 12, 13]) (wc := ([] : va_W)) (wr := (List.filterMap (fun i => (ob_w5 o_b a_b cI cZ b)[i]?) [0, 1, 2, 3, 4, 5, 6, 7, 8, 9, 10, 11, 12, 13])) (w1 := ([] : va_W)) (w2 := (ob_w5 o_b a_b cI cZ b)) (As := [.int x1, .int 0, .int 1]) (rest := []) ⟨hx, hb, hml, hown, hts⟩ (mt_X5_in l dC dI cI cZ cR cW xs _ x1 0 1 r_1 hc_3) (va_cwS 3 hts gX5_restore_X5_in rfl rfl rfl (by decide +kernel) ⟨Nat.le_of_ble_eq_true rfl, Nat.le_of_ble_eq_true rfl⟩) hK hE hP hD hS hA ⟨rfl, rfl, rfl, rfl, rfl, rfl, rfl⟩ hl rfl rfl (Nat.le_of_ble_eq_true rfl) ⟨Nat.le_of_ble_eq_true rfl, Nat.le_of_ble_eq_true rfl⟩ dX5_restore_3 (fun H locs hP hD hS => ?_)
  refine W.widen (k := 0) (n := 0) (Nat.le_refl _) (Nat.le_refl _) ?_
  refine lv_if_ne (tgt := 12) hx hb dX5_restore_6 (by decide) (fun c_6 => ?_) (fun c_6 => ?_)
  · replace hd := ob_f c_6 hd
    refine lv_aload_n hx hb dX5_restore_12 rfl (lv_at hl 0 rfl) ?_
    refine va_get (D := (dC, dI)) (ci := 5) (v := .ref (a_b 16)) (C := RX5) (T := TX5) (N := 23) hx hb hts hi_X5 hown hK hP 0 rfl rfl 16 (by decide) kw0 (fun _ h9 => h9) rfl dX5_restore_13 ?_
    refine lv_iload_n hx hb dX5_restore_16 rfl (lv_at hl 1 rfl) ?_
    obtain ⟨h1_17, hd⟩ := ob_nn hd
    refine va_zald hx hb hK hP 9 1 rfl rfl h1_17 dX5_restore_17 ?_
    refine lv_if_ne (tgt := 24) hx hb dX5_restore_18 (by decide) (fun c_18 => ?_) (fun c_18 => ?_)
    · replace hd := ob_f c_18 hd
      refine lv_aload_n hx hb dX5_restore_24 rfl (lv_at hl 0 rfl) ?_
      refine va_get (D := (dC, dI)) (ci := 5) (v := .ref (a_b 15)) (C := RX5) (T := TX5) (N := 23) hx hb hts hi_X5 hown hK hP 0 rfl rfl 15 (by decide) kw1 (fun _ h9 => h9) rfl dX5_restore_25 ?_
      refine lv_bipush (v := 42) hx hb dX5_restore_28 (by decide) ?_
      refine lv_iload_n hx hb dX5_restore_30 rfl (lv_at hl 1 rfl) ?_
      refine lv_imul hx hb dX5_restore_31 ?_
      refine lv_aload_n hx hb dX5_restore_32 rfl (lv_at hl 0 rfl) ?_
      refine va_get (D := (dC, dI)) (ci := 5) (v := .ref (a_b 12)) (C := RX5) (T := TX5) (N := 23) hx hb hts hi_X5 hown hK hP 0 rfl rfl 12 (by decide) kw2 (fun _ h9 => h9) rfl dX5_restore_33 ?_
      refine lv_iconst (v := 0) hx hb dX5_restore_36 (by decide) ?_
      obtain ⟨f_2, hc_37, hd⟩ := ob_s1 hd
      refine ob_Sv (isC := [8, 5]) (isR := [0, 1, 2, 3, 4, 6, 7, 9, 10, 11, 12, 13]) (is2 := [0, 1, 2, 3, 4, 13, 5, 6, 12, 7, 8, 9, 10, 11]) (wc := (ob_wa (a_b 15) cI 84 (b.2 15) ++ ob_wa (a_b 12) cI 42 (b.2 12))) (wr := (List.filterMap (fun i => (ob_w5 o_b a_b cI cZ b)[i]?) [0, 1, 2, 3, 4, 6, 7, 9, 10, 11, 12, 13])) (w1 := (ob_wa (a_b 15) cI 84 (b.2 15) ++ ob_wa (a_b 12) cI 42 f_2)) (w2 := (ob_w5 o_b a_b cI cZ (ob_A b 12 f_2))) (As := [.ref (a_b 15), .int (42 * x1), .ref (a_b 12), .int 0]) (rest := []) ⟨hx, hb, hml, hown, hts⟩ (mt_X5_lay l dC dI cI cZ cR cW xs _ ((a_b 15)) 84 ((a_b 12)) 42 ((b.2 15)) ((b.2 12)) (42 * x1) 0 f_2 hc_37) (va_cwS 4 hts gX5_restore_X5_lay rfl rfl rfl (by decide +kernel) ⟨Nat.le_of_ble_eq_true rfl, Nat.le_of_ble_eq_true rfl⟩) hK hE hP hD hS hA ⟨rfl, rfl, rfl, rfl, rfl, rfl, rfl⟩ hl rfl rfl (Nat.le_of_ble_eq_true rfl) ⟨Nat.le_of_ble_eq_true rfl, Nat.le_of_ble_eq_true rfl⟩ dX5_restore_37 (fun H locs hP hD hS => ?_)
      refine W.widen (k := 0) (n := 0) (Nat.le_refl _) (Nat.le_refl _) ?_
      obtain ⟨b_3, eb_3⟩ : ∃ z : ob_B, z = ob_A b 12 f_2 := ⟨_, rfl⟩
      replace hd := ob_lx eb_3 hd
      replace hP : va_P (dC, dI) vwCl (ob_w5 o_b a_b cI cZ b_3) H := by rw [eb_3]; exact hP
      replace hD : va_D A (ob_w5 o_b a_b cI cZ b_3) := by rw [eb_3]; exact hD
      clear eb_3
      refine lv_aload_n hx hb dX5_restore_40 rfl (lv_at hl 0 rfl) ?_
      refine lv_iconst (v := 0) hx hb dX5_restore_41 (by decide) ?_
      refine va_put (D := (dC, dI)) (ci := 5) (v := .int 0) (ty := .int) (C := RX5) (T := TX5) (N := 23) hx hb hts hi_X5 tyX5 tyX5_ok nmX5 hown hK hP hD hS 0 rfl rfl 18 (by decide) kw3 (fun _ h9 => h9) rfl (by decide +kernel) rfl rfl (Nat.le_of_ble_eq_true rfl) dX5_restore_42 (fun H locs hP hD hS => ?_)
      obtain ⟨b_4, eb_4⟩ : ∃ z : ob_B, z = ob_I b_3 18 0 := ⟨_, rfl⟩
      replace hd := ob_lx eb_4 hd
      replace hP : va_P (dC, dI) vwCl (ob_w5 o_b a_b cI cZ b_4) H := by rw [eb_4]; exact hP
      replace hD : va_D A (ob_w5 o_b a_b cI cZ b_4) := by rw [eb_4]; exact hD
      clear eb_4
      refine lv_iconst (v := 1) hx hb dX5_restore_45 (by decide) ?_
      obtain ⟨e1, e2⟩ := ob_pp hd
      subst e1
      subst e2
      exact ob_iret hx hb hr hlocks hP hD hS dX5_restore_46
    · replace hd := ob_t c_18 hd
      refine lv_ldc hx hb hown kw4 dX5_restore_21 ?_
      obtain ⟨e1, e2⟩ := ob_pp hd
      subst e1
      subst e2
      exact ob_iret hx hb hr hlocks hP hD hS dX5_restore_23
  · replace hd := ob_t c_6 hd
    refine lv_ldc hx hb hown kw5 dX5_restore_9 ?_
    obtain ⟨e1, e2⟩ := ob_pp hd
    subst e1
    subst e2
    exact ob_iret hx hb hr hlocks hP hD hS dX5_restore_11

def fd_X5_kind  (b : ob_B) (x1 : Int32) : Option (Int32) := ob_b1 (fd_X5_isOne b x1) (fun r_1 => if r_1 = 0 then (some ((-1000001))) else (if (7 + x1) < 0 ∨ 42 ≤ Int32.toNatClampNeg (7 + x1) then none else (some ((b.2 12) (Int32.toNatClampNeg (7 + x1))))))
set_option maxHeartbeats 4000000 in
set_option maxRecDepth 100000 in
theorem mt_X5_kind (l : Launch) (dC : Nat → ClassId) (dI : Nat → Nat → Nat) (cI cZ cR cW : ClassId) (xs : Nat → Nat) (sz : Nat) (o_b : Nat) (a_b : Nat → Nat) (b : ob_B) (x1 : Int32)  (rr : Int32) (hd : fd_X5_kind b x1 = some (rr)) : ob_M l yX5_kind wsX5_kind ({ frames := 2, cells := 0, slots := 0, locals := 43 } : Room) (dC, dI) (ob_ty cI cZ cR cW) xs [.ref o_b, .int x1] (ob_w5 o_b a_b cI cZ b) sz (ob_Qi (dC, dI) rr (ob_w5 o_b a_b cI cZ b)) := by
  rw [fd_X5_kind] at hd
  refine ob_in (cc := cX5_kind) (maxL := 2) (ret := (some .int)) (own := RX5) (by decide) rfl rfl [(0, .ref o_b), (1, .int x1)] rfl (Nat.le_of_ble_eq_true rfl) ?_
  intro p e s m below meth c hx hb hr hml hown hts hlocks hnm hK A hA hE hP hD hS ls hl
  have kw0 := hts (.constant RX5 63 (-1000001)) (by decide +kernel)
  have kw1 := hts (.fieldLink RX5 22 "OathCoachModel" "now" "[I") (by decide +kernel)
  have hi_X5 : ∀ w ∈ u_ws RX5 TX5 23, w ∈ wsX5_kind := by decide +kernel
  refine lv_aload_n hx hb dX5_kind_0 rfl (lv_at hl 0 rfl) ?_
  refine lv_iload_n hx hb dX5_kind_1 rfl (lv_at hl 1 rfl) ?_
  obtain ⟨r_1, hc_2, hd⟩ := ob_s1 hd
  refine ob_Vi (isC := [0, 1, 2, 3, 4, 5, 6, 7, 8, 9, 10, 11, 12, 13]) (isR := []) (is2 := [0, 1, 2, 3, 4, 5, 6, 7, 8, 9, 10, 11, 12, 13]) (wc := (ob_w5 o_b a_b cI cZ b)) (wr := ([] : va_W)) (w1 := (ob_w5 o_b a_b cI cZ b)) (w2 := (ob_w5 o_b a_b cI cZ b)) (b := o_b) (As := [.int x1]) (rest := []) ⟨hx, hb, hml, hown, hts⟩ (mt_X5_isOne l dC dI cI cZ cR cW xs _ o_b a_b b x1 r_1 hc_2) (cwV 1 hts gX5_kind_X5_isOne rfl rfl rfl (by decide +kernel) ⟨Nat.le_of_ble_eq_true rfl, Nat.le_of_ble_eq_true rfl⟩) hK hE hP hD hS hA ⟨rfl, rfl, rfl, rfl, rfl, rfl, rfl⟩ 5 0 rfl rfl rfl hl rfl rfl (Nat.le_of_ble_eq_true rfl) ⟨Nat.le_of_ble_eq_true rfl, Nat.le_of_ble_eq_true rfl⟩ dX5_kind_2 (fun H locs hP hD hS => ?_)
  refine W.widen (k := 0) (n := 0) (Nat.le_refl _) (Nat.le_refl _) ?_
  refine lv_if_eq (tgt := 20) hx hb dX5_kind_5 (by decide) (fun c_5 => ?_) (fun c_5 => ?_)
  · replace hd := ob_t c_5 hd
    refine lv_ldc hx hb hown kw0 dX5_kind_20 ?_
    have e1 := Option.some.inj hd
    subst e1
    exact ob_iret hx hb hr hlocks hP hD hS dX5_kind_22
  · replace hd := ob_f c_5 hd
    refine lv_aload_n hx hb dX5_kind_8 rfl (lv_at hl 0 rfl) ?_
    refine va_get (D := (dC, dI)) (ci := 5) (v := .ref (a_b 12)) (C := RX5) (T := TX5) (N := 23) hx hb hts hi_X5 hown hK hP 0 rfl rfl 12 (by decide) kw1 (fun _ h9 => h9) rfl dX5_kind_9 ?_
    refine lv_bipush (v := 7) hx hb dX5_kind_12 (by decide) ?_
    refine lv_iload_n hx hb dX5_kind_14 rfl (lv_at hl 1 rfl) ?_
    refine lv_iadd hx hb dX5_kind_15 ?_
    obtain ⟨h1_16, hd⟩ := ob_nn hd
    refine va_iald hx hb hK hP 5 0 rfl rfl h1_16 dX5_kind_16 ?_
    refine lv_goto (tgt := 22) hx hb dX5_kind_17 (by decide) ?_
    have e1 := Option.some.inj hd
    subst e1
    exact ob_iret hx hb hr hlocks hP hD hS dX5_kind_22

def fd_X5_as_L52  (b : ob_B) (x1 : Int32) (v0 : Int32) : Option (Int32 × ob_B) := if v0 = 0 then (ob_b2 (fd_X5_finds b 3) (fun r_5 b_6 => some (r_5, b_6))) else (ob_b2 (fd_X5_done b x1) (fun r_7 b_8 => some (r_7, b_8)))
def fd_X5_as_L47  (b : ob_B) (x1 : Int32) : Option (Int32 × ob_B) := fd_X5_as_L52 b x1 1
def fd_X5_as  (b : ob_B) (x1 : Int32) (x2 : Int32) : Option (Int32 × ob_B) := ob_b1 (fd_X5_isOne b x1) (fun r_1 => if r_1 = 0 then (some ((-1000001), b)) else (ob_b1 (fd_X5_in x2 0 5) (fun r_2 => if r_2 = 0 then (some ((-1000001), b)) else (if (7 + x1) < 0 ∨ 42 ≤ Int32.toNatClampNeg (7 + x1) then none else (ob_lt ((b.2 12) (Int32.toNatClampNeg (7 + x1)) : Int32) (fun x_3 => if x2 = 0 then (fd_X5_as_L47 b x1) else (if x_3 = x2 then (fd_X5_as_L47 b x1) else (ob_b1 (fd_X5_parentOf x_3) (fun r_4 => if r_4 = x2 then (fd_X5_as_L47 b x1) else (fd_X5_as_L52 b x1 0))))))))))
set_option maxHeartbeats 4000000 in
set_option maxRecDepth 100000 in
theorem mt_X5_as (l : Launch) (dC : Nat → ClassId) (dI : Nat → Nat → Nat) (cI cZ cR cW : ClassId) (xs : Nat → Nat) (sz : Nat) (o_b : Nat) (a_b : Nat → Nat) (b : ob_B) (x1 : Int32) (x2 : Int32)  (rr : Int32) (b' : ob_B) (hd : fd_X5_as b x1 x2 = some (rr, b')) : ob_M l yX5_as wsX5_as ({ frames := 2, cells := 0, slots := 0, locals := 43 } : Room) (dC, dI) (ob_ty cI cZ cR cW) xs [.ref o_b, .int x1, .int x2] (ob_w5 o_b a_b cI cZ b) sz (ob_Qi (dC, dI) rr (ob_w5 o_b a_b cI cZ b')) := by
  rw [fd_X5_as] at hd
  refine ob_in (cc := cX5_as) (maxL := 5) (ret := (some .int)) (own := RX5) (by decide) rfl rfl [(0, .ref o_b), (1, .int x1), (2, .int x2)] rfl (Nat.le_of_ble_eq_true rfl) ?_
  intro p e s m below meth c hx hb hr hml hown hts hlocks hnm hK A hA hE hP hD hS ls hl
  have kw0 := hts (.constant RX5 63 (-1000001)) (by decide +kernel)
  have kw1 := hts (.fieldLink RX5 22 "OathCoachModel" "now" "[I") (by decide +kernel)
  have hi_X5 : ∀ w ∈ u_ws RX5 TX5 23, w ∈ wsX5_as := by decide +kernel
  have L52 : ∀ (H : Heap) (locs : List Loc) (b : ob_B) (v0 : Int32) (ls : Array Slot), va_P (dC, dI) vwCl (ob_w5 o_b a_b cI cZ b) H → va_D A (ob_w5 o_b a_b cI cZ b) → va_S A s.heap H locs → lv_has ls 5 [(0, .ref o_b), (1, .int x1)] → fd_X5_as_L52 b x1 v0 = some (rr, b') → W p l e ({ frames := 2, cells := 0, slots := 0, locals := 43 } : Room) s m (List.toArray [.ref o_b, .int x1, .int x2]) below meth c H locs 0 0 (MQ below ((ob_Qi (dC, dI) rr (ob_w5 o_b a_b cI cZ b')) A) (List.toArray [.ref o_b, .int x1, .int x2]) s 0 0 A) (F0 m 52 ls [.int v0]) := by
    intro  H locs b v0 ls hP hD hS hl hd
    rw [fd_X5_as_L52] at hd
    refine lv_istore (lv' := [(4, .int v0), (0, .ref o_b), (1, .int x1)]) hx hb dX5_as_52 hl (by decide) rfl (fun ls hl => ?_)
    refine lv_iload hx hb dX5_as_54 (lv_at hl 0 rfl) ?_
    refine lv_if_eq (tgt := 67) hx hb dX5_as_56 (by decide) (fun c_56 => ?_) (fun c_56 => ?_)
    · replace hd := ob_t c_56 hd
      refine lv_aload_n hx hb dX5_as_67 rfl (lv_at hl 1 rfl) ?_
      refine lv_iconst (v := 3) hx hb dX5_as_68 (by decide) ?_
      obtain ⟨r_5, b_6, hc_69, hd⟩ := ob_s2 hd
      refine ob_Vi (isC := [0, 1, 2, 3, 4, 5, 6, 7, 8, 9, 10, 11, 12, 13]) (isR := []) (is2 := [0, 1, 2, 3, 4, 5, 6, 7, 8, 9, 10, 11, 12, 13]) (wc := (ob_w5 o_b a_b cI cZ b)) (wr := ([] : va_W)) (w1 := (ob_w5 o_b a_b cI cZ b_6)) (w2 := (ob_w5 o_b a_b cI cZ b_6)) (b := o_b) (As := [.int 3]) (rest := []) ⟨hx, hb, hml, hown, hts⟩ (mt_X5_finds l dC dI cI cZ cR cW xs _ o_b a_b b 3 r_5 b_6 hc_69) (cwV 1 hts gX5_as_X5_finds rfl rfl rfl (by decide +kernel) ⟨Nat.le_of_ble_eq_true rfl, Nat.le_of_ble_eq_true rfl⟩) hK hE hP hD hS hA ⟨rfl, rfl, rfl, rfl, rfl, rfl, rfl⟩ 5 0 rfl rfl rfl hl rfl rfl (Nat.le_of_ble_eq_true rfl) ⟨Nat.le_of_ble_eq_true rfl, Nat.le_of_ble_eq_true rfl⟩ dX5_as_69 (fun H locs hP hD hS => ?_)
      refine W.widen (k := 0) (n := 0) (Nat.le_refl _) (Nat.le_refl _) ?_
      obtain ⟨e1, e2⟩ := ob_pp hd
      subst e1
      subst e2
      exact ob_iret hx hb hr hlocks hP hD hS dX5_as_72
    · replace hd := ob_f c_56 hd
      refine lv_aload_n hx hb dX5_as_59 rfl (lv_at hl 1 rfl) ?_
      refine lv_iload_n hx hb dX5_as_60 rfl (lv_at hl 2 rfl) ?_
      obtain ⟨r_7, b_8, hc_61, hd⟩ := ob_s2 hd
      refine ob_Vi (isC := [0, 1, 2, 3, 4, 5, 6, 7, 8, 9, 10, 11, 12, 13]) (isR := []) (is2 := [0, 1, 2, 3, 4, 5, 6, 7, 8, 9, 10, 11, 12, 13]) (wc := (ob_w5 o_b a_b cI cZ b)) (wr := ([] : va_W)) (w1 := (ob_w5 o_b a_b cI cZ b_8)) (w2 := (ob_w5 o_b a_b cI cZ b_8)) (b := o_b) (As := [.int x1]) (rest := []) ⟨hx, hb, hml, hown, hts⟩ (mt_X5_done l dC dI cI cZ cR cW xs _ o_b a_b b x1 r_7 b_8 hc_61) (cwV 1 hts gX5_as_X5_done rfl rfl rfl (by decide +kernel) ⟨Nat.le_of_ble_eq_true rfl, Nat.le_of_ble_eq_true rfl⟩) hK hE hP hD hS hA ⟨rfl, rfl, rfl, rfl, rfl, rfl, rfl⟩ 5 0 rfl rfl rfl hl rfl rfl (Nat.le_of_ble_eq_true rfl) ⟨Nat.le_of_ble_eq_true rfl, Nat.le_of_ble_eq_true rfl⟩ dX5_as_61 (fun H locs hP hD hS => ?_)
      refine W.widen (k := 0) (n := 0) (Nat.le_refl _) (Nat.le_refl _) ?_
      refine lv_goto (tgt := 72) hx hb dX5_as_64 (by decide) ?_
      obtain ⟨e1, e2⟩ := ob_pp hd
      subst e1
      subst e2
      exact ob_iret hx hb hr hlocks hP hD hS dX5_as_72
  have L47 : ∀ (H : Heap) (locs : List Loc) (b : ob_B)  (ls : Array Slot), va_P (dC, dI) vwCl (ob_w5 o_b a_b cI cZ b) H → va_D A (ob_w5 o_b a_b cI cZ b) → va_S A s.heap H locs → lv_has ls 5 [(0, .ref o_b), (1, .int x1)] → fd_X5_as_L47 b x1 = some (rr, b') → W p l e ({ frames := 2, cells := 0, slots := 0, locals := 43 } : Room) s m (List.toArray [.ref o_b, .int x1, .int x2]) below meth c H locs 0 0 (MQ below ((ob_Qi (dC, dI) rr (ob_w5 o_b a_b cI cZ b')) A) (List.toArray [.ref o_b, .int x1, .int x2]) s 0 0 A) (F0 m 47 ls []) := by
    intro  H locs b ls hP hD hS hl hd
    rw [fd_X5_as_L47] at hd
    refine lv_iconst (v := 1) hx hb dX5_as_47 (by decide) ?_
    refine lv_goto (tgt := 52) hx hb dX5_as_48 (by decide) ?_
    exact L52   _ _ b 1 _ hP hD hS (lv_sub hl [0, 1] rfl) hd
  refine lv_aload_n hx hb dX5_as_0 rfl (lv_at hl 0 rfl) ?_
  refine lv_iload_n hx hb dX5_as_1 rfl (lv_at hl 1 rfl) ?_
  obtain ⟨r_1, hc_2, hd⟩ := ob_s1 hd
  refine ob_Vi (isC := [0, 1, 2, 3, 4, 5, 6, 7, 8, 9, 10, 11, 12, 13]) (isR := []) (is2 := [0, 1, 2, 3, 4, 5, 6, 7, 8, 9, 10, 11, 12, 13]) (wc := (ob_w5 o_b a_b cI cZ b)) (wr := ([] : va_W)) (w1 := (ob_w5 o_b a_b cI cZ b)) (w2 := (ob_w5 o_b a_b cI cZ b)) (b := o_b) (As := [.int x1]) (rest := []) ⟨hx, hb, hml, hown, hts⟩ (mt_X5_isOne l dC dI cI cZ cR cW xs _ o_b a_b b x1 r_1 hc_2) (cwV 1 hts gX5_as_X5_isOne rfl rfl rfl (by decide +kernel) ⟨Nat.le_of_ble_eq_true rfl, Nat.le_of_ble_eq_true rfl⟩) hK hE hP hD hS hA ⟨rfl, rfl, rfl, rfl, rfl, rfl, rfl⟩ 5 0 rfl rfl rfl hl rfl rfl (Nat.le_of_ble_eq_true rfl) ⟨Nat.le_of_ble_eq_true rfl, Nat.le_of_ble_eq_true rfl⟩ dX5_as_2 (fun H locs hP hD hS => ?_)
  refine W.widen (k := 0) (n := 0) (Nat.le_refl _) (Nat.le_refl _) ?_
  refine lv_if_eq (tgt := 17) hx hb dX5_as_5 (by decide) (fun c_5 => ?_) (fun c_5 => ?_)
  · replace hd := ob_t c_5 hd
    refine lv_ldc hx hb hown kw0 dX5_as_17 ?_
    obtain ⟨e1, e2⟩ := ob_pp hd
    subst e1
    subst e2
    exact ob_iret hx hb hr hlocks hP hD hS dX5_as_19
  · replace hd := ob_f c_5 hd
    refine lv_iload_n hx hb dX5_as_8 rfl (lv_at hl 2 rfl) ?_
    refine lv_iconst (v := 0) hx hb dX5_as_9 (by decide) ?_
    refine lv_iconst (v := 5) hx hb dX5_as_10 (by decide) ?_
    obtain ⟨r_2, hc_11, hd⟩ := ob_s1 hd
    refine ob_Si (isC := []) (isR := [0, 1, 2, 3, 4, 5, 6, 7, 8, 9, 10, 11, 12, 13]) (is2 := [0, 1, 2, 3, 4, 5, 6, 7, 8, 9, 10, 11, 12, 13]) (wc := ([] : va_W)) (wr := (List.filterMap (fun i => (ob_w5 o_b a_b cI cZ b)[i]?) [0, 1, 2, 3, 4, 5, 6, 7, 8, 9, 10, 11, 12, 13])) (w1 := ([] : va_W)) (w2 := (ob_w5 o_b a_b cI cZ b)) (As := [.int x2, .int 0, .int 5]) (rest := []) ⟨hx, hb, hml, hown, hts⟩ (mt_X5_in l dC dI cI cZ cR cW xs _ x2 0 5 r_2 hc_11) (va_cwS 3 hts gX5_as_X5_in rfl rfl rfl (by decide +kernel) ⟨Nat.le_of_ble_eq_true rfl, Nat.le_of_ble_eq_true rfl⟩) hK hE hP hD hS hA ⟨rfl, rfl, rfl, rfl, rfl, rfl, rfl⟩ hl rfl rfl (Nat.le_of_ble_eq_true rfl) ⟨Nat.le_of_ble_eq_true rfl, Nat.le_of_ble_eq_true rfl⟩ dX5_as_11 (fun H locs hP hD hS => ?_)
    refine W.widen (k := 0) (n := 0) (Nat.le_refl _) (Nat.le_refl _) ?_
    refine lv_if_ne (tgt := 20) hx hb dX5_as_14 (by decide) (fun c_14 => ?_) (fun c_14 => ?_)
    · replace hd := ob_f c_14 hd
      refine lv_aload_n hx hb dX5_as_20 rfl (lv_at hl 0 rfl) ?_
      refine va_get (D := (dC, dI)) (ci := 5) (v := .ref (a_b 12)) (C := RX5) (T := TX5) (N := 23) hx hb hts hi_X5 hown hK hP 0 rfl rfl 12 (by decide) kw1 (fun _ h9 => h9) rfl dX5_as_21 ?_
      refine lv_bipush (v := 7) hx hb dX5_as_24 (by decide) ?_
      refine lv_iload_n hx hb dX5_as_26 rfl (lv_at hl 1 rfl) ?_
      refine lv_iadd hx hb dX5_as_27 ?_
      obtain ⟨h1_28, hd⟩ := ob_nn hd
      refine va_iald hx hb hK hP 5 0 rfl rfl h1_28 dX5_as_28 ?_
      refine lv_topi (fun x_3 ex_3 => ?_)
      replace hd := ob_lx ex_3 hd
      clear ex_3
      refine lv_istore_n (lv' := [(3, .int x_3), (0, .ref o_b), (1, .int x1), (2, .int x2)]) hx hb dX5_as_29 rfl hl (by decide) rfl (fun ls hl => ?_)
      refine lv_iload_n hx hb dX5_as_30 rfl (lv_at hl 3 rfl) ?_
      refine lv_if_eq (tgt := 47) hx hb dX5_as_31 (by decide) (fun c_31 => ?_) (fun c_31 => ?_)
      · replace hd := ob_t c_31 hd
        exact L47   _ _ b _ hP hD hS (lv_sub hl [1, 2] rfl) hd
      · replace hd := ob_f c_31 hd
        refine lv_iload_n hx hb dX5_as_34 rfl (lv_at hl 0 rfl) ?_
        refine lv_iload_n hx hb dX5_as_35 rfl (lv_at hl 3 rfl) ?_
        refine lv_icmp_eq (tgt := 47) hx hb dX5_as_36 (by decide) (fun c_36 => ?_) (fun c_36 => ?_)
        · replace hd := ob_t c_36 hd
          exact L47   _ _ b _ hP hD hS (lv_sub hl [1, 2] rfl) hd
        · replace hd := ob_f c_36 hd
          refine lv_iload_n hx hb dX5_as_39 rfl (lv_at hl 0 rfl) ?_
          obtain ⟨r_4, hc_40, hd⟩ := ob_s1 hd
          refine ob_Si (isC := []) (isR := [0, 1, 2, 3, 4, 5, 6, 7, 8, 9, 10, 11, 12, 13]) (is2 := [0, 1, 2, 3, 4, 5, 6, 7, 8, 9, 10, 11, 12, 13]) (wc := ([] : va_W)) (wr := (List.filterMap (fun i => (ob_w5 o_b a_b cI cZ b)[i]?) [0, 1, 2, 3, 4, 5, 6, 7, 8, 9, 10, 11, 12, 13])) (w1 := ([] : va_W)) (w2 := (ob_w5 o_b a_b cI cZ b)) (As := [.int x_3]) (rest := []) ⟨hx, hb, hml, hown, hts⟩ (mt_X5_parentOf l dC dI cI cZ cR cW xs _ x_3 r_4 hc_40) (va_cwS 1 hts gX5_as_X5_parentOf rfl rfl rfl (by decide +kernel) ⟨Nat.le_of_ble_eq_true rfl, Nat.le_of_ble_eq_true rfl⟩) hK hE hP hD hS hA ⟨rfl, rfl, rfl, rfl, rfl, rfl, rfl⟩ hl rfl rfl (Nat.le_of_ble_eq_true rfl) ⟨Nat.le_of_ble_eq_true rfl, Nat.le_of_ble_eq_true rfl⟩ dX5_as_40 (fun H locs hP hD hS => ?_)
          refine W.widen (k := 0) (n := 0) (Nat.le_refl _) (Nat.le_refl _) ?_
          refine lv_iload_n hx hb dX5_as_43 rfl (lv_at hl 3 rfl) ?_
          refine lv_icmp_ne (tgt := 51) hx hb dX5_as_44 (by decide) (fun c_44 => ?_) (fun c_44 => ?_)
          · replace hd := ob_f c_44 hd
            refine lv_iconst (v := 0) hx hb dX5_as_51 (by decide) ?_
            exact L52   _ _ b 0 _ hP hD hS (lv_sub hl [1, 2] rfl) hd
          · replace hd := ob_t c_44 hd
            exact L47   _ _ b _ hP hD hS (lv_sub hl [1, 2] rfl) hd
    · replace hd := ob_t c_14 hd
      refine lv_ldc hx hb hown kw0 dX5_as_17 ?_
      obtain ⟨e1, e2⟩ := ob_pp hd
      subst e1
      subst e2
      exact ob_iret hx hb hr hlocks hP hD hS dX5_as_19

def fd_X5_begins  (b : ob_B) (x1 : Int32) : Option (ob_B) := if 16 ≤ (b.1 20) then (some (b)) else (if (b.1 20) < 0 ∨ 16 ≤ Int32.toNatClampNeg (b.1 20) then none else (ob_lt (ob_A b 19 (upd (b.2 19) (Int32.toNatClampNeg (b.1 20)) x1) : ob_B) (fun b_1 => ob_lt ((b_1.1 20) + 1 : Int32) (fun x_2 => ob_lt (ob_I b_1 20 x_2 : ob_B) (fun b_3 => some (b_3))))))
set_option maxHeartbeats 4000000 in
set_option maxRecDepth 100000 in
theorem mt_X5_begins (l : Launch) (dC : Nat → ClassId) (dI : Nat → Nat → Nat) (cI cZ cR cW : ClassId) (xs : Nat → Nat) (sz : Nat) (o_b : Nat) (a_b : Nat → Nat) (b : ob_B) (x1 : Int32)  (b' : ob_B) (hd : fd_X5_begins b x1 = some (b')) : ob_M l yX5_begins wsX5_begins ({ frames := 0, cells := 0, slots := 0, locals := 0 } : Room) (dC, dI) (ob_ty cI cZ cR cW) xs [.ref o_b, .int x1] (ob_w5 o_b a_b cI cZ b) sz (ob_Qv (dC, dI) (ob_w5 o_b a_b cI cZ b')) := by
  rw [fd_X5_begins] at hd
  refine ob_in (cc := cX5_begins) (maxL := 2) (ret := none) (own := RX5) (by decide) rfl rfl [(0, .ref o_b), (1, .int x1)] rfl (Nat.le_of_ble_eq_true rfl) ?_
  intro p e s m below meth c hx hb hr hml hown hts hlocks hnm hK A hA hE hP hD hS ls hl
  have kw0 := hts (.fieldLink RX5 200 "OathCoachModel" "traceMany" "I") (by decide +kernel)
  have kw1 := hts (.fieldLink RX5 41 "OathCoachModel" "trace" "[I") (by decide +kernel)
  have hi_X5 : ∀ w ∈ u_ws RX5 TX5 23, w ∈ wsX5_begins := by decide +kernel
  refine lv_aload_n hx hb dX5_begins_0 rfl (lv_at hl 0 rfl) ?_
  refine va_get (D := (dC, dI)) (ci := 5) (v := .int (b.1 20)) (C := RX5) (T := TX5) (N := 23) hx hb hts hi_X5 hown hK hP 0 rfl rfl 20 (by decide) kw0 (fun _ h9 => h9) rfl dX5_begins_1 ?_
  refine lv_bipush (v := 16) hx hb dX5_begins_4 (by decide) ?_
  refine lv_icmp_ge (tgt := 29) hx hb dX5_begins_6 (by decide) (fun c_6 => ?_) (fun c_6 => ?_)
  · replace hd := ob_t c_6 hd
    have e1 := Option.some.inj hd
    subst e1
    exact ob_vret hx hb hr hlocks hP hD hS dX5_begins_29
  · replace hd := ob_f c_6 hd
    refine lv_aload_n hx hb dX5_begins_9 rfl (lv_at hl 0 rfl) ?_
    refine va_get (D := (dC, dI)) (ci := 5) (v := .ref (a_b 19)) (C := RX5) (T := TX5) (N := 23) hx hb hts hi_X5 hown hK hP 0 rfl rfl 19 (by decide) kw1 (fun _ h9 => h9) rfl dX5_begins_10 ?_
    refine lv_aload_n hx hb dX5_begins_13 rfl (lv_at hl 0 rfl) ?_
    refine va_get (D := (dC, dI)) (ci := 5) (v := .int (b.1 20)) (C := RX5) (T := TX5) (N := 23) hx hb hts hi_X5 hown hK hP 0 rfl rfl 20 (by decide) kw0 (fun _ h9 => h9) rfl dX5_begins_14 ?_
    refine lv_iload_n hx hb dX5_begins_17 rfl (lv_at hl 1 rfl) ?_
    obtain ⟨h1_18, hd⟩ := ob_nn hd
    refine va_iast hx hb hK hP hD hS 11 0 rfl rfl h1_18 dX5_begins_18 (fun H locs hP hD hS => ?_)
    obtain ⟨b_1, eb_1⟩ : ∃ z : ob_B, z = ob_A b 19 (upd (b.2 19) (Int32.toNatClampNeg (b.1 20)) x1) := ⟨_, rfl⟩
    replace hd := ob_lx eb_1 hd
    replace hP : va_P (dC, dI) vwCl (ob_w5 o_b a_b cI cZ b_1) H := by rw [eb_1]; exact hP
    replace hD : va_D A (ob_w5 o_b a_b cI cZ b_1) := by rw [eb_1]; exact hD
    clear eb_1
    refine lv_aload_n hx hb dX5_begins_19 rfl (lv_at hl 0 rfl) ?_
    refine lv_dup hx hb dX5_begins_20 rfl ?_
    refine va_get (D := (dC, dI)) (ci := 5) (v := .int (b_1.1 20)) (C := RX5) (T := TX5) (N := 23) hx hb hts hi_X5 hown hK hP 0 rfl rfl 20 (by decide) kw0 (fun _ h9 => h9) rfl dX5_begins_21 ?_
    refine lv_iconst (v := 1) hx hb dX5_begins_24 (by decide) ?_
    refine lv_iadd hx hb dX5_begins_25 ?_
    refine lv_topi (fun x_2 ex_2 => ?_)
    replace hd := ob_lx ex_2 hd
    clear ex_2
    refine va_put (D := (dC, dI)) (ci := 5) (v := .int x_2) (ty := .int) (C := RX5) (T := TX5) (N := 23) hx hb hts hi_X5 tyX5 tyX5_ok nmX5 hown hK hP hD hS 0 rfl rfl 20 (by decide) kw0 (fun _ h9 => h9) rfl (by decide +kernel) rfl rfl (Nat.le_of_ble_eq_true rfl) dX5_begins_26 (fun H locs hP hD hS => ?_)
    obtain ⟨b_3, eb_3⟩ : ∃ z : ob_B, z = ob_I b_1 20 x_2 := ⟨_, rfl⟩
    replace hd := ob_lx eb_3 hd
    replace hP : va_P (dC, dI) vwCl (ob_w5 o_b a_b cI cZ b_3) H := by rw [eb_3]; exact hP
    replace hD : va_D A (ob_w5 o_b a_b cI cZ b_3) := by rw [eb_3]; exact hD
    clear eb_3
    have e1 := Option.some.inj hd
    subst e1
    exact ob_vret hx hb hr hlocks hP hD hS dX5_begins_29

def fd_X5_markOath  (b : ob_B) (x1 : Int32) : Option (Int32 × ob_B) := ob_b1 (fd_X5_begins b 21) (fun b_1 => ob_b1 (fd_X5_begins b_1 20) (fun b_2 => if (14 + x1) < 0 ∨ 42 ≤ Int32.toNatClampNeg (14 + x1) then none else (some (x1 + ((b_2.2 12) (Int32.toNatClampNeg (14 + x1))), b_2))))
set_option maxHeartbeats 4000000 in
set_option maxRecDepth 100000 in
theorem mt_X5_markOath (l : Launch) (dC : Nat → ClassId) (dI : Nat → Nat → Nat) (cI cZ cR cW : ClassId) (xs : Nat → Nat) (sz : Nat) (o_b : Nat) (a_b : Nat → Nat) (b : ob_B) (x1 : Int32)  (rr : Int32) (b' : ob_B) (hd : fd_X5_markOath b x1 = some (rr, b')) : ob_M l yX5_markOath wsX5_markOath ({ frames := 1, cells := 0, slots := 0, locals := 21 } : Room) (dC, dI) (ob_ty cI cZ cR cW) xs [.ref o_b, .int x1] (ob_w5 o_b a_b cI cZ b) sz (ob_Qi (dC, dI) rr (ob_w5 o_b a_b cI cZ b')) := by
  rw [fd_X5_markOath] at hd
  refine ob_in (cc := cX5_markOath) (maxL := 2) (ret := (some .int)) (own := RX5) (by decide) rfl rfl [(0, .ref o_b), (1, .int x1)] rfl (Nat.le_of_ble_eq_true rfl) ?_
  intro p e s m below meth c hx hb hr hml hown hts hlocks hnm hK A hA hE hP hD hS ls hl
  have kw0 := hts (.fieldLink RX5 22 "OathCoachModel" "now" "[I") (by decide +kernel)
  have hi_X5 : ∀ w ∈ u_ws RX5 TX5 23, w ∈ wsX5_markOath := by decide +kernel
  refine lv_aload_n hx hb dX5_markOath_0 rfl (lv_at hl 0 rfl) ?_
  refine lv_bipush (v := 21) hx hb dX5_markOath_1 (by decide) ?_
  obtain ⟨b_1, hc_3, hd⟩ := ob_s1 hd
  refine ob_Vv (isC := [0, 1, 2, 3, 4, 5, 6, 7, 8, 9, 10, 11, 12, 13]) (isR := []) (is2 := [0, 1, 2, 3, 4, 5, 6, 7, 8, 9, 10, 11, 12, 13]) (wc := (ob_w5 o_b a_b cI cZ b)) (wr := ([] : va_W)) (w1 := (ob_w5 o_b a_b cI cZ b_1)) (w2 := (ob_w5 o_b a_b cI cZ b_1)) (b := o_b) (As := [.int 21]) (rest := []) ⟨hx, hb, hml, hown, hts⟩ (mt_X5_begins l dC dI cI cZ cR cW xs _ o_b a_b b 21 b_1 hc_3) (cwV 1 hts gX5_markOath_X5_begins rfl rfl rfl (by decide +kernel) ⟨Nat.le_of_ble_eq_true rfl, Nat.le_of_ble_eq_true rfl⟩) hK hE hP hD hS hA ⟨rfl, rfl, rfl, rfl, rfl, rfl, rfl⟩ 5 0 rfl rfl rfl hl rfl rfl (Nat.le_of_ble_eq_true rfl) ⟨Nat.le_of_ble_eq_true rfl, Nat.le_of_ble_eq_true rfl⟩ dX5_markOath_3 (fun H locs hP hD hS => ?_)
  refine W.widen (k := 0) (n := 0) (Nat.le_refl _) (Nat.le_refl _) ?_
  refine lv_aload_n hx hb dX5_markOath_6 rfl (lv_at hl 0 rfl) ?_
  refine lv_bipush (v := 20) hx hb dX5_markOath_7 (by decide) ?_
  obtain ⟨b_2, hc_9, hd⟩ := ob_s1 hd
  refine ob_Vv (isC := [0, 1, 2, 3, 4, 5, 6, 7, 8, 9, 10, 11, 12, 13]) (isR := []) (is2 := [0, 1, 2, 3, 4, 5, 6, 7, 8, 9, 10, 11, 12, 13]) (wc := (ob_w5 o_b a_b cI cZ b_1)) (wr := ([] : va_W)) (w1 := (ob_w5 o_b a_b cI cZ b_2)) (w2 := (ob_w5 o_b a_b cI cZ b_2)) (b := o_b) (As := [.int 20]) (rest := []) ⟨hx, hb, hml, hown, hts⟩ (mt_X5_begins l dC dI cI cZ cR cW xs _ o_b a_b b_1 20 b_2 hc_9) (cwV 1 hts gX5_markOath_X5_begins rfl rfl rfl (by decide +kernel) ⟨Nat.le_of_ble_eq_true rfl, Nat.le_of_ble_eq_true rfl⟩) hK hE hP hD hS hA ⟨rfl, rfl, rfl, rfl, rfl, rfl, rfl⟩ 5 0 rfl rfl rfl hl rfl rfl (Nat.le_of_ble_eq_true rfl) ⟨Nat.le_of_ble_eq_true rfl, Nat.le_of_ble_eq_true rfl⟩ dX5_markOath_9 (fun H locs hP hD hS => ?_)
  refine W.widen (k := 0) (n := 0) (Nat.le_refl _) (Nat.le_refl _) ?_
  refine lv_iload_n hx hb dX5_markOath_12 rfl (lv_at hl 1 rfl) ?_
  refine lv_aload_n hx hb dX5_markOath_13 rfl (lv_at hl 0 rfl) ?_
  refine va_get (D := (dC, dI)) (ci := 5) (v := .ref (a_b 12)) (C := RX5) (T := TX5) (N := 23) hx hb hts hi_X5 hown hK hP 0 rfl rfl 12 (by decide) kw0 (fun _ h9 => h9) rfl dX5_markOath_14 ?_
  refine lv_bipush (v := 14) hx hb dX5_markOath_17 (by decide) ?_
  refine lv_iload_n hx hb dX5_markOath_19 rfl (lv_at hl 1 rfl) ?_
  refine lv_iadd hx hb dX5_markOath_20 ?_
  obtain ⟨h1_21, hd⟩ := ob_nn hd
  refine va_iald hx hb hK hP 5 0 rfl rfl h1_21 dX5_markOath_21 ?_
  refine lv_iadd hx hb dX5_markOath_22 ?_
  obtain ⟨e1, e2⟩ := ob_pp hd
  subst e1
  subst e2
  exact ob_iret hx hb hr hlocks hP hD hS dX5_markOath_23

def fd_X5_markPlain  (b : ob_B) (x1 : Int32) : Option (Int32 × ob_B) := if (7 + x1) < 0 ∨ 42 ≤ Int32.toNatClampNeg (7 + x1) then none else (ob_lt ((b.2 12) (Int32.toNatClampNeg (7 + x1)) : Int32) (fun x_1 => if x_1 = 2 then (ob_b1 (fd_X5_begins b 24) (fun b_7 => ob_b2 (fd_X5_markOath b_7 x1) (fun r_8 b_9 => some (2 * r_8, b_9)))) else (if x_1 = 3 then (ob_b1 (fd_X5_begins b 22) (fun b_4 => ob_b2 (fd_X5_markOath b_4 x1) (fun r_5 b_6 => some (r_5 - 1000, b_6)))) else (ob_b2 (fd_X5_markOath b x1) (fun r_2 b_3 => some (r_2, b_3))))))
set_option maxHeartbeats 4000000 in
set_option maxRecDepth 100000 in
theorem mt_X5_markPlain (l : Launch) (dC : Nat → ClassId) (dI : Nat → Nat → Nat) (cI cZ cR cW : ClassId) (xs : Nat → Nat) (sz : Nat) (o_b : Nat) (a_b : Nat → Nat) (b : ob_B) (x1 : Int32)  (rr : Int32) (b' : ob_B) (hd : fd_X5_markPlain b x1 = some (rr, b')) : ob_M l yX5_markPlain wsX5_markPlain ({ frames := 2, cells := 0, slots := 0, locals := 42 } : Room) (dC, dI) (ob_ty cI cZ cR cW) xs [.ref o_b, .int x1] (ob_w5 o_b a_b cI cZ b) sz (ob_Qi (dC, dI) rr (ob_w5 o_b a_b cI cZ b')) := by
  rw [fd_X5_markPlain] at hd
  refine ob_in (cc := cX5_markPlain) (maxL := 3) (ret := (some .int)) (own := RX5) (by decide) rfl rfl [(0, .ref o_b), (1, .int x1)] rfl (Nat.le_of_ble_eq_true rfl) ?_
  intro p e s m below meth c hx hb hr hml hown hts hlocks hnm hK A hA hE hP hD hS ls hl
  have kw0 := hts (.fieldLink RX5 22 "OathCoachModel" "now" "[I") (by decide +kernel)
  have hi_X5 : ∀ w ∈ u_ws RX5 TX5 23, w ∈ wsX5_markPlain := by decide +kernel
  refine lv_aload_n hx hb dX5_markPlain_0 rfl (lv_at hl 0 rfl) ?_
  refine va_get (D := (dC, dI)) (ci := 5) (v := .ref (a_b 12)) (C := RX5) (T := TX5) (N := 23) hx hb hts hi_X5 hown hK hP 0 rfl rfl 12 (by decide) kw0 (fun _ h9 => h9) rfl dX5_markPlain_1 ?_
  refine lv_bipush (v := 7) hx hb dX5_markPlain_4 (by decide) ?_
  refine lv_iload_n hx hb dX5_markPlain_6 rfl (lv_at hl 1 rfl) ?_
  refine lv_iadd hx hb dX5_markPlain_7 ?_
  obtain ⟨h1_8, hd⟩ := ob_nn hd
  refine va_iald hx hb hK hP 5 0 rfl rfl h1_8 dX5_markPlain_8 ?_
  refine lv_topi (fun x_1 ex_1 => ?_)
  replace hd := ob_lx ex_1 hd
  clear ex_1
  refine lv_istore_n (lv' := [(2, .int x_1), (0, .ref o_b), (1, .int x1)]) hx hb dX5_markPlain_9 rfl hl (by decide) rfl (fun ls hl => ?_)
  refine lv_iload_n hx hb dX5_markPlain_10 rfl (lv_at hl 0 rfl) ?_
  refine lv_iconst (v := 2) hx hb dX5_markPlain_11 (by decide) ?_
  refine lv_icmp_ne (tgt := 29) hx hb dX5_markPlain_12 (by decide) (fun c_12 => ?_) (fun c_12 => ?_)
  · replace hd := ob_f c_12 hd
    refine lv_iload_n hx hb dX5_markPlain_29 rfl (lv_at hl 0 rfl) ?_
    refine lv_iconst (v := 3) hx hb dX5_markPlain_30 (by decide) ?_
    refine lv_icmp_ne (tgt := 50) hx hb dX5_markPlain_31 (by decide) (fun c_31 => ?_) (fun c_31 => ?_)
    · replace hd := ob_f c_31 hd
      refine lv_aload_n hx hb dX5_markPlain_50 rfl (lv_at hl 1 rfl) ?_
      refine lv_iload_n hx hb dX5_markPlain_51 rfl (lv_at hl 2 rfl) ?_
      obtain ⟨r_2, b_3, hc_52, hd⟩ := ob_s2 hd
      refine ob_Vi (isC := [0, 1, 2, 3, 4, 5, 6, 7, 8, 9, 10, 11, 12, 13]) (isR := []) (is2 := [0, 1, 2, 3, 4, 5, 6, 7, 8, 9, 10, 11, 12, 13]) (wc := (ob_w5 o_b a_b cI cZ b)) (wr := ([] : va_W)) (w1 := (ob_w5 o_b a_b cI cZ b_3)) (w2 := (ob_w5 o_b a_b cI cZ b_3)) (b := o_b) (As := [.int x1]) (rest := []) ⟨hx, hb, hml, hown, hts⟩ (mt_X5_markOath l dC dI cI cZ cR cW xs _ o_b a_b b x1 r_2 b_3 hc_52) (cwV 1 hts gX5_markPlain_X5_markOath rfl rfl rfl (by decide +kernel) ⟨Nat.le_of_ble_eq_true rfl, Nat.le_of_ble_eq_true rfl⟩) hK hE hP hD hS hA ⟨rfl, rfl, rfl, rfl, rfl, rfl, rfl⟩ 5 0 rfl rfl rfl hl rfl rfl (Nat.le_of_ble_eq_true rfl) ⟨Nat.le_of_ble_eq_true rfl, Nat.le_of_ble_eq_true rfl⟩ dX5_markPlain_52 (fun H locs hP hD hS => ?_)
      refine W.widen (k := 0) (n := 0) (Nat.le_refl _) (Nat.le_refl _) ?_
      obtain ⟨e1, e2⟩ := ob_pp hd
      subst e1
      subst e2
      exact ob_iret hx hb hr hlocks hP hD hS dX5_markPlain_55
    · replace hd := ob_t c_31 hd
      refine lv_aload_n hx hb dX5_markPlain_34 rfl (lv_at hl 1 rfl) ?_
      refine lv_bipush (v := 22) hx hb dX5_markPlain_35 (by decide) ?_
      obtain ⟨b_4, hc_37, hd⟩ := ob_s1 hd
      refine ob_Vv (isC := [0, 1, 2, 3, 4, 5, 6, 7, 8, 9, 10, 11, 12, 13]) (isR := []) (is2 := [0, 1, 2, 3, 4, 5, 6, 7, 8, 9, 10, 11, 12, 13]) (wc := (ob_w5 o_b a_b cI cZ b)) (wr := ([] : va_W)) (w1 := (ob_w5 o_b a_b cI cZ b_4)) (w2 := (ob_w5 o_b a_b cI cZ b_4)) (b := o_b) (As := [.int 22]) (rest := []) ⟨hx, hb, hml, hown, hts⟩ (mt_X5_begins l dC dI cI cZ cR cW xs _ o_b a_b b 22 b_4 hc_37) (cwV 1 hts gX5_markPlain_X5_begins rfl rfl rfl (by decide +kernel) ⟨Nat.le_of_ble_eq_true rfl, Nat.le_of_ble_eq_true rfl⟩) hK hE hP hD hS hA ⟨rfl, rfl, rfl, rfl, rfl, rfl, rfl⟩ 5 0 rfl rfl rfl hl rfl rfl (Nat.le_of_ble_eq_true rfl) ⟨Nat.le_of_ble_eq_true rfl, Nat.le_of_ble_eq_true rfl⟩ dX5_markPlain_37 (fun H locs hP hD hS => ?_)
      refine W.widen (k := 0) (n := 0) (Nat.le_refl _) (Nat.le_refl _) ?_
      refine lv_aload_n hx hb dX5_markPlain_40 rfl (lv_at hl 1 rfl) ?_
      refine lv_iload_n hx hb dX5_markPlain_41 rfl (lv_at hl 2 rfl) ?_
      obtain ⟨r_5, b_6, hc_42, hd⟩ := ob_s2 hd
      refine ob_Vi (isC := [0, 1, 2, 3, 4, 5, 6, 7, 8, 9, 10, 11, 12, 13]) (isR := []) (is2 := [0, 1, 2, 3, 4, 5, 6, 7, 8, 9, 10, 11, 12, 13]) (wc := (ob_w5 o_b a_b cI cZ b_4)) (wr := ([] : va_W)) (w1 := (ob_w5 o_b a_b cI cZ b_6)) (w2 := (ob_w5 o_b a_b cI cZ b_6)) (b := o_b) (As := [.int x1]) (rest := []) ⟨hx, hb, hml, hown, hts⟩ (mt_X5_markOath l dC dI cI cZ cR cW xs _ o_b a_b b_4 x1 r_5 b_6 hc_42) (cwV 1 hts gX5_markPlain_X5_markOath rfl rfl rfl (by decide +kernel) ⟨Nat.le_of_ble_eq_true rfl, Nat.le_of_ble_eq_true rfl⟩) hK hE hP hD hS hA ⟨rfl, rfl, rfl, rfl, rfl, rfl, rfl⟩ 5 0 rfl rfl rfl hl rfl rfl (Nat.le_of_ble_eq_true rfl) ⟨Nat.le_of_ble_eq_true rfl, Nat.le_of_ble_eq_true rfl⟩ dX5_markPlain_42 (fun H locs hP hD hS => ?_)
      refine W.widen (k := 0) (n := 0) (Nat.le_refl _) (Nat.le_refl _) ?_
      refine lv_sipush (v := 1000) hx hb dX5_markPlain_45 (by decide) ?_
      refine lv_isub hx hb dX5_markPlain_48 ?_
      obtain ⟨e1, e2⟩ := ob_pp hd
      subst e1
      subst e2
      exact ob_iret hx hb hr hlocks hP hD hS dX5_markPlain_49
  · replace hd := ob_t c_12 hd
    refine lv_aload_n hx hb dX5_markPlain_15 rfl (lv_at hl 1 rfl) ?_
    refine lv_bipush (v := 24) hx hb dX5_markPlain_16 (by decide) ?_
    obtain ⟨b_7, hc_18, hd⟩ := ob_s1 hd
    refine ob_Vv (isC := [0, 1, 2, 3, 4, 5, 6, 7, 8, 9, 10, 11, 12, 13]) (isR := []) (is2 := [0, 1, 2, 3, 4, 5, 6, 7, 8, 9, 10, 11, 12, 13]) (wc := (ob_w5 o_b a_b cI cZ b)) (wr := ([] : va_W)) (w1 := (ob_w5 o_b a_b cI cZ b_7)) (w2 := (ob_w5 o_b a_b cI cZ b_7)) (b := o_b) (As := [.int 24]) (rest := []) ⟨hx, hb, hml, hown, hts⟩ (mt_X5_begins l dC dI cI cZ cR cW xs _ o_b a_b b 24 b_7 hc_18) (cwV 1 hts gX5_markPlain_X5_begins rfl rfl rfl (by decide +kernel) ⟨Nat.le_of_ble_eq_true rfl, Nat.le_of_ble_eq_true rfl⟩) hK hE hP hD hS hA ⟨rfl, rfl, rfl, rfl, rfl, rfl, rfl⟩ 5 0 rfl rfl rfl hl rfl rfl (Nat.le_of_ble_eq_true rfl) ⟨Nat.le_of_ble_eq_true rfl, Nat.le_of_ble_eq_true rfl⟩ dX5_markPlain_18 (fun H locs hP hD hS => ?_)
    refine W.widen (k := 0) (n := 0) (Nat.le_refl _) (Nat.le_refl _) ?_
    refine lv_iconst (v := 2) hx hb dX5_markPlain_21 (by decide) ?_
    refine lv_aload_n hx hb dX5_markPlain_22 rfl (lv_at hl 1 rfl) ?_
    refine lv_iload_n hx hb dX5_markPlain_23 rfl (lv_at hl 2 rfl) ?_
    obtain ⟨r_8, b_9, hc_24, hd⟩ := ob_s2 hd
    refine ob_Vi (isC := [0, 1, 2, 3, 4, 5, 6, 7, 8, 9, 10, 11, 12, 13]) (isR := []) (is2 := [0, 1, 2, 3, 4, 5, 6, 7, 8, 9, 10, 11, 12, 13]) (wc := (ob_w5 o_b a_b cI cZ b_7)) (wr := ([] : va_W)) (w1 := (ob_w5 o_b a_b cI cZ b_9)) (w2 := (ob_w5 o_b a_b cI cZ b_9)) (b := o_b) (As := [.int x1]) (rest := [.int 2]) ⟨hx, hb, hml, hown, hts⟩ (mt_X5_markOath l dC dI cI cZ cR cW xs _ o_b a_b b_7 x1 r_8 b_9 hc_24) (cwV 1 hts gX5_markPlain_X5_markOath rfl rfl rfl (by decide +kernel) ⟨Nat.le_of_ble_eq_true rfl, Nat.le_of_ble_eq_true rfl⟩) hK hE hP hD hS hA ⟨rfl, rfl, rfl, rfl, rfl, rfl, rfl⟩ 5 0 rfl rfl rfl hl rfl rfl (Nat.le_of_ble_eq_true rfl) ⟨Nat.le_of_ble_eq_true rfl, Nat.le_of_ble_eq_true rfl⟩ dX5_markPlain_24 (fun H locs hP hD hS => ?_)
    refine W.widen (k := 0) (n := 0) (Nat.le_refl _) (Nat.le_refl _) ?_
    refine lv_imul hx hb dX5_markPlain_27 ?_
    obtain ⟨e1, e2⟩ := ob_pp hd
    subst e1
    subst e2
    exact ob_iret hx hb hr hlocks hP hD hS dX5_markPlain_28
