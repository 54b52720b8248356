def fd_X4_countRows_L28_7  (b : ob_B) (w0 : ob_B) (w1 : ob_B) (w2 : ob_B) (w3 : ob_B) (w4 : ob_B) (w5 : ob_B) (w6 : ob_B) (w7 : ob_B) (v0 : Int32) (v1 : Int32) : Option (Int32) := ob_lt (v1 + v0 : Int32) (fun x_8 => some (x_8))
def fd_X4_countRows_L28_6  (b : ob_B) (w0 : ob_B) (w1 : ob_B) (w2 : ob_B) (w3 : ob_B) (w4 : ob_B) (w5 : ob_B) (w6 : ob_B) (w7 : ob_B) (v0 : Int32) (v1 : Int32) : Option (Int32) := ob_lt (v1 + v0 : Int32) (fun x_7 => if (w7.1 0) = 0 then (fd_X4_countRows_L28_7 b w0 w1 w2 w3 w4 w5 w6 w7 1 x_7) else (fd_X4_countRows_L28_7 b w0 w1 w2 w3 w4 w5 w6 w7 0 x_7))
def fd_X4_countRows_L28_5  (b : ob_B) (w0 : ob_B) (w1 : ob_B) (w2 : ob_B) (w3 : ob_B) (w4 : ob_B) (w5 : ob_B) (w6 : ob_B) (w7 : ob_B) (v0 : Int32) (v1 : Int32) : Option (Int32) := ob_lt (v1 + v0 : Int32) (fun x_6 => if (w6.1 0) = 0 then (fd_X4_countRows_L28_6 b w0 w1 w2 w3 w4 w5 w6 w7 1 x_6) else (fd_X4_countRows_L28_6 b w0 w1 w2 w3 w4 w5 w6 w7 0 x_6))
def fd_X4_countRows_L28_4  (b : ob_B) (w0 : ob_B) (w1 : ob_B) (w2 : ob_B) (w3 : ob_B) (w4 : ob_B) (w5 : ob_B) (w6 : ob_B) (w7 : ob_B) (v0 : Int32) (v1 : Int32) : Option (Int32) := ob_lt (v1 + v0 : Int32) (fun x_5 => if (w5.1 0) = 0 then (fd_X4_countRows_L28_5 b w0 w1 w2 w3 w4 w5 w6 w7 1 x_5) else (fd_X4_countRows_L28_5 b w0 w1 w2 w3 w4 w5 w6 w7 0 x_5))
def fd_X4_countRows_L28_3  (b : ob_B) (w0 : ob_B) (w1 : ob_B) (w2 : ob_B) (w3 : ob_B) (w4 : ob_B) (w5 : ob_B) (w6 : ob_B) (w7 : ob_B) (v0 : Int32) (v1 : Int32) : Option (Int32) := ob_lt (v1 + v0 : Int32) (fun x_4 => if (w4.1 0) = 0 then (fd_X4_countRows_L28_4 b w0 w1 w2 w3 w4 w5 w6 w7 1 x_4) else (fd_X4_countRows_L28_4 b w0 w1 w2 w3 w4 w5 w6 w7 0 x_4))
def fd_X4_countRows_L28_2  (b : ob_B) (w0 : ob_B) (w1 : ob_B) (w2 : ob_B) (w3 : ob_B) (w4 : ob_B) (w5 : ob_B) (w6 : ob_B) (w7 : ob_B) (v0 : Int32) (v1 : Int32) : Option (Int32) := ob_lt (v1 + v0 : Int32) (fun x_3 => if (w3.1 0) = 0 then (fd_X4_countRows_L28_3 b w0 w1 w2 w3 w4 w5 w6 w7 1 x_3) else (fd_X4_countRows_L28_3 b w0 w1 w2 w3 w4 w5 w6 w7 0 x_3))
def fd_X4_countRows_L28_1  (b : ob_B) (w0 : ob_B) (w1 : ob_B) (w2 : ob_B) (w3 : ob_B) (w4 : ob_B) (w5 : ob_B) (w6 : ob_B) (w7 : ob_B) (v0 : Int32) (v1 : Int32) : Option (Int32) := ob_lt (v1 + v0 : Int32) (fun x_2 => if (w2.1 0) = 0 then (fd_X4_countRows_L28_2 b w0 w1 w2 w3 w4 w5 w6 w7 1 x_2) else (fd_X4_countRows_L28_2 b w0 w1 w2 w3 w4 w5 w6 w7 0 x_2))
def fd_X4_countRows_L28_0  (b : ob_B) (w0 : ob_B) (w1 : ob_B) (w2 : ob_B) (w3 : ob_B) (w4 : ob_B) (w5 : ob_B) (w6 : ob_B) (w7 : ob_B) (v0 : Int32) (v1 : Int32) : Option (Int32) := ob_lt (v1 + v0 : Int32) (fun x_1 => if (w1.1 0) = 0 then (fd_X4_countRows_L28_1 b w0 w1 w2 w3 w4 w5 w6 w7 1 x_1) else (fd_X4_countRows_L28_1 b w0 w1 w2 w3 w4 w5 w6 w7 0 x_1))
def fd_X4_countRows  (b : ob_B) (w0 : ob_B) (w1 : ob_B) (w2 : ob_B) (w3 : ob_B) (w4 : ob_B) (w5 : ob_B) (w6 : ob_B) (w7 : ob_B)  : Option (Int32) := if (w0.1 0) = 0 then (fd_X4_countRows_L28_0 b w0 w1 w2 w3 w4 w5 w6 w7 1 0) else (fd_X4_countRows_L28_0 b w0 w1 w2 w3 w4 w5 w6 w7 0 0)
set_option maxHeartbeats 4000000 in
set_option maxRecDepth 100000 in
theorem mt_X4_countRows (l : Launch) (dC : Nat → ClassId) (dI : Nat → Nat → Nat) (cI cZ cR cW : ClassId) (xs : Nat → Nat) (sz : Nat) (o_b : Nat) (a_b : Nat → Nat) (g_g : Nat → Option Nat) (o_w0 : Nat) (a_w0 : Nat → Nat) (o_w1 : Nat) (a_w1 : Nat → Nat) (o_w2 : Nat) (a_w2 : Nat → Nat) (o_w3 : Nat) (a_w3 : Nat → Nat) (o_w4 : Nat) (a_w4 : Nat → Nat) (o_w5 : Nat) (a_w5 : Nat → Nat) (o_w6 : Nat) (a_w6 : Nat → Nat) (o_w7 : Nat) (a_w7 : Nat → Nat) (b : ob_B) (w0 : ob_B) (w1 : ob_B) (w2 : ob_B) (w3 : ob_B) (w4 : ob_B) (w5 : ob_B) (w6 : ob_B) (w7 : ob_B)  (hg0 : g_g (Int32.toNatClampNeg 0) = some o_w0) (hg1 : g_g (Int32.toNatClampNeg 1) = some o_w1) (hg2 : g_g (Int32.toNatClampNeg 2) = some o_w2) (hg3 : g_g (Int32.toNatClampNeg 3) = some o_w3) (hg4 : g_g (Int32.toNatClampNeg 4) = some o_w4) (hg5 : g_g (Int32.toNatClampNeg 5) = some o_w5) (hg6 : g_g (Int32.toNatClampNeg 6) = some o_w6) (hg7 : g_g (Int32.toNatClampNeg 7) = some o_w7) (rr : Int32) (hd : fd_X4_countRows b w0 w1 w2 w3 w4 w5 w6 w7 = some (rr)) : ob_M l yX4_countRows wsX4_countRows ({ frames := 0, cells := 0, slots := 0, locals := 0 } : Room) (dC, dI) (ob_ty cI cZ cR cW) xs [.ref o_b] (ob_w4 o_b a_b cI b ++ ob_wr (a_b 0) cW 8 g_g ++ ob_w2 o_w0 a_w0 cI w0 ++ ob_w2 o_w1 a_w1 cI w1 ++ ob_w2 o_w2 a_w2 cI w2 ++ ob_w2 o_w3 a_w3 cI w3 ++ ob_w2 o_w4 a_w4 cI w4 ++ ob_w2 o_w5 a_w5 cI w5 ++ ob_w2 o_w6 a_w6 cI w6 ++ ob_w2 o_w7 a_w7 cI w7) sz (ob_Qi (dC, dI) rr (ob_w4 o_b a_b cI b ++ ob_wr (a_b 0) cW 8 g_g ++ ob_w2 o_w0 a_w0 cI w0 ++ ob_w2 o_w1 a_w1 cI w1 ++ ob_w2 o_w2 a_w2 cI w2 ++ ob_w2 o_w3 a_w3 cI w3 ++ ob_w2 o_w4 a_w4 cI w4 ++ ob_w2 o_w5 a_w5 cI w5 ++ ob_w2 o_w6 a_w6 cI w6 ++ ob_w2 o_w7 a_w7 cI w7)) := by
  rw [fd_X4_countRows] at hd
  refine ob_in (cc := cX4_countRows) (maxL := 3) (ret := (some .int)) (own := RX4) (by decide) rfl rfl [(0, .ref o_b)] rfl (Nat.le_of_ble_eq_true rfl) ?_
  intro p e s m below meth c hx hb hr hml hown hts hlocks hnm hK A hA hE hP hD hS ls hl
  have kw0 := hts (.fieldLink RX4 11 "OathCoach" "rows" "[LOathCoach$Row;") (by decide +kernel)
  have kw1 := hts (.fieldLink RX4 82 "OathCoach$Row" "missing" "Z") (by decide +kernel)
  have hi_X2 : ∀ w ∈ u_ws RX2 TX2 4, w ∈ wsX4_countRows := by decide +kernel
  have hi_X4 : ∀ w ∈ u_ws RX4 TX4 10, w ∈ wsX4_countRows := by decide +kernel
  have L28_7 : ∀ (H : Heap) (locs : List Loc)   (v0 : Int32) (v1 : Int32) (ls : Array Slot), va_P (dC, dI) vwCl (ob_w4 o_b a_b cI b ++ ob_wr (a_b 0) cW 8 g_g ++ ob_w2 o_w0 a_w0 cI w0 ++ ob_w2 o_w1 a_w1 cI w1 ++ ob_w2 o_w2 a_w2 cI w2 ++ ob_w2 o_w3 a_w3 cI w3 ++ ob_w2 o_w4 a_w4 cI w4 ++ ob_w2 o_w5 a_w5 cI w5 ++ ob_w2 o_w6 a_w6 cI w6 ++ ob_w2 o_w7 a_w7 cI w7) H → va_D A (ob_w4 o_b a_b cI b ++ ob_wr (a_b 0) cW 8 g_g ++ ob_w2 o_w0 a_w0 cI w0 ++ ob_w2 o_w1 a_w1 cI w1 ++ ob_w2 o_w2 a_w2 cI w2 ++ ob_w2 o_w3 a_w3 cI w3 ++ ob_w2 o_w4 a_w4 cI w4 ++ ob_w2 o_w5 a_w5 cI w5 ++ ob_w2 o_w6 a_w6 cI w6 ++ ob_w2 o_w7 a_w7 cI w7) → va_S A s.heap H locs → lv_has ls 3 [(0, .ref o_b), (2, .int 7)] → fd_X4_countRows_L28_7 b w0 w1 w2 w3 w4 w5 w6 w7 v0 v1 = some (rr) → W p l e ({ frames := 0, cells := 0, slots := 0, locals := 0 } : Room) s m (List.toArray [.ref o_b]) below meth c H locs 0 0 (MQ below ((ob_Qi (dC, dI) rr (ob_w4 o_b a_b cI b ++ ob_wr (a_b 0) cW 8 g_g ++ ob_w2 o_w0 a_w0 cI w0 ++ ob_w2 o_w1 a_w1 cI w1 ++ ob_w2 o_w2 a_w2 cI w2 ++ ob_w2 o_w3 a_w3 cI w3 ++ ob_w2 o_w4 a_w4 cI w4 ++ ob_w2 o_w5 a_w5 cI w5 ++ ob_w2 o_w6 a_w6 cI w6 ++ ob_w2 o_w7 a_w7 cI w7)) A) (List.toArray [.ref o_b]) s 0 0 A) (F0 m 28 ls [.int v0, .int v1]) := by
    intro  H locs v0 v1 ls hP hD hS hl hd
    rw [fd_X4_countRows_L28_7] at hd
    refine lv_iadd hx hb dX4_countRows_28 ?_
    refine lv_topi (fun x_8 ex_8 => ?_)
    replace hd := ob_lx ex_8 hd
    clear ex_8
    refine lv_istore_n (lv' := [(1, .int x_8), (0, .ref o_b), (2, .int 7)]) hx hb dX4_countRows_29 rfl hl (by decide) rfl (fun ls hl => ?_)
    refine lv_iinc (v := 8) (lv' := [(2, .int 8), (1, .int x_8), (0, .ref o_b)]) hx hb dX4_countRows_30 hl (k := 2) rfl (by decide) (by decide) rfl (fun ls hl => ?_)
    refine lv_goto (tgt := 4) hx hb dX4_countRows_33 (by decide) ?_
    refine lv_iload_n hx hb dX4_countRows_4 rfl (lv_at hl 0 rfl) ?_
    refine lv_bipush (v := 8) hx hb dX4_countRows_5 (by decide) ?_
    refine lv_icmp_ge (tgt := 36) hx hb dX4_countRows_7 (by decide) (fun _ => ?_) (fun hc => absurd hc (by decide))
    refine lv_iload_n hx hb dX4_countRows_36 rfl (lv_at hl 1 rfl) ?_
    have e1 := Option.some.inj hd
    subst e1
    exact ob_iret hx hb hr hlocks hP hD hS dX4_countRows_37
  have L28_6 : ∀ (H : Heap) (locs : List Loc)   (v0 : Int32) (v1 : Int32) (ls : Array Slot), va_P (dC, dI) vwCl (ob_w4 o_b a_b cI b ++ ob_wr (a_b 0) cW 8 g_g ++ ob_w2 o_w0 a_w0 cI w0 ++ ob_w2 o_w1 a_w1 cI w1 ++ ob_w2 o_w2 a_w2 cI w2 ++ ob_w2 o_w3 a_w3 cI w3 ++ ob_w2 o_w4 a_w4 cI w4 ++ ob_w2 o_w5 a_w5 cI w5 ++ ob_w2 o_w6 a_w6 cI w6 ++ ob_w2 o_w7 a_w7 cI w7) H → va_D A (ob_w4 o_b a_b cI b ++ ob_wr (a_b 0) cW 8 g_g ++ ob_w2 o_w0 a_w0 cI w0 ++ ob_w2 o_w1 a_w1 cI w1 ++ ob_w2 o_w2 a_w2 cI w2 ++ ob_w2 o_w3 a_w3 cI w3 ++ ob_w2 o_w4 a_w4 cI w4 ++ ob_w2 o_w5 a_w5 cI w5 ++ ob_w2 o_w6 a_w6 cI w6 ++ ob_w2 o_w7 a_w7 cI w7) → va_S A s.heap H locs → lv_has ls 3 [(0, .ref o_b), (2, .int 6)] → fd_X4_countRows_L28_6 b w0 w1 w2 w3 w4 w5 w6 w7 v0 v1 = some (rr) → W p l e ({ frames := 0, cells := 0, slots := 0, locals := 0 } : Room) s m (List.toArray [.ref o_b]) below meth c H locs 0 0 (MQ below ((ob_Qi (dC, dI) rr (ob_w4 o_b a_b cI b ++ ob_wr (a_b 0) cW 8 g_g ++ ob_w2 o_w0 a_w0 cI w0 ++ ob_w2 o_w1 a_w1 cI w1 ++ ob_w2 o_w2 a_w2 cI w2 ++ ob_w2 o_w3 a_w3 cI w3 ++ ob_w2 o_w4 a_w4 cI w4 ++ ob_w2 o_w5 a_w5 cI w5 ++ ob_w2 o_w6 a_w6 cI w6 ++ ob_w2 o_w7 a_w7 cI w7)) A) (List.toArray [.ref o_b]) s 0 0 A) (F0 m 28 ls [.int v0, .int v1]) := by
    intro  H locs v0 v1 ls hP hD hS hl hd
    rw [fd_X4_countRows_L28_6] at hd
    refine lv_iadd hx hb dX4_countRows_28 ?_
    refine lv_topi (fun x_7 ex_7 => ?_)
    replace hd := ob_lx ex_7 hd
    clear ex_7
    refine lv_istore_n (lv' := [(1, .int x_7), (0, .ref o_b), (2, .int 6)]) hx hb dX4_countRows_29 rfl hl (by decide) rfl (fun ls hl => ?_)
    refine lv_iinc (v := 7) (lv' := [(2, .int 7), (1, .int x_7), (0, .ref o_b)]) hx hb dX4_countRows_30 hl (k := 2) rfl (by decide) (by decide) rfl (fun ls hl => ?_)
    refine lv_goto (tgt := 4) hx hb dX4_countRows_33 (by decide) ?_
    refine lv_iload_n hx hb dX4_countRows_4 rfl (lv_at hl 0 rfl) ?_
    refine lv_bipush (v := 8) hx hb dX4_countRows_5 (by decide) ?_
    refine lv_icmp_ge (tgt := 36) hx hb dX4_countRows_7 (by decide) (fun hc => absurd hc (by decide)) (fun _ => ?_)
    refine lv_iload_n hx hb dX4_countRows_10 rfl (lv_at hl 1 rfl) ?_
    refine lv_aload_n hx hb dX4_countRows_11 rfl (lv_at hl 2 rfl) ?_
    refine va_get (D := (dC, dI)) (ci := 4) (v := .ref (a_b 0)) (C := RX4) (T := TX4) (N := 10) hx hb hts hi_X4 hown hK hP 0 rfl rfl 0 (by decide) kw0 (fun _ h9 => h9) rfl dX4_countRows_12 ?_
    refine lv_iload_n hx hb dX4_countRows_15 rfl (lv_at hl 0 rfl) ?_
    refine va_aldq hx hb hK hP 2 3 rfl rfl (by unfold vp_in; decide) dX4_countRows_16 ?_
    refine ob_rf hg7 ?_
    refine va_get (D := (dC, dI)) (ci := 2) (v := .int (w7.1 0)) (C := RX2) (T := TX2) (N := 4) hx hb hts hi_X2 hown hK hP 17 rfl rfl 0 (by decide) kw1 (fun _ h9 => h9) rfl dX4_countRows_17 ?_
    refine lv_if_eq (tgt := 27) hx hb dX4_countRows_20 (by decide) (fun c_20 => ?_) (fun c_20 => ?_)
    · replace hd := ob_t c_20 hd
      refine lv_iconst (v := 1) hx hb dX4_countRows_27 (by decide) ?_
      exact L28_7   _ _  1 x_7 _ hP hD hS (lv_sub hl [2, 0] rfl) hd
    · replace hd := ob_f c_20 hd
      refine lv_iconst (v := 0) hx hb dX4_countRows_23 (by decide) ?_
      refine lv_goto (tgt := 28) hx hb dX4_countRows_24 (by decide) ?_
      exact L28_7   _ _  0 x_7 _ hP hD hS (lv_sub hl [2, 0] rfl) hd
  have L28_5 : ∀ (H : Heap) (locs : List Loc)   (v0 : Int32) (v1 : Int32) (ls : Array Slot), va_P (dC, dI) vwCl (ob_w4 o_b a_b cI b ++ ob_wr (a_b 0) cW 8 g_g ++ ob_w2 o_w0 a_w0 cI w0 ++ ob_w2 o_w1 a_w1 cI w1 ++ ob_w2 o_w2 a_w2 cI w2 ++ ob_w2 o_w3 a_w3 cI w3 ++ ob_w2 o_w4 a_w4 cI w4 ++ ob_w2 o_w5 a_w5 cI w5 ++ ob_w2 o_w6 a_w6 cI w6 ++ ob_w2 o_w7 a_w7 cI w7) H → va_D A (ob_w4 o_b a_b cI b ++ ob_wr (a_b 0) cW 8 g_g ++ ob_w2 o_w0 a_w0 cI w0 ++ ob_w2 o_w1 a_w1 cI w1 ++ ob_w2 o_w2 a_w2 cI w2 ++ ob_w2 o_w3 a_w3 cI w3 ++ ob_w2 o_w4 a_w4 cI w4 ++ ob_w2 o_w5 a_w5 cI w5 ++ ob_w2 o_w6 a_w6 cI w6 ++ ob_w2 o_w7 a_w7 cI w7) → va_S A s.heap H locs → lv_has ls 3 [(0, .ref o_b), (2, .int 5)] → fd_X4_countRows_L28_5 b w0 w1 w2 w3 w4 w5 w6 w7 v0 v1 = some (rr) → W p l e ({ frames := 0, cells := 0, slots := 0, locals := 0 } : Room) s m (List.toArray [.ref o_b]) below meth c H locs 0 0 (MQ below ((ob_Qi (dC, dI) rr (ob_w4 o_b a_b cI b ++ ob_wr (a_b 0) cW 8 g_g ++ ob_w2 o_w0 a_w0 cI w0 ++ ob_w2 o_w1 a_w1 cI w1 ++ ob_w2 o_w2 a_w2 cI w2 ++ ob_w2 o_w3 a_w3 cI w3 ++ ob_w2 o_w4 a_w4 cI w4 ++ ob_w2 o_w5 a_w5 cI w5 ++ ob_w2 o_w6 a_w6 cI w6 ++ ob_w2 o_w7 a_w7 cI w7)) A) (List.toArray [.ref o_b]) s 0 0 A) (F0 m 28 ls [.int v0, .int v1]) := by
    intro  H locs v0 v1 ls hP hD hS hl hd
    rw [fd_X4_countRows_L28_5] at hd
    refine lv_iadd hx hb dX4_countRows_28 ?_
    refine lv_topi (fun x_6 ex_6 => ?_)
    replace hd := ob_lx ex_6 hd
    clear ex_6
    refine lv_istore_n (lv' := [(1, .int x_6), (0, .ref o_b), (2, .int 5)]) hx hb dX4_countRows_29 rfl hl (by decide) rfl (fun ls hl => ?_)
    refine lv_iinc (v := 6) (lv' := [(2, .int 6), (1, .int x_6), (0, .ref o_b)]) hx hb dX4_countRows_30 hl (k := 2) rfl (by decide) (by decide) rfl (fun ls hl => ?_)
    refine lv_goto (tgt := 4) hx hb dX4_countRows_33 (by decide) ?_
    refine lv_iload_n hx hb dX4_countRows_4 rfl (lv_at hl 0 rfl) ?_
    refine lv_bipush (v := 8) hx hb dX4_countRows_5 (by decide) ?_
    refine lv_icmp_ge (tgt := 36) hx hb dX4_countRows_7 (by decide) (fun hc => absurd hc (by decide)) (fun _ => ?_)
    refine lv_iload_n hx hb dX4_countRows_10 rfl (lv_at hl 1 rfl) ?_
    refine lv_aload_n hx hb dX4_countRows_11 rfl (lv_at hl 2 rfl) ?_
    refine va_get (D := (dC, dI)) (ci := 4) (v := .ref (a_b 0)) (C := RX4) (T := TX4) (N := 10) hx hb hts hi_X4 hown hK hP 0 rfl rfl 0 (by decide) kw0 (fun _ h9 => h9) rfl dX4_countRows_12 ?_
    refine lv_iload_n hx hb dX4_countRows_15 rfl (lv_at hl 0 rfl) ?_
    refine va_aldq hx hb hK hP 2 3 rfl rfl (by unfold vp_in; decide) dX4_countRows_16 ?_
    refine ob_rf hg6 ?_
    refine va_get (D := (dC, dI)) (ci := 2) (v := .int (w6.1 0)) (C := RX2) (T := TX2) (N := 4) hx hb hts hi_X2 hown hK hP 15 rfl rfl 0 (by decide) kw1 (fun _ h9 => h9) rfl dX4_countRows_17 ?_
    refine lv_if_eq (tgt := 27) hx hb dX4_countRows_20 (by decide) (fun c_20 => ?_) (fun c_20 => ?_)
    · replace hd := ob_t c_20 hd
      refine lv_iconst (v := 1) hx hb dX4_countRows_27 (by decide) ?_
      exact L28_6   _ _  1 x_6 _ hP hD hS (lv_sub hl [2, 0] rfl) hd
    · replace hd := ob_f c_20 hd
      refine lv_iconst (v := 0) hx hb dX4_countRows_23 (by decide) ?_
      refine lv_goto (tgt := 28) hx hb dX4_countRows_24 (by decide) ?_
      exact L28_6   _ _  0 x_6 _ hP hD hS (lv_sub hl [2, 0] rfl) hd
  have L28_4 : ∀ (H : Heap) (locs : List Loc)   (v0 : Int32) (v1 : Int32) (ls : Array Slot), va_P (dC, dI) vwCl (ob_w4 o_b a_b cI b ++ ob_wr (a_b 0) cW 8 g_g ++ ob_w2 o_w0 a_w0 cI w0 ++ ob_w2 o_w1 a_w1 cI w1 ++ ob_w2 o_w2 a_w2 cI w2 ++ ob_w2 o_w3 a_w3 cI w3 ++ ob_w2 o_w4 a_w4 cI w4 ++ ob_w2 o_w5 a_w5 cI w5 ++ ob_w2 o_w6 a_w6 cI w6 ++ ob_w2 o_w7 a_w7 cI w7) H → va_D A (ob_w4 o_b a_b cI b ++ ob_wr (a_b 0) cW 8 g_g ++ ob_w2 o_w0 a_w0 cI w0 ++ ob_w2 o_w1 a_w1 cI w1 ++ ob_w2 o_w2 a_w2 cI w2 ++ ob_w2 o_w3 a_w3 cI w3 ++ ob_w2 o_w4 a_w4 cI w4 ++ ob_w2 o_w5 a_w5 cI w5 ++ ob_w2 o_w6 a_w6 cI w6 ++ ob_w2 o_w7 a_w7 cI w7) → va_S A s.heap H locs → lv_has ls 3 [(0, .ref o_b), (2, .int 4)] → fd_X4_countRows_L28_4 b w0 w1 w2 w3 w4 w5 w6 w7 v0 v1 = some (rr) → W p l e ({ frames := 0, cells := 0, slots := 0, locals := 0 } : Room) s m (List.toArray [.ref o_b]) below meth c H locs 0 0 (MQ below ((ob_Qi (dC, dI) rr (ob_w4 o_b a_b cI b ++ ob_wr (a_b 0) cW 8 g_g ++ ob_w2 o_w0 a_w0 cI w0 ++ ob_w2 o_w1 a_w1 cI w1 ++ ob_w2 o_w2 a_w2 cI w2 ++ ob_w2 o_w3 a_w3 cI w3 ++ ob_w2 o_w4 a_w4 cI w4 ++ ob_w2 o_w5 a_w5 cI w5 ++ ob_w2 o_w6 a_w6 cI w6 ++ ob_w2 o_w7 a_w7 cI w7)) A) (List.toArray [.ref o_b]) s 0 0 A) (F0 m 28 ls [.int v0, .int v1]) := by
    intro  H locs v0 v1 ls hP hD hS hl hd
    rw [fd_X4_countRows_L28_4] at hd
    refine lv_iadd hx hb dX4_countRows_28 ?_
    refine lv_topi (fun x_5 ex_5 => ?_)
    replace hd := ob_lx ex_5 hd
    clear ex_5
    refine lv_istore_n (lv' := [(1, .int x_5), (0, .ref o_b), (2, .int 4)]) hx hb dX4_countRows_29 rfl hl (by decide) rfl (fun ls hl => ?_)
    refine lv_iinc (v := 5) (lv' := [(2, .int 5), (1, .int x_5), (0, .ref o_b)]) hx hb dX4_countRows_30 hl (k := 2) rfl (by decide) (by decide) rfl (fun ls hl => ?_)
    refine lv_goto (tgt := 4) hx hb dX4_countRows_33 (by decide) ?_
    refine lv_iload_n hx hb dX4_countRows_4 rfl (lv_at hl 0 rfl) ?_
    refine lv_bipush (v := 8) hx hb dX4_countRows_5 (by decide) ?_
    refine lv_icmp_ge (tgt := 36) hx hb dX4_countRows_7 (by decide) (fun hc => absurd hc (by decide)) (fun _ => ?_)
    refine lv_iload_n hx hb dX4_countRows_10 rfl (lv_at hl 1 rfl) ?_
    refine lv_aload_n hx hb dX4_countRows_11 rfl (lv_at hl 2 rfl) ?_
    refine va_get (D := (dC, dI)) (ci := 4) (v := .ref (a_b 0)) (C := RX4) (T := TX4) (N := 10) hx hb hts hi_X4 hown hK hP 0 rfl rfl 0 (by decide) kw0 (fun _ h9 => h9) rfl dX4_countRows_12 ?_
    refine lv_iload_n hx hb dX4_countRows_15 rfl (lv_at hl 0 rfl) ?_
    refine va_aldq hx hb hK hP 2 3 rfl rfl (by unfold vp_in; decide) dX4_countRows_16 ?_
    refine ob_rf hg5 ?_
    refine va_get (D := (dC, dI)) (ci := 2) (v := .int (w5.1 0)) (C := RX2) (T := TX2) (N := 4) hx hb hts hi_X2 hown hK hP 13 rfl rfl 0 (by decide) kw1 (fun _ h9 => h9) rfl dX4_countRows_17 ?_
    refine lv_if_eq (tgt := 27) hx hb dX4_countRows_20 (by decide) (fun c_20 => ?_) (fun c_20 => ?_)
    · replace hd := ob_t c_20 hd
      refine lv_iconst (v := 1) hx hb dX4_countRows_27 (by decide) ?_
      exact L28_5   _ _  1 x_5 _ hP hD hS (lv_sub hl [2, 0] rfl) hd
    · replace hd := ob_f c_20 hd
      refine lv_iconst (v := 0) hx hb dX4_countRows_23 (by decide) ?_
      refine lv_goto (tgt := 28) hx hb dX4_countRows_24 (by decide) ?_
      exact L28_5   _ _  0 x_5 _ hP hD hS (lv_sub hl [2, 0] rfl) hd
  have L28_3 : ∀ (H : Heap) (locs : List Loc)   (v0 : Int32) (v1 : Int32) (ls : Array Slot), va_P (dC, dI) vwCl (ob_w4 o_b a_b cI b ++ ob_wr (a_b 0) cW 8 g_g ++ ob_w2 o_w0 a_w0 cI w0 ++ ob_w2 o_w1 a_w1 cI w1 ++ ob_w2 o_w2 a_w2 cI w2 ++ ob_w2 o_w3 a_w3 cI w3 ++ ob_w2 o_w4 a_w4 cI w4 ++ ob_w2 o_w5 a_w5 cI w5 ++ ob_w2 o_w6 a_w6 cI w6 ++ ob_w2 o_w7 a_w7 cI w7) H → va_D A (ob_w4 o_b a_b cI b ++ ob_wr (a_b 0) cW 8 g_g ++ ob_w2 o_w0 a_w0 cI w0 ++ ob_w2 o_w1 a_w1 cI w1 ++ ob_w2 o_w2 a_w2 cI w2 ++ ob_w2 o_w3 a_w3 cI w3 ++ ob_w2 o_w4 a_w4 cI w4 ++ ob_w2 o_w5 a_w5 cI w5 ++ ob_w2 o_w6 a_w6 cI w6 ++ ob_w2 o_w7 a_w7 cI w7) → va_S A s.heap H locs → lv_has ls 3 [(0, .ref o_b), (2, .int 3)] → fd_X4_countRows_L28_3 b w0 w1 w2 w3 w4 w5 w6 w7 v0 v1 = some (rr) → W p l e ({ frames := 0, cells := 0, slots := 0, locals := 0 } : Room) s m (List.toArray [.ref o_b]) below meth c H locs 0 0 (MQ below ((ob_Qi (dC, dI) rr (ob_w4 o_b a_b cI b ++ ob_wr (a_b 0) cW 8 g_g ++ ob_w2 o_w0 a_w0 cI w0 ++ ob_w2 o_w1 a_w1 cI w1 ++ ob_w2 o_w2 a_w2 cI w2 ++ ob_w2 o_w3 a_w3 cI w3 ++ ob_w2 o_w4 a_w4 cI w4 ++ ob_w2 o_w5 a_w5 cI w5 ++ ob_w2 o_w6 a_w6 cI w6 ++ ob_w2 o_w7 a_w7 cI w7)) A) (List.toArray [.ref o_b]) s 0 0 A) (F0 m 28 ls [.int v0, .int v1]) := by
    intro  H locs v0 v1 ls hP hD hS hl hd
    rw [fd_X4_countRows_L28_3] at hd
    refine lv_iadd hx hb dX4_countRows_28 ?_
    refine lv_topi (fun x_4 ex_4 => ?_)
    replace hd := ob_lx ex_4 hd
    clear ex_4
    refine lv_istore_n (lv' := [(1, .int x_4), (0, .ref o_b), (2, .int 3)]) hx hb dX4_countRows_29 rfl hl (by decide) rfl (fun ls hl => ?_)
    refine lv_iinc (v := 4) (lv' := [(2, .int 4), (1, .int x_4), (0, .ref o_b)]) hx hb dX4_countRows_30 hl (k := 2) rfl (by decide) (by decide) rfl (fun ls hl => ?_)
    refine lv_goto (tgt := 4) hx hb dX4_countRows_33 (by decide) ?_
    refine lv_iload_n hx hb dX4_countRows_4 rfl (lv_at hl 0 rfl) ?_
    refine lv_bipush (v := 8) hx hb dX4_countRows_5 (by decide) ?_
    refine lv_icmp_ge (tgt := 36) hx hb dX4_countRows_7 (by decide) (fun hc => absurd hc (by decide)) (fun _ => ?_)
    refine lv_iload_n hx hb dX4_countRows_10 rfl (lv_at hl 1 rfl) ?_
    refine lv_aload_n hx hb dX4_countRows_11 rfl (lv_at hl 2 rfl) ?_
    refine va_get (D := (dC, dI)) (ci := 4) (v := .ref (a_b 0)) (C := RX4) (T := TX4) (N := 10) hx hb hts hi_X4 hown hK hP 0 rfl rfl 0 (by decide) kw0 (fun _ h9 => h9) rfl dX4_countRows_12 ?_
    refine lv_iload_n hx hb dX4_countRows_15 rfl (lv_at hl 0 rfl) ?_
    refine va_aldq hx hb hK hP 2 3 rfl rfl (by unfold vp_in; decide) dX4_countRows_16 ?_
    refine ob_rf hg4 ?_
    refine va_get (D := (dC, dI)) (ci := 2) (v := .int (w4.1 0)) (C := RX2) (T := TX2) (N := 4) hx hb hts hi_X2 hown hK hP 11 rfl rfl 0 (by decide) kw1 (fun _ h9 => h9) rfl dX4_countRows_17 ?_
    refine lv_if_eq (tgt := 27) hx hb dX4_countRows_20 (by decide) (fun c_20 => ?_) (fun c_20 => ?_)
    · replace hd := ob_t c_20 hd
      refine lv_iconst (v := 1) hx hb dX4_countRows_27 (by decide) ?_
      exact L28_4   _ _  1 x_4 _ hP hD hS (lv_sub hl [2, 0] rfl) hd
    · replace hd := ob_f c_20 hd
      refine lv_iconst (v := 0) hx hb dX4_countRows_23 (by decide) ?_
      refine lv_goto (tgt := 28) hx hb dX4_countRows_24 (by decide) ?_
      exact L28_4   _ _  0 x_4 _ hP hD hS (lv_sub hl [2, 0] rfl) hd
  have L28_2 : ∀ (H : Heap) (locs : List Loc)   (v0 : Int32) (v1 : Int32) (ls : Array Slot), va_P (dC, dI) vwCl (ob_w4 o_b a_b cI b ++ ob_wr (a_b 0) cW 8 g_g ++ ob_w2 o_w0 a_w0 cI w0 ++ ob_w2 o_w1 a_w1 cI w1 ++ ob_w2 o_w2 a_w2 cI w2 ++ ob_w2 o_w3 a_w3 cI w3 ++ ob_w2 o_w4 a_w4 cI w4 ++ ob_w2 o_w5 a_w5 cI w5 ++ ob_w2 o_w6 a_w6 cI w6 ++ ob_w2 o_w7 a_w7 cI w7) H → va_D A (ob_w4 o_b a_b cI b ++ ob_wr (a_b 0) cW 8 g_g ++ ob_w2 o_w0 a_w0 cI w0 ++ ob_w2 o_w1 a_w1 cI w1 ++ ob_w2 o_w2 a_w2 cI w2 ++ ob_w2 o_w3 a_w3 cI w3 ++ ob_w2 o_w4 a_w4 cI w4 ++ ob_w2 o_w5 a_w5 cI w5 ++ ob_w2 o_w6 a_w6 cI w6 ++ ob_w2 o_w7 a_w7 cI w7) → va_S A s.heap H locs → lv_has ls 3 [(0, .ref o_b), (2, .int 2)] → fd_X4_countRows_L28_2 b w0 w1 w2 w3 w4 w5 w6 w7 v0 v1 = some (rr) → W p l e ({ frames := 0, cells := 0, slots := 0, locals := 0 } : Room) s m (List.toArray [.ref o_b]) below meth c H locs 0 0 (MQ below ((ob_Qi (dC, dI) rr (ob_w4 o_b a_b cI b ++ ob_wr (a_b 0) cW 8 g_g ++ ob_w2 o_w0 a_w0 cI w0 ++ ob_w2 o_w1 a_w1 cI w1 ++ ob_w2 o_w2 a_w2 cI w2 ++ ob_w2 o_w3 a_w3 cI w3 ++ ob_w2 o_w4 a_w4 cI w4 ++ ob_w2 o_w5 a_w5 cI w5 ++ ob_w2 o_w6 a_w6 cI w6 ++ ob_w2 o_w7 a_w7 cI w7)) A) (List.toArray [.ref o_b]) s 0 0 A) (F0 m 28 ls [.int v0, .int v1]) := by
    intro  H locs v0 v1 ls hP hD hS hl hd
    rw [fd_X4_countRows_L28_2] at hd
    refine lv_iadd hx hb dX4_countRows_28 ?_
    refine lv_topi (fun x_3 ex_3 => ?_)
    replace hd := ob_lx ex_3 hd
    clear ex_3
    refine lv_istore_n (lv' := [(1, .int x_3), (0, .ref o_b), (2, .int 2)]) hx hb dX4_countRows_29 rfl hl (by decide) rfl (fun ls hl => ?_)
    refine lv_iinc (v := 3) (lv' := [(2, .int 3), (1, .int x_3), (0, .ref o_b)]) hx hb dX4_countRows_30 hl (k := 2) rfl (by decide) (by decide) rfl (fun ls hl => ?_)
    refine lv_goto (tgt := 4) hx hb dX4_countRows_33 (by decide) ?_
    refine lv_iload_n hx hb dX4_countRows_4 rfl (lv_at hl 0 rfl) ?_
    refine lv_bipush (v := 8) hx hb dX4_countRows_5 (by decide) ?_
    refine lv_icmp_ge (tgt := 36) hx hb dX4_countRows_7 (by decide) (fun hc => absurd hc (by decide)) (fun _ => ?_)
    refine lv_iload_n hx hb dX4_countRows_10 rfl (lv_at hl 1 rfl) ?_
    refine lv_aload_n hx hb dX4_countRows_11 rfl (lv_at hl 2 rfl) ?_
    refine va_get (D := (dC, dI)) (ci := 4) (v := .ref (a_b 0)) (C := RX4) (T := TX4) (N := 10) hx hb hts hi_X4 hown hK hP 0 rfl rfl 0 (by decide) kw0 (fun _ h9 => h9) rfl dX4_countRows_12 ?_
    refine lv_iload_n hx hb dX4_countRows_15 rfl (lv_at hl 0 rfl) ?_
    refine va_aldq hx hb hK hP 2 3 rfl rfl (by unfold vp_in; decide) dX4_countRows_16 ?_
    refine ob_rf hg3 ?_
    refine va_get (D := (dC, dI)) (ci := 2) (v := .int (w3.1 0)) (C := RX2) (T := TX2) (N := 4) hx hb hts hi_X2 hown hK hP 9 rfl rfl 0 (by decide) kw1 (fun _ h9 => h9) rfl dX4_countRows_17 ?_
    refine lv_if_eq (tgt := 27) hx hb dX4_countRows_20 (by decide) (fun c_20 => ?_) (fun c_20 => ?_)
    · replace hd := ob_t c_20 hd
      refine lv_iconst (v := 1) hx hb dX4_countRows_27 (by decide) ?_
      exact L28_3   _ _  1 x_3 _ hP hD hS (lv_sub hl [2, 0] rfl) hd
    · replace hd := ob_f c_20 hd
      refine lv_iconst (v := 0) hx hb dX4_countRows_23 (by decide) ?_
      refine lv_goto (tgt := 28) hx hb dX4_countRows_24 (by decide) ?_
      exact L28_3   _ _  0 x_3 _ hP hD hS (lv_sub hl [2, 0] rfl) hd
  have L28_1 : ∀ (H : Heap) (locs : List Loc)   (v0 : Int32) (v1 : Int32) (ls : Array Slot), va_P (dC, dI) vwCl (ob_w4 o_b a_b cI b ++ ob_wr (a_b 0) cW 8 g_g ++ ob_w2 o_w0 a_w0 cI w0 ++ ob_w2 o_w1 a_w1 cI w1 ++ ob_w2 o_w2 a_w2 cI w2 ++ ob_w2 o_w3 a_w3 cI w3 ++ ob_w2 o_w4 a_w4 cI w4 ++ ob_w2 o_w5 a_w5 cI w5 ++ ob_w2 o_w6 a_w6 cI w6 ++ ob_w2 o_w7 a_w7 cI w7) H → va_D A (ob_w4 o_b a_b cI b ++ ob_wr (a_b 0) cW 8 g_g ++ ob_w2 o_w0 a_w0 cI w0 ++ ob_w2 o_w1 a_w1 cI w1 ++ ob_w2 o_w2 a_w2 cI w2 ++ ob_w2 o_w3 a_w3 cI w3 ++ ob_w2 o_w4 a_w4 cI w4 ++ ob_w2 o_w5 a_w5 cI w5 ++ ob_w2 o_w6 a_w6 cI w6 ++ ob_w2 o_w7 a_w7 cI w7) → va_S A s.heap H locs → lv_has ls 3 [(0, .ref o_b), (2, .int 1)] → fd_X4_countRows_L28_1 b w0 w1 w2 w3 w4 w5 w6 w7 v0 v1 = some (rr) → W p l e ({ frames := 0, cells := 0, slots := 0, locals := 0 } : Room) s m (List.toArray [.ref o_b]) below meth c H locs 0 0 (MQ below ((ob_Qi (dC, dI) rr (ob_w4 o_b a_b cI b ++ ob_wr (a_b 0) cW 8 g_g ++ ob_w2 o_w0 a_w0 cI w0 ++ ob_w2 o_w1 a_w1 cI w1 ++ ob_w2 o_w2 a_w2 cI w2 ++ ob_w2 o_w3 a_w3 cI w3 ++ ob_w2 o_w4 a_w4 cI w4 ++ ob_w2 o_w5 a_w5 cI w5 ++ ob_w2 o_w6 a_w6 cI w6 ++ ob_w2 o_w7 a_w7 cI w7)) A) (List.toArray [.ref o_b]) s 0 0 A) (F0 m 28 ls [.int v0, .int v1]) := by
    intro  H locs v0 v1 ls hP hD hS hl hd
    rw [fd_X4_countRows_L28_1] at hd
    refine lv_iadd hx hb dX4_countRows_28 ?_
    refine lv_topi (fun x_2 ex_2 => ?_)
    replace hd := ob_lx ex_2 hd
    clear ex_2
    refine lv_istore_n (lv' := [(1, .int x_2), (0, .ref o_b), (2, .int 1)]) hx hb dX4_countRows_29 rfl hl (by decide) rfl (fun ls hl => ?_)
    refine lv_iinc (v := 2) (lv' := [(2, .int 2), (1, .int x_2), (0, .ref o_b)]) hx hb dX4_countRows_30 hl (k := 2) rfl (by decide) (by decide) rfl (fun ls hl => ?_)
    refine lv_goto (tgt := 4) hx hb dX4_countRows_33 (by decide) ?_
    refine lv_iload_n hx hb dX4_countRows_4 rfl (lv_at hl 0 rfl) ?_
    refine lv_bipush (v := 8) hx hb dX4_countRows_5 (by decide) ?_
    refine lv_icmp_ge (tgt := 36) hx hb dX4_countRows_7 (by decide) (fun hc => absurd hc (by decide)) (fun _ => ?_)
    refine lv_iload_n hx hb dX4_countRows_10 rfl (lv_at hl 1 rfl) ?_
    refine lv_aload_n hx hb dX4_countRows_11 rfl (lv_at hl 2 rfl) ?_
    refine va_get (D := (dC, dI)) (ci := 4) (v := .ref (a_b 0)) (C := RX4) (T := TX4) (N := 10) hx hb hts hi_X4 hown hK hP 0 rfl rfl 0 (by decide) kw0 (fun _ h9 => h9) rfl dX4_countRows_12 ?_
    refine lv_iload_n hx hb dX4_countRows_15 rfl (lv_at hl 0 rfl) ?_
    refine va_aldq hx hb hK hP 2 3 rfl rfl (by unfold vp_in; decide) dX4_countRows_16 ?_
    refine ob_rf hg2 ?_
    refine va_get (D := (dC, dI)) (ci := 2) (v := .int (w2.1 0)) (C := RX2) (T := TX2) (N := 4) hx hb hts hi_X2 hown hK hP 7 rfl rfl 0 (by decide) kw1 (fun _ h9 => h9) rfl dX4_countRows_17 ?_
    refine lv_if_eq (tgt := 27) hx hb dX4_countRows_20 (by decide) (fun c_20 => ?_) (fun c_20 => ?_)
    · replace hd := ob_t c_20 hd
      refine lv_iconst (v := 1) hx hb dX4_countRows_27 (by decide) ?_
      exact L28_2   _ _  1 x_2 _ hP hD hS (lv_sub hl [2, 0] rfl) hd
    · replace hd := ob_f c_20 hd
      refine lv_iconst (v := 0) hx hb dX4_countRows_23 (by decide) ?_
      refine lv_goto (tgt := 28) hx hb dX4_countRows_24 (by decide) ?_
      exact L28_2   _ _  0 x_2 _ hP hD hS (lv_sub hl [2, 0] rfl) hd
  have L28_0 : ∀ (H : Heap) (locs : List Loc)   (v0 : Int32) (v1 : Int32) (ls : Array Slot), va_P (dC, dI) vwCl (ob_w4 o_b a_b cI b ++ ob_wr (a_b 0) cW 8 g_g ++ ob_w2 o_w0 a_w0 cI w0 ++ ob_w2 o_w1 a_w1 cI w1 ++ ob_w2 o_w2 a_w2 cI w2 ++ ob_w2 o_w3 a_w3 cI w3 ++ ob_w2 o_w4 a_w4 cI w4 ++ ob_w2 o_w5 a_w5 cI w5 ++ ob_w2 o_w6 a_w6 cI w6 ++ ob_w2 o_w7 a_w7 cI w7) H → va_D A (ob_w4 o_b a_b cI b ++ ob_wr (a_b 0) cW 8 g_g ++ ob_w2 o_w0 a_w0 cI w0 ++ ob_w2 o_w1 a_w1 cI w1 ++ ob_w2 o_w2 a_w2 cI w2 ++ ob_w2 o_w3 a_w3 cI w3 ++ ob_w2 o_w4 a_w4 cI w4 ++ ob_w2 o_w5 a_w5 cI w5 ++ ob_w2 o_w6 a_w6 cI w6 ++ ob_w2 o_w7 a_w7 cI w7) → va_S A s.heap H locs → lv_has ls 3 [(0, .ref o_b), (2, .int 0)] → fd_X4_countRows_L28_0 b w0 w1 w2 w3 w4 w5 w6 w7 v0 v1 = some (rr) → W p l e ({ frames := 0, cells := 0, slots := 0, locals := 0 } : Room) s m (List.toArray [.ref o_b]) below meth c H locs 0 0 (MQ below ((ob_Qi (dC, dI) rr (ob_w4 o_b a_b cI b ++ ob_wr (a_b 0) cW 8 g_g ++ ob_w2 o_w0 a_w0 cI w0 ++ ob_w2 o_w1 a_w1 cI w1 ++ ob_w2 o_w2 a_w2 cI w2 ++ ob_w2 o_w3 a_w3 cI w3 ++ ob_w2 o_w4 a_w4 cI w4 ++ ob_w2 o_w5 a_w5 cI w5 ++ ob_w2 o_w6 a_w6 cI w6 ++ ob_w2 o_w7 a_w7 cI w7)) A) (List.toArray [.ref o_b]) s 0 0 A) (F0 m 28 ls [.int v0, .int v1]) := by
    intro  H locs v0 v1 ls hP hD hS hl hd
    rw [fd_X4_countRows_L28_0] at hd
    refine lv_iadd hx hb dX4_countRows_28 ?_
    refine lv_topi (fun x_1 ex_1 => ?_)
    replace hd := ob_lx ex_1 hd
    clear ex_1
    refine lv_istore_n (lv' := [(1, .int x_1), (0, .ref o_b), (2, .int 0)]) hx hb dX4_countRows_29 rfl hl (by decide) rfl (fun ls hl => ?_)
    refine lv_iinc (v := 1) (lv' := [(2, .int 1), (1, .int x_1), (0, .ref o_b)]) hx hb dX4_countRows_30 hl (k := 2) rfl (by decide) (by decide) rfl (fun ls hl => ?_)
    refine lv_goto (tgt := 4) hx hb dX4_countRows_33 (by decide) ?_
    refine lv_iload_n hx hb dX4_countRows_4 rfl (lv_at hl 0 rfl) ?_
    refine lv_bipush (v := 8) hx hb dX4_countRows_5 (by decide) ?_
    refine lv_icmp_ge (tgt := 36) hx hb dX4_countRows_7 (by decide) (fun hc => absurd hc (by decide)) (fun _ => ?_)
    refine lv_iload_n hx hb dX4_countRows_10 rfl (lv_at hl 1 rfl) ?_
    refine lv_aload_n hx hb dX4_countRows_11 rfl (lv_at hl 2 rfl) ?_
    refine va_get (D := (dC, dI)) (ci := 4) (v := .ref (a_b 0)) (C := RX4) (T := TX4) (N := 10) hx hb hts hi_X4 hown hK hP 0 rfl rfl 0 (by decide) kw0 (fun _ h9 => h9) rfl dX4_countRows_12 ?_
    refine lv_iload_n hx hb dX4_countRows_15 rfl (lv_at hl 0 rfl) ?_
    refine va_aldq hx hb hK hP 2 3 rfl rfl (by unfold vp_in; decide) dX4_countRows_16 ?_
    refine ob_rf hg1 ?_
    refine va_get (D := (dC, dI)) (ci := 2) (v := .int (w1.1 0)) (C := RX2) (T := TX2) (N := 4) hx hb hts hi_X2 hown hK hP 5 rfl rfl 0 (by decide) kw1 (fun _ h9 => h9) rfl dX4_countRows_17 ?_
    refine lv_if_eq (tgt := 27) hx hb dX4_countRows_20 (by decide) (fun c_20 => ?_) (fun c_20 => ?_)
    · replace hd := ob_t c_20 hd
      refine lv_iconst (v := 1) hx hb dX4_countRows_27 (by decide) ?_
      exact L28_1   _ _  1 x_1 _ hP hD hS (lv_sub hl [2, 0] rfl) hd
    · replace hd := ob_f c_20 hd
      refine lv_iconst (v := 0) hx hb dX4_countRows_23 (by decide) ?_
      refine lv_goto (tgt := 28) hx hb dX4_countRows_24 (by decide) ?_
      exact L28_1   _ _  0 x_1 _ hP hD hS (lv_sub hl [2, 0] rfl) hd
  refine lv_iconst (v := 0) hx hb dX4_countRows_0 (by decide) ?_
  refine lv_istore_n (lv' := [(1, .int 0), (0, .ref o_b)]) hx hb dX4_countRows_1 rfl hl (by decide) rfl (fun ls hl => ?_)
  refine lv_iconst (v := 0) hx hb dX4_countRows_2 (by decide) ?_
  refine lv_istore_n (lv' := [(2, .int 0), (1, .int 0), (0, .ref o_b)]) hx hb dX4_countRows_3 rfl hl (by decide) rfl (fun ls hl => ?_)
  refine lv_iload_n hx hb dX4_countRows_4 rfl (lv_at hl 0 rfl) ?_
  refine lv_bipush (v := 8) hx hb dX4_countRows_5 (by decide) ?_
  refine lv_icmp_ge (tgt := 36) hx hb dX4_countRows_7 (by decide) (fun hc => absurd hc (by decide)) (fun _ => ?_)
  refine lv_iload_n hx hb dX4_countRows_10 rfl (lv_at hl 1 rfl) ?_
  refine lv_aload_n hx hb dX4_countRows_11 rfl (lv_at hl 2 rfl) ?_
  refine va_get (D := (dC, dI)) (ci := 4) (v := .ref (a_b 0)) (C := RX4) (T := TX4) (N := 10) hx hb hts hi_X4 hown hK hP 0 rfl rfl 0 (by decide) kw0 (fun _ h9 => h9) rfl dX4_countRows_12 ?_
  refine lv_iload_n hx hb dX4_countRows_15 rfl (lv_at hl 0 rfl) ?_
  refine va_aldq hx hb hK hP 2 3 rfl rfl (by unfold vp_in; decide) dX4_countRows_16 ?_
  refine ob_rf hg0 ?_
  refine va_get (D := (dC, dI)) (ci := 2) (v := .int (w0.1 0)) (C := RX2) (T := TX2) (N := 4) hx hb hts hi_X2 hown hK hP 3 rfl rfl 0 (by decide) kw1 (fun _ h9 => h9) rfl dX4_countRows_17 ?_
  refine lv_if_eq (tgt := 27) hx hb dX4_countRows_20 (by decide) (fun c_20 => ?_) (fun c_20 => ?_)
  · replace hd := ob_t c_20 hd
    refine lv_iconst (v := 1) hx hb dX4_countRows_27 (by decide) ?_
    exact L28_0   _ _  1 0 _ hP hD hS (lv_sub hl [2, 0] rfl) hd
  · replace hd := ob_f c_20 hd
    refine lv_iconst (v := 0) hx hb dX4_countRows_23 (by decide) ?_
    refine lv_goto (tgt := 28) hx hb dX4_countRows_24 (by decide) ?_
    exact L28_0   _ _  0 0 _ hP hD hS (lv_sub hl [2, 0] rfl) hd

def fd_X4_countR  (b : ob_B) (w0 : ob_B) (w1 : ob_B) (w2 : ob_B) (w3 : ob_B) (w4 : ob_B) (w5 : ob_B) (w6 : ob_B) (w7 : ob_B) (x1 : Int32) : Option (Int32) := if x1 = 0 then (ob_b1 (fd_X4_countRows b w0 w1 w2 w3 w4 w5 w6 w7) (fun r_1 => some (r_1))) else (if x1 = 1 then (none) else (if x1 = 2 then (none) else (if x1 = 3 then (none) else (if x1 = 4 then (none) else (if x1 = 5 then (none) else (if x1 = 6 then (none) else (if x1 = 7 then (none) else (none))))))))
set_option maxHeartbeats 4000000 in
set_option maxRecDepth 100000 in
theorem mt_X4_countR (l : Launch) (dC : Nat → ClassId) (dI : Nat → Nat → Nat) (cI cZ cR cW : ClassId) (xs : Nat → Nat) (sz : Nat) (o_b : Nat) (a_b : Nat → Nat) (g_g : Nat → Option Nat) (o_w0 : Nat) (a_w0 : Nat → Nat) (o_w1 : Nat) (a_w1 : Nat → Nat) (o_w2 : Nat) (a_w2 : Nat → Nat) (o_w3 : Nat) (a_w3 : Nat → Nat) (o_w4 : Nat) (a_w4 : Nat → Nat) (o_w5 : Nat) (a_w5 : Nat → Nat) (o_w6 : Nat) (a_w6 : Nat → Nat) (o_w7 : Nat) (a_w7 : Nat → Nat) (b : ob_B) (w0 : ob_B) (w1 : ob_B) (w2 : ob_B) (w3 : ob_B) (w4 : ob_B) (w5 : ob_B) (w6 : ob_B) (w7 : ob_B) (x1 : Int32) (hg0 : g_g (Int32.toNatClampNeg 0) = some o_w0) (hg1 : g_g (Int32.toNatClampNeg 1) = some o_w1) (hg2 : g_g (Int32.toNatClampNeg 2) = some o_w2) (hg3 : g_g (Int32.toNatClampNeg 3) = some o_w3) (hg4 : g_g (Int32.toNatClampNeg 4) = some o_w4) (hg5 : g_g (Int32.toNatClampNeg 5) = some o_w5) (hg6 : g_g (Int32.toNatClampNeg 6) = some o_w6) (hg7 : g_g (Int32.toNatClampNeg 7) = some o_w7) (rr : Int32) (hd : fd_X4_countR b w0 w1 w2 w3 w4 w5 w6 w7 x1 = some (rr)) : ob_M l yX4_count wsX4_count ({ frames := 1, cells := 0, slots := 0, locals := 22 } : Room) (dC, dI) (ob_ty cI cZ cR cW) xs [.ref o_b, .int x1] (ob_w4 o_b a_b cI b ++ ob_wr (a_b 0) cW 8 g_g ++ ob_w2 o_w0 a_w0 cI w0 ++ ob_w2 o_w1 a_w1 cI w1 ++ ob_w2 o_w2 a_w2 cI w2 ++ ob_w2 o_w3 a_w3 cI w3 ++ ob_w2 o_w4 a_w4 cI w4 ++ ob_w2 o_w5 a_w5 cI w5 ++ ob_w2 o_w6 a_w6 cI w6 ++ ob_w2 o_w7 a_w7 cI w7) sz (ob_Qi (dC, dI) rr (ob_w4 o_b a_b cI b ++ ob_wr (a_b 0) cW 8 g_g ++ ob_w2 o_w0 a_w0 cI w0 ++ ob_w2 o_w1 a_w1 cI w1 ++ ob_w2 o_w2 a_w2 cI w2 ++ ob_w2 o_w3 a_w3 cI w3 ++ ob_w2 o_w4 a_w4 cI w4 ++ ob_w2 o_w5 a_w5 cI w5 ++ ob_w2 o_w6 a_w6 cI w6 ++ ob_w2 o_w7 a_w7 cI w7)) := by
  rw [fd_X4_countR] at hd
  refine ob_in (cc := cX4_count) (maxL := 2) (ret := (some .int)) (own := RX4) (by decide) rfl rfl [(0, .ref o_b), (1, .int x1)] rfl (Nat.le_of_ble_eq_true rfl) ?_
  intro p e s m below meth c hx hb hr hml hown hts hlocks hnm hK A hA hE hP hD hS ls hl
  refine lv_iload_n hx hb dX4_count_0 rfl (lv_at hl 1 rfl) ?_
  by_cases c0_1 : x1 = 0
  · replace hd := ob_t c0_1 hd
    refine lv_tableIn (off := 47) (tgt := 48) hx hb dX4_count_1 (by rw [c0_1]; decide) (by rw [c0_1]; decide) (by rw [c0_1]; decide) (by decide) ?_
    refine lv_aload_n hx hb dX4_count_48 rfl (lv_at hl 0 rfl) ?_
    obtain ⟨r_1, hc_49, hd⟩ := ob_s1 hd
    refine ob_PVi (wc := (ob_w4 o_b a_b cI b ++ ob_wr (a_b 0) cW 8 g_g ++ ob_w2 o_w0 a_w0 cI w0 ++ ob_w2 o_w1 a_w1 cI w1 ++ ob_w2 o_w2 a_w2 cI w2 ++ ob_w2 o_w3 a_w3 cI w3 ++ ob_w2 o_w4 a_w4 cI w4 ++ ob_w2 o_w5 a_w5 cI w5 ++ ob_w2 o_w6 a_w6 cI w6 ++ ob_w2 o_w7 a_w7 cI w7)) (wr := []) (b := o_b) (As := []) (rest := []) ⟨hx, hb, hml, hown, hts⟩ (ob_MiE (mt_X4_countRows l dC dI cI cZ cR cW xs _ o_b a_b g_g o_w0 a_w0 o_w1 a_w1 o_w2 a_w2 o_w3 a_w3 o_w4 a_w4 o_w5 a_w5 o_w6 a_w6 o_w7 a_w7 b w0 w1 w2 w3 w4 w5 w6 w7 hg0 hg1 hg2 hg3 hg4 hg5 hg6 hg7 r_1 hc_49)) (cwV 0 hts gX4_count_X4_countRows rfl rfl rfl (by decide +kernel) ⟨Nat.le_of_ble_eq_true rfl, Nat.le_of_ble_eq_true rfl⟩) hK hE hP hD hS hA (by rw [List.append_nil]) 4 0 rfl rfl rfl hl rfl rfl (Nat.le_of_ble_eq_true rfl) ⟨Nat.le_of_ble_eq_true rfl, Nat.le_of_ble_eq_true rfl⟩ dX4_count_49 (fun rq uq H locs hq hP hD hS => ?_)
    obtain rfl : r_1 = rq := hq.symm
    refine W.widen (k := 0) (n := 0) (Nat.le_refl _) (Nat.le_refl _) ?_
    replace hP : va_P (dC, dI) vwCl (ob_w4 o_b a_b cI b ++ ob_wr (a_b 0) cW 8 g_g ++ ob_w2 o_w0 a_w0 cI w0 ++ ob_w2 o_w1 a_w1 cI w1 ++ ob_w2 o_w2 a_w2 cI w2 ++ ob_w2 o_w3 a_w3 cI w3 ++ ob_w2 o_w4 a_w4 cI w4 ++ ob_w2 o_w5 a_w5 cI w5 ++ ob_w2 o_w6 a_w6 cI w6 ++ ob_w2 o_w7 a_w7 cI w7) H := hP
    replace hD : va_D A (ob_w4 o_b a_b cI b ++ ob_wr (a_b 0) cW 8 g_g ++ ob_w2 o_w0 a_w0 cI w0 ++ ob_w2 o_w1 a_w1 cI w1 ++ ob_w2 o_w2 a_w2 cI w2 ++ ob_w2 o_w3 a_w3 cI w3 ++ ob_w2 o_w4 a_w4 cI w4 ++ ob_w2 o_w5 a_w5 cI w5 ++ ob_w2 o_w6 a_w6 cI w6 ++ ob_w2 o_w7 a_w7 cI w7) := hD
    have e1 := Option.some.inj hd
    subst e1
    exact ob_iret hx hb hr hlocks hP hD hS dX4_count_52
  replace hd := ob_f c0_1 hd
  by_cases c1_1 : x1 = 1
  · replace hd := ob_t c1_1 hd
    refine lv_tableIn (off := 52) (tgt := 53) hx hb dX4_count_1 (by rw [c1_1]; decide) (by rw [c1_1]; decide) (by rw [c1_1]; decide) (by decide) ?_
    cases hd
  replace hd := ob_f c1_1 hd
  by_cases c2_1 : x1 = 2
  · replace hd := ob_t c2_1 hd
    refine lv_tableIn (off := 60) (tgt := 61) hx hb dX4_count_1 (by rw [c2_1]; decide) (by rw [c2_1]; decide) (by rw [c2_1]; decide) (by decide) ?_
    cases hd
  replace hd := ob_f c2_1 hd
  by_cases c3_1 : x1 = 3
  · replace hd := ob_t c3_1 hd
    refine lv_tableIn (off := 68) (tgt := 69) hx hb dX4_count_1 (by rw [c3_1]; decide) (by rw [c3_1]; decide) (by rw [c3_1]; decide) (by decide) ?_
    cases hd
  replace hd := ob_f c3_1 hd
  by_cases c4_1 : x1 = 4
  · replace hd := ob_t c4_1 hd
    refine lv_tableIn (off := 76) (tgt := 77) hx hb dX4_count_1 (by rw [c4_1]; decide) (by rw [c4_1]; decide) (by rw [c4_1]; decide) (by decide) ?_
    cases hd
  replace hd := ob_f c4_1 hd
  by_cases c5_1 : x1 = 5
  · replace hd := ob_t c5_1 hd
    refine lv_tableIn (off := 84) (tgt := 85) hx hb dX4_count_1 (by rw [c5_1]; decide) (by rw [c5_1]; decide) (by rw [c5_1]; decide) (by decide) ?_
    cases hd
  replace hd := ob_f c5_1 hd
  by_cases c6_1 : x1 = 6
  · replace hd := ob_t c6_1 hd
    refine lv_tableIn (off := 92) (tgt := 93) hx hb dX4_count_1 (by rw [c6_1]; decide) (by rw [c6_1]; decide) (by rw [c6_1]; decide) (by decide) ?_
    cases hd
  replace hd := ob_f c6_1 hd
  by_cases c7_1 : x1 = 7
  · replace hd := ob_t c7_1 hd
    refine lv_tableIn (off := 100) (tgt := 101) hx hb dX4_count_1 (by rw [c7_1]; decide) (by rw [c7_1]; decide) (by rw [c7_1]; decide) (by decide) ?_
    cases hd
  replace hd := ob_f c7_1 hd
  refine lv_tableOut (tgt := 109) hx hb dX4_count_1 (by have n0 := lv_neT c0_1 (show (0 : Int32).toInt = 0 from rfl); have n1 := lv_neT c1_1 (show (1 : Int32).toInt = 1 from rfl); have n2 := lv_neT c2_1 (show (2 : Int32).toInt = 2 from rfl); have n3 := lv_neT c3_1 (show (3 : Int32).toInt = 3 from rfl); have n4 := lv_neT c4_1 (show (4 : Int32).toInt = 4 from rfl); have n5 := lv_neT c5_1 (show (5 : Int32).toInt = 5 from rfl); have n6 := lv_neT c6_1 (show (6 : Int32).toInt = 6 from rfl); have n7 := lv_neT c7_1 (show (7 : Int32).toInt = 7 from rfl); omega) (by decide) ?_
  cases hd

def fd_X4_countN  (b : ob_B) (y : ob_B) (q : ob_B) (h : ob_B) (x1 : Int32) : Option (Int32) := if x1 = 0 then (none) else (if x1 = 1 then (some (y.1 4)) else (if x1 = 2 then (ob_b1 (fd_X1_openBits y) (fun r_1 => some (r_1))) else (if x1 = 3 then (some (y.1 2)) else (if x1 = 4 then (some (y.1 5)) else (if x1 = 5 then (some (y.1 6)) else (if x1 = 6 then (some (h.1 2)) else (if x1 = 7 then (some (q.1 1)) else (some ((-1000001))))))))))
set_option maxHeartbeats 4000000 in
set_option maxRecDepth 100000 in
theorem mt_X4_countN (l : Launch) (dC : Nat → ClassId) (dI : Nat → Nat → Nat) (cI cZ cR cW : ClassId) (xs : Nat → Nat) (sz : Nat) (o_b : Nat) (a_b : Nat → Nat) (a_y : Nat → Nat) (a_q : Nat → Nat) (a_h : Nat → Nat) (b : ob_B) (y : ob_B) (q : ob_B) (h : ob_B) (x1 : Int32)  (rr : Int32) (hd : fd_X4_countN b y q h x1 = some (rr)) : ob_M l yX4_count wsX4_count ({ frames := 1, cells := 0, slots := 0, locals := 22 } : Room) (dC, dI) (ob_ty cI cZ cR cW) xs [.ref o_b, .int x1] (ob_w4 o_b a_b cI b ++ ob_w1 (a_b 2) a_y cI y ++ ob_w3 (a_b 1) a_q cI q ++ ob_w0 (a_b 4) a_h h) sz (ob_Qi (dC, dI) rr (ob_w4 o_b a_b cI b ++ ob_w1 (a_b 2) a_y cI y ++ ob_w3 (a_b 1) a_q cI q ++ ob_w0 (a_b 4) a_h h)) := by
  rw [fd_X4_countN] at hd
  refine ob_in (cc := cX4_count) (maxL := 2) (ret := (some .int)) (own := RX4) (by decide) rfl rfl [(0, .ref o_b), (1, .int x1)] rfl (Nat.le_of_ble_eq_true rfl) ?_
  intro p e s m below meth c hx hb hr hml hown hts hlocks hnm hK A hA hE hP hD hS ls hl
  have kw0 := hts (.fieldLink RX4 25 "OathCoach" "route" "LOathCoach$Route;") (by decide +kernel)
  have kw1 := hts (.fieldLink RX4 130 "OathCoach$Route" "oaths" "I") (by decide +kernel)
  have kw2 := hts (.fieldLink RX4 142 "OathCoach$Route" "hour" "I") (by decide +kernel)
  have kw3 := hts (.fieldLink RX4 254 "OathCoach$Route" "timesKept" "I") (by decide +kernel)
  have kw4 := hts (.fieldLink RX4 257 "OathCoach$Route" "timesBroken" "I") (by decide +kernel)
  have kw5 := hts (.fieldLink RX4 35 "OathCoach" "history" "LOathCoach$History;") (by decide +kernel)
  have kw6 := hts (.fieldLink RX4 138 "OathCoach$History" "size" "I") (by decide +kernel)
  have kw7 := hts (.fieldLink RX4 18 "OathCoach" "tape" "LOathCoach$Tape;") (by decide +kernel)
  have kw8 := hts (.fieldLink RX4 114 "OathCoach$Tape" "size" "I") (by decide +kernel)
  have kw9 := hts (.constant RX4 62 (-1000001)) (by decide +kernel)
  have hi_X0 : ∀ w ∈ u_ws RX0 TX0 3, w ∈ wsX4_count := by decide +kernel
  have hi_X1 : ∀ w ∈ u_ws RX1 TX1 12, w ∈ wsX4_count := by decide +kernel
  have hi_X3 : ∀ w ∈ u_ws RX3 TX3 4, w ∈ wsX4_count := by decide +kernel
  have hi_X4 : ∀ w ∈ u_ws RX4 TX4 10, w ∈ wsX4_count := by decide +kernel
  refine lv_iload_n hx hb dX4_count_0 rfl (lv_at hl 1 rfl) ?_
  by_cases c0_1 : x1 = 0
  · replace hd := ob_t c0_1 hd
    refine lv_tableIn (off := 47) (tgt := 48) hx hb dX4_count_1 (by rw [c0_1]; decide) (by rw [c0_1]; decide) (by rw [c0_1]; decide) (by decide) ?_
    cases hd
  replace hd := ob_f c0_1 hd
  by_cases c1_1 : x1 = 1
  · replace hd := ob_t c1_1 hd
    refine lv_tableIn (off := 52) (tgt := 53) hx hb dX4_count_1 (by rw [c1_1]; decide) (by rw [c1_1]; decide) (by rw [c1_1]; decide) (by decide) ?_
    refine lv_aload_n hx hb dX4_count_53 rfl (lv_at hl 0 rfl) ?_
    refine va_get (D := (dC, dI)) (ci := 4) (v := .ref (a_b 2)) (C := RX4) (T := TX4) (N := 10) hx hb hts hi_X4 hown hK hP 0 rfl rfl 2 (by decide) kw0 (fun _ h9 => h9) rfl dX4_count_54 ?_
    refine va_get (D := (dC, dI)) (ci := 1) (v := .int (y.1 4)) (C := RX1) (T := TX1) (N := 12) hx hb hts hi_X1 hown hK hP 2 rfl rfl 4 (by decide) kw1 (fun _ h9 => h9) rfl dX4_count_57 ?_
    have e1 := Option.some.inj hd
    subst e1
    exact ob_iret hx hb hr hlocks hP hD hS dX4_count_60
  replace hd := ob_f c1_1 hd
  by_cases c2_1 : x1 = 2
  · replace hd := ob_t c2_1 hd
    refine lv_tableIn (off := 60) (tgt := 61) hx hb dX4_count_1 (by rw [c2_1]; decide) (by rw [c2_1]; decide) (by rw [c2_1]; decide) (by decide) ?_
    refine lv_aload_n hx hb dX4_count_61 rfl (lv_at hl 0 rfl) ?_
    refine va_get (D := (dC, dI)) (ci := 4) (v := .ref (a_b 2)) (C := RX4) (T := TX4) (N := 10) hx hb hts hi_X4 hown hK hP 0 rfl rfl 2 (by decide) kw0 (fun _ h9 => h9) rfl dX4_count_62 ?_
    obtain ⟨r_1, hc_65, hd⟩ := ob_s1 hd
    refine ob_Vi (isC := [2, 3, 4, 5, 6, 7]) (isR := [0, 1, 8, 9, 10]) (is2 := [0, 1, 5, 6, 7, 8, 9, 10, 2, 3, 4]) (wc := (ob_w1 (a_b 2) a_y cI y)) (wr := (List.filterMap (fun i => (ob_w4 o_b a_b cI b ++ ob_w1 (a_b 2) a_y cI y ++ ob_w3 (a_b 1) a_q cI q ++ ob_w0 (a_b 4) a_h h)[i]?) [0, 1, 8, 9, 10])) (w1 := (ob_w1 (a_b 2) a_y cI y)) (w2 := (ob_w4 o_b a_b cI b ++ ob_w1 (a_b 2) a_y cI y ++ ob_w3 (a_b 1) a_q cI q ++ ob_w0 (a_b 4) a_h h)) (b := (a_b 2)) (As := []) (rest := []) ⟨hx, hb, hml, hown, hts⟩ (mt_X1_openBits l dC dI cI cZ cR cW xs _ ((a_b 2)) a_y y r_1 hc_65) (cwV 0 hts gX4_count_X1_openBits rfl rfl rfl (by decide +kernel) ⟨Nat.le_of_ble_eq_true rfl, Nat.le_of_ble_eq_true rfl⟩) hK hE hP hD hS hA ⟨rfl, rfl, rfl, rfl, rfl, rfl, rfl⟩ 1 0 rfl rfl rfl hl rfl rfl (Nat.le_of_ble_eq_true rfl) ⟨Nat.le_of_ble_eq_true rfl, Nat.le_of_ble_eq_true rfl⟩ dX4_count_65 (fun H locs hP hD hS => ?_)
    refine W.widen (k := 0) (n := 0) (Nat.le_refl _) (Nat.le_refl _) ?_
    have e1 := Option.some.inj hd
    subst e1
    exact ob_iret hx hb hr hlocks hP hD hS dX4_count_68
  replace hd := ob_f c2_1 hd
  by_cases c3_1 : x1 = 3
  · replace hd := ob_t c3_1 hd
    refine lv_tableIn (off := 68) (tgt := 69) hx hb dX4_count_1 (by rw [c3_1]; decide) (by rw [c3_1]; decide) (by rw [c3_1]; decide) (by decide) ?_
    refine lv_aload_n hx hb dX4_count_69 rfl (lv_at hl 0 rfl) ?_
    refine va_get (D := (dC, dI)) (ci := 4) (v := .ref (a_b 2)) (C := RX4) (T := TX4) (N := 10) hx hb hts hi_X4 hown hK hP 0 rfl rfl 2 (by decide) kw0 (fun _ h9 => h9) rfl dX4_count_70 ?_
    refine va_get (D := (dC, dI)) (ci := 1) (v := .int (y.1 2)) (C := RX1) (T := TX1) (N := 12) hx hb hts hi_X1 hown hK hP 2 rfl rfl 2 (by decide) kw2 (fun _ h9 => h9) rfl dX4_count_73 ?_
    have e1 := Option.some.inj hd
    subst e1
    exact ob_iret hx hb hr hlocks hP hD hS dX4_count_76
  replace hd := ob_f c3_1 hd
  by_cases c4_1 : x1 = 4
  · replace hd := ob_t c4_1 hd
    refine lv_tableIn (off := 76) (tgt := 77) hx hb dX4_count_1 (by rw [c4_1]; decide) (by rw [c4_1]; decide) (by rw [c4_1]; decide) (by decide) ?_
    refine lv_aload_n hx hb dX4_count_77 rfl (lv_at hl 0 rfl) ?_
    refine va_get (D := (dC, dI)) (ci := 4) (v := .ref (a_b 2)) (C := RX4) (T := TX4) (N := 10) hx hb hts hi_X4 hown hK hP 0 rfl rfl 2 (by decide) kw0 (fun _ h9 => h9) rfl dX4_count_78 ?_
    refine va_get (D := (dC, dI)) (ci := 1) (v := .int (y.1 5)) (C := RX1) (T := TX1) (N := 12) hx hb hts hi_X1 hown hK hP 2 rfl rfl 5 (by decide) kw3 (fun _ h9 => h9) rfl dX4_count_81 ?_
    have e1 := Option.some.inj hd
    subst e1
    exact ob_iret hx hb hr hlocks hP hD hS dX4_count_84
  replace hd := ob_f c4_1 hd
  by_cases c5_1 : x1 = 5
  · replace hd := ob_t c5_1 hd
    refine lv_tableIn (off := 84) (tgt := 85) hx hb dX4_count_1 (by rw [c5_1]; decide) (by rw [c5_1]; decide) (by rw [c5_1]; decide) (by decide) ?_
    refine lv_aload_n hx hb dX4_count_85 rfl (lv_at hl 0 rfl) ?_
    refine va_get (D := (dC, dI)) (ci := 4) (v := .ref (a_b 2)) (C := RX4) (T := TX4) (N := 10) hx hb hts hi_X4 hown hK hP 0 rfl rfl 2 (by decide) kw0 (fun _ h9 => h9) rfl dX4_count_86 ?_
    refine va_get (D := (dC, dI)) (ci := 1) (v := .int (y.1 6)) (C := RX1) (T := TX1) (N := 12) hx hb hts hi_X1 hown hK hP 2 rfl rfl 6 (by decide) kw4 (fun _ h9 => h9) rfl dX4_count_89 ?_
    have e1 := Option.some.inj hd
    subst e1
    exact ob_iret hx hb hr hlocks hP hD hS dX4_count_92
  replace hd := ob_f c5_1 hd
  by_cases c6_1 : x1 = 6
  · replace hd := ob_t c6_1 hd
    refine lv_tableIn (off := 92) (tgt := 93) hx hb dX4_count_1 (by rw [c6_1]; decide) (by rw [c6_1]; decide) (by rw [c6_1]; decide) (by decide) ?_
    refine lv_aload_n hx hb dX4_count_93 rfl (lv_at hl 0 rfl) ?_
    refine va_get (D := (dC, dI)) (ci := 4) (v := .ref (a_b 4)) (C := RX4) (T := TX4) (N := 10) hx hb hts hi_X4 hown hK hP 0 rfl rfl 4 (by decide) kw5 (fun _ h9 => h9) rfl dX4_count_94 ?_
    refine va_get (D := (dC, dI)) (ci := 0) (v := .int (h.1 2)) (C := RX0) (T := TX0) (N := 3) hx hb hts hi_X0 hown hK hP 10 rfl rfl 2 (by decide) kw6 (fun _ h9 => h9) rfl dX4_count_97 ?_
    have e1 := Option.some.inj hd
    subst e1
    exact ob_iret hx hb hr hlocks hP hD hS dX4_count_100
  replace hd := ob_f c6_1 hd
  by_cases c7_1 : x1 = 7
  · replace hd := ob_t c7_1 hd
    refine lv_tableIn (off := 100) (tgt := 101) hx hb dX4_count_1 (by rw [c7_1]; decide) (by rw [c7_1]; decide) (by rw [c7_1]; decide) (by decide) ?_
    refine lv_aload_n hx hb dX4_count_101 rfl (lv_at hl 0 rfl) ?_
    refine va_get (D := (dC, dI)) (ci := 4) (v := .ref (a_b 1)) (C := RX4) (T := TX4) (N := 10) hx hb hts hi_X4 hown hK hP 0 rfl rfl 1 (by decide) kw7 (fun _ h9 => h9) rfl dX4_count_102 ?_
    refine va_get (D := (dC, dI)) (ci := 3) (v := .int (q.1 1)) (C := RX3) (T := TX3) (N := 4) hx hb hts hi_X3 hown hK hP 8 rfl rfl 1 (by decide) kw8 (fun _ h9 => h9) rfl dX4_count_105 ?_
    have e1 := Option.some.inj hd
    subst e1
    exact ob_iret hx hb hr hlocks hP hD hS dX4_count_108
  replace hd := ob_f c7_1 hd
  refine lv_tableOut (tgt := 109) hx hb dX4_count_1 (by have n0 := lv_neT c0_1 (show (0 : Int32).toInt = 0 from rfl); have n1 := lv_neT c1_1 (show (1 : Int32).toInt = 1 from rfl); have n2 := lv_neT c2_1 (show (2 : Int32).toInt = 2 from rfl); have n3 := lv_neT c3_1 (show (3 : Int32).toInt = 3 from rfl); have n4 := lv_neT c4_1 (show (4 : Int32).toInt = 4 from rfl); have n5 := lv_neT c5_1 (show (5 : Int32).toInt = 5 from rfl); have n6 := lv_neT c6_1 (show (6 : Int32).toInt = 6 from rfl); have n7 := lv_neT c7_1 (show (7 : Int32).toInt = 7 from rfl); omega) (by decide) ?_
  refine lv_ldc hx hb hown kw9 dX4_count_109 ?_
  have e1 := Option.some.inj hd
  subst e1
  exact ob_iret hx hb hr hlocks hP hD hS dX4_count_111
