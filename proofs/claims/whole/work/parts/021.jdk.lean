def fd_J6_signum_0f7a4   (x0 : Int32) : Option (Int32) := some ((x0 >>> (31 &&& 31)) ||| (((Int32.toUInt32 (-x0)) >>> ((Int32.toUInt32 31) &&& Int32.toUInt32 31)).toInt32))
set_option maxHeartbeats 4000000 in
set_option maxRecDepth 100000 in
theorem mt_J6_signum_0f7a4 (l : Launch) (dC : Nat → ClassId) (dI : Nat → Nat → Nat) (cI cZ cR cW : ClassId) (xs : Nat → Nat) (sz : Nat)   (x0 : Int32)  (rr : Int32) (hd : fd_J6_signum_0f7a4 x0 = some (rr)) : ob_M l yJ6_signum_0f7a4 wsJ6_signum_0f7a4 ({ frames := 0, cells := 0, slots := 0, locals := 0 } : Room) (dC, dI) (ob_ty cI cZ cR cW) xs [.int x0] ([] : va_W) sz (ob_Qi (dC, dI) rr ([] : va_W)) := by
  rw [fd_J6_signum_0f7a4] at hd
  refine ob_in (cc := cJ6_signum_0f7a4) (maxL := 1) (ret := (some .int)) (own := RJ6) (by decide) rfl rfl [(0, .int x0)] rfl (Nat.le_of_ble_eq_true rfl) ?_
  intro p e s m below meth c hx hb hr hml hown hts hlocks hnm hK A hA hE hP hD hS ls hl
  refine lv_iload_n hx hb dJ6_signum_0f7a4_0 rfl (lv_at hl 0 rfl) ?_
  refine lv_bipush (v := 31) hx hb dJ6_signum_0f7a4_1 (by decide) ?_
  refine lv_ishr hx hb dJ6_signum_0f7a4_3 ?_
  refine lv_iload_n hx hb dJ6_signum_0f7a4_4 rfl (lv_at hl 0 rfl) ?_
  refine lv_ineg hx hb dJ6_signum_0f7a4_5 ?_
  refine lv_bipush (v := 31) hx hb dJ6_signum_0f7a4_6 (by decide) ?_
  refine lv_iushr hx hb dJ6_signum_0f7a4_8 rfl ?_
  refine lv_ior hx hb dJ6_signum_0f7a4_9 ?_
  have e1 := Option.some.inj hd
  subst e1
  exact ob_iret hx hb hr hlocks hP hD hS dJ6_signum_0f7a4_10

def fd_J6_bitCount_0f7a4   (x0 : Int32) : Option (Int32) := ob_lt (x0 - ((((Int32.toUInt32 x0) >>> ((Int32.toUInt32 1) &&& Int32.toUInt32 31)).toInt32) &&& 1431655765) : Int32) (fun x_1 => ob_lt ((x_1 &&& 858993459) + ((((Int32.toUInt32 x_1) >>> ((Int32.toUInt32 2) &&& Int32.toUInt32 31)).toInt32) &&& 858993459) : Int32) (fun x_2 => ob_lt ((x_2 + (((Int32.toUInt32 x_2) >>> ((Int32.toUInt32 4) &&& Int32.toUInt32 31)).toInt32)) &&& 252645135 : Int32) (fun x_3 => ob_lt (x_3 + (((Int32.toUInt32 x_3) >>> ((Int32.toUInt32 8) &&& Int32.toUInt32 31)).toInt32) : Int32) (fun x_4 => ob_lt (x_4 + (((Int32.toUInt32 x_4) >>> ((Int32.toUInt32 16) &&& Int32.toUInt32 31)).toInt32) : Int32) (fun x_5 => some (x_5 &&& 63))))))
set_option maxHeartbeats 4000000 in
set_option maxRecDepth 100000 in
theorem mt_J6_bitCount_0f7a4 (l : Launch) (dC : Nat → ClassId) (dI : Nat → Nat → Nat) (cI cZ cR cW : ClassId) (xs : Nat → Nat) (sz : Nat)   (x0 : Int32)  (rr : Int32) (hd : fd_J6_bitCount_0f7a4 x0 = some (rr)) : ob_M l yJ6_bitCount_0f7a4 wsJ6_bitCount_0f7a4 ({ frames := 0, cells := 0, slots := 0, locals := 0 } : Room) (dC, dI) (ob_ty cI cZ cR cW) xs [.int x0] ([] : va_W) sz (ob_Qi (dC, dI) rr ([] : va_W)) := by
  rw [fd_J6_bitCount_0f7a4] at hd
  refine ob_in (cc := cJ6_bitCount_0f7a4) (maxL := 1) (ret := (some .int)) (own := RJ6) (by decide) rfl rfl [(0, .int x0)] rfl (Nat.le_of_ble_eq_true rfl) ?_
  intro p e s m below meth c hx hb hr hml hown hts hlocks hnm hK A hA hE hP hD hS ls hl
  have kw0 := hts (.constant RJ6 265 (1431655765)) (by decide +kernel)
  have kw1 := hts (.constant RJ6 266 (858993459)) (by decide +kernel)
  have kw2 := hts (.constant RJ6 267 (252645135)) (by decide +kernel)
  refine lv_iload_n hx hb dJ6_bitCount_0f7a4_0 rfl (lv_at hl 0 rfl) ?_
  refine lv_iload_n hx hb dJ6_bitCount_0f7a4_1 rfl (lv_at hl 0 rfl) ?_
  refine lv_iconst (v := 1) hx hb dJ6_bitCount_0f7a4_2 (by decide) ?_
  refine lv_iushr hx hb dJ6_bitCount_0f7a4_3 rfl ?_
  refine lv_ldcw hx hb hown kw0 dJ6_bitCount_0f7a4_4 ?_
  refine lv_iand hx hb dJ6_bitCount_0f7a4_7 ?_
  refine lv_isub hx hb dJ6_bitCount_0f7a4_8 ?_
  refine lv_topi (fun x_1 ex_1 => ?_)
  replace hd := ob_lx ex_1 hd
  clear ex_1
  refine lv_istore_n (lv' := [(0, .int x_1)]) hx hb dJ6_bitCount_0f7a4_9 rfl hl (by decide) rfl (fun ls hl => ?_)
  refine lv_iload_n hx hb dJ6_bitCount_0f7a4_10 rfl (lv_at hl 0 rfl) ?_
  refine lv_ldcw hx hb hown kw1 dJ6_bitCount_0f7a4_11 ?_
  refine lv_iand hx hb dJ6_bitCount_0f7a4_14 ?_
  refine lv_iload_n hx hb dJ6_bitCount_0f7a4_15 rfl (lv_at hl 0 rfl) ?_
  refine lv_iconst (v := 2) hx hb dJ6_bitCount_0f7a4_16 (by decide) ?_
  refine lv_iushr hx hb dJ6_bitCount_0f7a4_17 rfl ?_
  refine lv_ldcw hx hb hown kw1 dJ6_bitCount_0f7a4_18 ?_
  refine lv_iand hx hb dJ6_bitCount_0f7a4_21 ?_
  refine lv_iadd hx hb dJ6_bitCount_0f7a4_22 ?_
  refine lv_topi (fun x_2 ex_2 => ?_)
  replace hd := ob_lx ex_2 hd
  clear ex_2
  refine lv_istore_n (lv' := [(0, .int x_2)]) hx hb dJ6_bitCount_0f7a4_23 rfl hl (by decide) rfl (fun ls hl => ?_)
  refine lv_iload_n hx hb dJ6_bitCount_0f7a4_24 rfl (lv_at hl 0 rfl) ?_
  refine lv_iload_n hx hb dJ6_bitCount_0f7a4_25 rfl (lv_at hl 0 rfl) ?_
  refine lv_iconst (v := 4) hx hb dJ6_bitCount_0f7a4_26 (by decide) ?_
  refine lv_iushr hx hb dJ6_bitCount_0f7a4_27 rfl ?_
  refine lv_iadd hx hb dJ6_bitCount_0f7a4_28 ?_
  refine lv_ldcw hx hb hown kw2 dJ6_bitCount_0f7a4_29 ?_
  refine lv_iand hx hb dJ6_bitCount_0f7a4_32 ?_
  refine lv_topi (fun x_3 ex_3 => ?_)
  replace hd := ob_lx ex_3 hd
  clear ex_3
  refine lv_istore_n (lv' := [(0, .int x_3)]) hx hb dJ6_bitCount_0f7a4_33 rfl hl (by decide) rfl (fun ls hl => ?_)
  refine lv_iload_n hx hb dJ6_bitCount_0f7a4_34 rfl (lv_at hl 0 rfl) ?_
  refine lv_iload_n hx hb dJ6_bitCount_0f7a4_35 rfl (lv_at hl 0 rfl) ?_
  refine lv_bipush (v := 8) hx hb dJ6_bitCount_0f7a4_36 (by decide) ?_
  refine lv_iushr hx hb dJ6_bitCount_0f7a4_38 rfl ?_
  refine lv_iadd hx hb dJ6_bitCount_0f7a4_39 ?_
  refine lv_topi (fun x_4 ex_4 => ?_)
  replace hd := ob_lx ex_4 hd
  clear ex_4
  refine lv_istore_n (lv' := [(0, .int x_4)]) hx hb dJ6_bitCount_0f7a4_40 rfl hl (by decide) rfl (fun ls hl => ?_)
  refine lv_iload_n hx hb dJ6_bitCount_0f7a4_41 rfl (lv_at hl 0 rfl) ?_
  refine lv_iload_n hx hb dJ6_bitCount_0f7a4_42 rfl (lv_at hl 0 rfl) ?_
  refine lv_bipush (v := 16) hx hb dJ6_bitCount_0f7a4_43 (by decide) ?_
  refine lv_iushr hx hb dJ6_bitCount_0f7a4_45 rfl ?_
  refine lv_iadd hx hb dJ6_bitCount_0f7a4_46 ?_
  refine lv_topi (fun x_5 ex_5 => ?_)
  replace hd := ob_lx ex_5 hd
  clear ex_5
  refine lv_istore_n (lv' := [(0, .int x_5)]) hx hb dJ6_bitCount_0f7a4_47 rfl hl (by decide) rfl (fun ls hl => ?_)
  refine lv_iload_n hx hb dJ6_bitCount_0f7a4_48 rfl (lv_at hl 0 rfl) ?_
  refine lv_bipush (v := 63) hx hb dJ6_bitCount_0f7a4_49 (by decide) ?_
  refine lv_iand hx hb dJ6_bitCount_0f7a4_51 ?_
  have e1 := Option.some.inj hd
  subst e1
  exact ob_iret hx hb hr hlocks hP hD hS dJ6_bitCount_0f7a4_52

def fd_J7_fill_53178_L5  : Nat → (Nat → Int32) → Int32 → Int32 → Int32 → Option ((Nat → Int32))
  | 0, _, _, _, _ => none
  | fu + 1, f, x1, z2, z3 => if z3 ≤ z2 then (some (f)) else (if z2 < 0 ∨ 40 ≤ Int32.toNatClampNeg z2 then none else (ob_lt (upd f (Int32.toNatClampNeg z2) x1 : (Nat → Int32)) (fun f_1 => ob_lt (z2 + 1 : Int32) (fun x_2 => fd_J7_fill_53178_L5 fu f_1 x1 x_2 z3))))
def fd_J7_fill_53178  (f : (Nat → Int32)) (x1 : Int32) : Option ((Nat → Int32)) := fd_J7_fill_53178_L5 2000 f x1 0 40
set_option maxHeartbeats 4000000 in
set_option maxRecDepth 100000 in
theorem mt_J7_fill_53178 (l : Launch) (dC : Nat → ClassId) (dI : Nat → Nat → Nat) (cI cZ cR cW : ClassId) (xs : Nat → Nat) (sz : Nat) (o_f : Nat) (f : (Nat → Int32)) (x1 : Int32)  (f' : (Nat → Int32)) (hd : fd_J7_fill_53178 f x1 = some (f')) : ob_M l yJ7_fill_53178 wsJ7_fill_53178 ({ frames := 0, cells := 0, slots := 0, locals := 0 } : Room) (dC, dI) (ob_ty cI cZ cR cW) xs [.ref o_f, .int x1] (ob_wa o_f cI 40 f) sz (ob_Qv (dC, dI) (ob_wa o_f cI 40 f')) := by
  rw [fd_J7_fill_53178] at hd
  refine ob_in (cc := cJ7_fill_53178) (maxL := 4) (ret := none) (own := RJ7) (by decide) rfl rfl [(0, .ref o_f), (1, .int x1)] rfl (Nat.le_of_ble_eq_true rfl) ?_
  intro p e s m below meth c hx hb hr hml hown hts hlocks hnm hK A hA hE hP hD hS ls hl
  have L5 : ∀  (fu : Nat), ∀ (H : Heap) (locs : List Loc) (f : (Nat → Int32)) (z2 : Int32) (z3 : Int32) (ls : Array Slot), va_P (dC, dI) vwCl (ob_wa o_f cI 40 f) H → va_D A (ob_wa o_f cI 40 f) → va_S A s.heap H locs → lv_has ls 4 [(0, .ref o_f), (1, .int x1), (2, .int z2), (3, .int z3)] → fd_J7_fill_53178_L5 fu f x1 z2 z3 = some (f') → W p l e ({ frames := 0, cells := 0, slots := 0, locals := 0 } : Room) s m (List.toArray [.ref o_f, .int x1]) below meth c H locs 0 0 (MQ below ((ob_Qv (dC, dI) (ob_wa o_f cI 40 f')) A) (List.toArray [.ref o_f, .int x1]) s 0 0 A) (F0 m 5 ls []) := by
    intro  fu
    induction fu with
    | zero =>
      intro H locs f z2 z3 ls hP hD hS hl hd
      rw [fd_J7_fill_53178_L5] at hd
      cases hd
    | succ fu ih =>
      intro H locs f z2 z3 ls hP hD hS hl hd
      rw [fd_J7_fill_53178_L5] at hd
      refine lv_iload_n hx hb dJ7_fill_53178_5 rfl (lv_at hl 2 rfl) ?_
      refine lv_iload_n hx hb dJ7_fill_53178_6 rfl (lv_at hl 3 rfl) ?_
      refine lv_icmp_ge (tgt := 20) hx hb dJ7_fill_53178_7 (by decide) (fun c_7 => ?_) (fun c_7 => ?_)
      · replace hd := ob_t c_7 hd
        have e1 := Option.some.inj hd
        subst e1
        exact ob_vret hx hb hr hlocks hP hD hS dJ7_fill_53178_20
      · replace hd := ob_f c_7 hd
        refine lv_aload_n hx hb dJ7_fill_53178_10 rfl (lv_at hl 0 rfl) ?_
        refine lv_iload_n hx hb dJ7_fill_53178_11 rfl (lv_at hl 2 rfl) ?_
        refine lv_iload_n hx hb dJ7_fill_53178_12 rfl (lv_at hl 1 rfl) ?_
        obtain ⟨h1_13, hd⟩ := ob_nn hd
        refine va_iast hx hb hK hP hD hS 0 0 rfl rfl h1_13 dJ7_fill_53178_13 (fun H locs hP hD hS => ?_)
        obtain ⟨f_1, ef_1⟩ : ∃ z : (Nat → Int32), z = upd f (Int32.toNatClampNeg z2) x1 := ⟨_, rfl⟩
        replace hd := ob_lx ef_1 hd
        replace hP : va_P (dC, dI) vwCl (ob_wa o_f cI 40 f_1) H := by rw [ef_1]; exact hP
        replace hD : va_D A (ob_wa o_f cI 40 f_1) := by rw [ef_1]; exact hD
        clear ef_1
        obtain ⟨x_2, ex_2⟩ : ∃ z : Int32, z = z2 + 1 := ⟨_, rfl⟩
        replace hd := ob_lx ex_2 hd
        refine lv_iinc (v := x_2) (lv' := [(2, .int x_2), (0, .ref o_f), (1, .int x1), (3, .int z3)]) hx hb dJ7_fill_53178_14 hl (k := 2) rfl (by rw [ex_2]; rfl) (by decide) rfl (fun ls hl => ?_)
        clear ex_2
        refine lv_goto (tgt := 5) hx hb dJ7_fill_53178_17 (by decide) ?_
        exact ih _ _ f_1 x_2 z3 _ hP hD hS (lv_sub hl [1, 2, 0, 3] rfl) hd
  refine lv_iconst (v := 0) hx hb dJ7_fill_53178_0 (by decide) ?_
  refine lv_istore_n (lv' := [(2, .int 0), (0, .ref o_f), (1, .int x1)]) hx hb dJ7_fill_53178_1 rfl hl (by decide) rfl (fun ls hl => ?_)
  refine lv_aload_n hx hb dJ7_fill_53178_2 rfl (lv_at hl 1 rfl) ?_
  refine va_alen hx hb hK hP 0 0 rfl rfl (v := 40) (by first | rfl | decide) dJ7_fill_53178_3 ?_
  refine lv_istore_n (lv' := [(3, .int 40), (2, .int 0), (0, .ref o_f), (1, .int x1)]) hx hb dJ7_fill_53178_4 rfl hl (by decide) rfl (fun ls hl => ?_)
  exact L5  2000 _ _ f 0 40 _ hP hD hS (lv_sub hl [2, 3, 1, 0] rfl) hd
