theorem lw_iv0 : ob_iv ob_SZ ob_zm := by
  refine ⟨rfl, rfl, ⟨0, by omega, rfl, rfl, fun j hj => absurd hj (Nat.not_lt_zero _)⟩, fun i hi => Or.inl ⟨rfl, ?_⟩, ⟨0, by omega, rfl, rfl, fun j hj => absurd hj (Nat.not_lt_zero _)⟩, ⟨0, ⟨by omega, rfl, ⟨0, by omega, rfl⟩, fun j hj => absurd hj (Nat.not_lt_zero _)⟩, rfl, rfl, rfl, rfl, rfl, rfl, rfl, fun j hj => absurd hj (Nat.not_lt_zero _)⟩, ⟨0, 0, by omega, by omega, rfl, rfl, rfl, fun k hk => absurd hk (Nat.not_lt_zero _)⟩, fun k hk => Or.inl ⟨rfl, rfl⟩⟩
  rcases (show i = 0 ∨ i = 1 ∨ i = 2 ∨ i = 3 ∨ i = 4 ∨ i = 5 ∨ i = 6 ∨ i = 7 by omega) with rfl | rfl | rfl | rfl | rfl | rfl | rfl | rfl <;> rfl
set_option maxHeartbeats 4000000 in
set_option maxRecDepth 100000 in
theorem lw_loop {p : Program} {l : Launch} {e : Env} {s : State} {m : MethodId} {below : List Frame} {meth : Method} {c : Code} {b L : Nat} {xs : Nat → Int32} {dC : Nat → ClassId} {dI : Nat → Nat → Nat} {cI cZ cR cW : ClassId} {X : Nat → Nat} {o om : Nat} {am : Nat → Nat} (C : lw_K p s m c b L xs (dC, dI) cI cZ cR cW X) (hr : meth.sig.returnType = ret) (hlocks : meth.locks = false) (hL : L ≤ 384) :
    ∀ (n i : Nat) (u : ob_AX) (S : ob_SX) (mm : ob_B) (H : Heap) (locs : List Loc) (ls : Array Slot), L < i + 6 * n + 6 → i ≤ 390 → ob_iv S mm → va_P (dC, dI) vwCl (ob_wx o cI cR cW u S ++ ob_w5 om am cI cZ mm) H → va_D (fun q : Nat => s.heap.size ≤ q) (ob_wx o cI cR cW u S ++ ob_w5 om am cI cZ mm) → va_S (fun q : Nat => s.heap.size ≤ q) s.heap H locs → lv_has ls 4 [(0, .ref b), (1, .ref o), (2, .ref om), (3, .int (nI i))] → W p l e room_1 s m #[Value.ref b] below meth c H locs (100 + 50 * i) (3000 + 400 * i) (lw_Z below #[Value.ref b] s) (F0 m 18 ls []) := by
  obtain ⟨hx, hb, hml, hown, hts, hX, hbl, hK, hE⟩ := id C
  have hbA : ¬ (fun q : Nat => s.heap.size ≤ q) b := Nat.not_le.mpr hbl
  intro n
  induction n with
  | zero =>
    intro i u S mm H locs ls hn hi hiv hP hD hS hl
    refine lv_iload_n hx hb dL_law_18 rfl (lv_at hl 3 rfl) ?_
    refine lv_aload_n hx hb dL_law_19 rfl (lv_at hl 0 rfl) ?_
    refine va_slen hx hb hX hbl hbA hS dL_law_20 ?_
    refine lv_bipush (v := nI 6) hx hb dL_law_21 (by decide) ?_
    refine lv_isub hx hb dL_law_23 ?_
    refine lv_icmp_gt (tgt := 1341) hx hb dL_law_24 (by decide) (fun _ => ?_) (fun hc => ?_)
    · refine lv_iconst (v := 1) hx hb dL_law_1341 (by decide) ?_
      refine va_forget (fun q hq => hS.2.2 q hq) ?_
      refine W.widen (k := 600000) (n := 7302250) (by omega) (by omega) ?_
      exact lw_ret hx hb hr hlocks dL_law_1342
    · exfalso
      apply hc
      refine Int32.lt_iff_toInt_lt.mpr ?_
      show (nI L - nI 6).toInt < (nI i).toInt
      rw [pk_sub_toInt (by omega) (by omega), nI_toInt (by omega)]
      omega
  | succ n ih =>
    intro i u S mm H locs ls hn hi hiv hP hD hS hl
    refine lv_iload_n hx hb dL_law_18 rfl (lv_at hl 3 rfl) ?_
    refine lv_aload_n hx hb dL_law_19 rfl (lv_at hl 0 rfl) ?_
    refine va_slen hx hb hX hbl hbA hS dL_law_20 ?_
    refine lv_bipush (v := nI 6) hx hb dL_law_21 (by decide) ?_
    refine lv_isub hx hb dL_law_23 ?_
    refine lv_icmp_gt (tgt := 1341) hx hb dL_law_24 (by decide) (fun _ => ?_) (fun hc => ?_)
    · refine lv_iconst (v := 1) hx hb dL_law_1341 (by decide) ?_
      refine va_forget (fun q hq => hS.2.2 q hq) ?_
      refine W.widen (k := 600000) (n := 7302250) (by omega) (by omega) ?_
      exact lw_ret hx hb hr hlocks dL_law_1342
    · have hi6 : i + 6 ≤ L := by
        rcases Nat.lt_or_ge L (i + 6) with q | q
        · exfalso
          apply hc
          refine Int32.lt_iff_toInt_lt.mpr ?_
          show (nI L - nI 6).toInt < (nI i).toInt
          rw [pk_sub_toInt (by omega) (by omega), nI_toInt (by omega)]
          omega
        · exact q
      refine lv_aload_n hx hb dL_law_27 rfl (lv_at hl 0 rfl) ?_
      refine lv_iload_n hx hb dL_law_28 rfl (lv_at hl 3 rfl) ?_
      refine va_sld hx hb hX hbl hbA hS (vp_in_nI (show i < L by omega) (by omega)) dL_law_29 ?_
      refine lv_bipush (v := 63) hx hb dL_law_30 (by decide) ?_
      refine lv_iand hx hb dL_law_32 ?_
      obtain ⟨j, hj, ej⟩ := pk_andE (xs (Int32.toNatClampNeg (nI i))) (m := 63) 6 (by decide)
      rw [ej]
      have kk : ∀ (cells slots : Nat) (u' : ob_AX) (S' : ob_SX) (m' : ob_B) (H1 : Heap) (locs1 : List Loc), cells ≤ 100 + 50 * i + 300 → slots ≤ 3000 + 400 * i + 2350 → ob_iv S' m' → va_P (dC, dI) vwCl (ob_wx o cI cR cW u' S' ++ ob_w5 om am cI cZ m') H1 → va_D (fun q : Nat => s.heap.size ≤ q) (ob_wx o cI cR cW u' S' ++ ob_w5 om am cI cZ m') → va_S (fun q : Nat => s.heap.size ≤ q) s.heap H1 locs1 → W p l e room_1 s m #[Value.ref b] below meth c H1 locs1 cells slots (lw_Z below #[Value.ref b] s) (F0 m 1335 ls []) := by
        intro cells slots u' S' m' H1 locs1 h1 h2 hv hP hD hS
        refine lv_iinc (v := nI (i + 6)) (lv' := [(3, .int (nI (i + 6))), (0, .ref b), (1, .ref o), (2, .ref om)]) hx hb dL_law_1335 hl (k := 3) rfl (nI_add i 6) (by decide) rfl (fun ls hl => ?_)
        refine lv_goto (tgt := 18) hx hb dL_law_1338 (by decide) ?_
        refine W.widen (k := 100 + 50 * (i + 6)) (n := 3000 + 400 * (i + 6)) (by omega) (by omega) ?_
        exact ih (i + 6) u' S' m' H1 locs1 ls (by omega) (by omega) hv hP hD hS (lv_sub hl [1, 2, 3, 0] rfl)
      by_cases hj38 : j < 38
      · have hjj : j = 0 ∨ j = 1 ∨ j = 2 ∨ j = 3 ∨ j = 4 ∨ j = 5 ∨ j = 6 ∨ j = 7 ∨ j = 8 ∨ j = 9 ∨ j = 10 ∨ j = 11 ∨ j = 12 ∨ j = 13 ∨ j = 14 ∨ j = 15 ∨ j = 16 ∨ j = 17 ∨ j = 18 ∨ j = 19 ∨ j = 20 ∨ j = 21 ∨ j = 22 ∨ j = 23 ∨ j = 24 ∨ j = 25 ∨ j = 26 ∨ j = 27 ∨ j = 28 ∨ j = 29 ∨ j = 30 ∨ j = 31 ∨ j = 32 ∨ j = 33 ∨ j = 34 ∨ j = 35 ∨ j = 36 ∨ j = 37 := by omega
        rcases hjj with rfl | rfl | rfl | rfl | rfl | rfl | rfl | rfl | rfl | rfl | rfl | rfl | rfl | rfl | rfl | rfl | rfl | rfl | rfl | rfl | rfl | rfl | rfl | rfl | rfl | rfl | rfl | rfl | rfl | rfl | rfl | rfl | rfl | rfl | rfl | rfl | rfl | rfl
        · refine lv_tableIn (tgt := 200) hx hb dL_law_33 (by decide) (by decide) (off := 167) rfl (by decide) ?_
          exact lc_0 C hiv hP hD hS hl hi6 hL ⟨by omega, by omega⟩ (fun u' S' m' H1 locs1 hv hP hD hS => kk _ _ u' S' m' H1 locs1 (Nat.le_refl _) (Nat.le_refl _) hv hP hD hS)
        · refine lv_tableIn (tgt := 243) hx hb dL_law_33 (by decide) (by decide) (off := 210) rfl (by decide) ?_
          exact lc_1 C hiv hP hD hS hl hi6 hL ⟨by omega, by omega⟩ (fun u' S' m' H1 locs1 hv hP hD hS => kk _ _ u' S' m' H1 locs1 (Nat.le_refl _) (Nat.le_refl _) hv hP hD hS)
        · refine lv_tableIn (tgt := 286) hx hb dL_law_33 (by decide) (by decide) (off := 253) rfl (by decide) ?_
          exact lc_2 C hiv hP hD hS hl hi6 hL ⟨by omega, by omega⟩ (fun u' S' m' H1 locs1 hv hP hD hS => kk _ _ u' S' m' H1 locs1 (Nat.le_refl _) (Nat.le_refl _) hv hP hD hS)
        · refine lv_tableIn (tgt := 349) hx hb dL_law_33 (by decide) (by decide) (off := 316) rfl (by decide) ?_
          exact lc_3 C hiv hP hD hS hl hi6 hL ⟨by omega, by omega⟩ (fun u' S' m' H1 locs1 hv hP hD hS => kk _ _ u' S' m' H1 locs1 (Nat.le_refl _) (Nat.le_refl _) hv hP hD hS)
        · refine lv_tableIn (tgt := 372) hx hb dL_law_33 (by decide) (by decide) (off := 339) rfl (by decide) ?_
          exact lc_4 C hiv hP hD hS hl hi6 hL ⟨by omega, by omega⟩ (fun u' S' m' H1 locs1 hv hP hD hS => kk _ _ u' S' m' H1 locs1 (Nat.le_refl _) (Nat.le_refl _) hv hP hD hS)
        · refine lv_tableIn (tgt := 395) hx hb dL_law_33 (by decide) (by decide) (off := 362) rfl (by decide) ?_
          exact lc_5 C hiv hP hD hS hl hi6 hL ⟨by omega, by omega⟩ (fun u' S' m' H1 locs1 hv hP hD hS => kk _ _ u' S' m' H1 locs1 (Nat.le_refl _) (Nat.le_refl _) hv hP hD hS)
        · refine lv_tableIn (tgt := 408) hx hb dL_law_33 (by decide) (by decide) (off := 375) rfl (by decide) ?_
          exact lc_6 C hiv hP hD hS hl hi6 hL ⟨by omega, by omega⟩ (fun u' S' m' H1 locs1 hv hP hD hS => kk _ _ u' S' m' H1 locs1 (Nat.le_refl _) (Nat.le_refl _) hv hP hD hS)
        · refine lv_tableIn (tgt := 421) hx hb dL_law_33 (by decide) (by decide) (off := 388) rfl (by decide) ?_
          exact lc_7 C hiv hP hD hS hl hi6 hL ⟨by omega, by omega⟩ (fun u' S' m' H1 locs1 hv hP hD hS => kk _ _ u' S' m' H1 locs1 (Nat.le_refl _) (Nat.le_refl _) hv hP hD hS)
        · refine lv_tableIn (tgt := 434) hx hb dL_law_33 (by decide) (by decide) (off := 401) rfl (by decide) ?_
          exact lc_8 C hiv hP hD hS hl hi6 hL ⟨by omega, by omega⟩ (fun u' S' m' H1 locs1 hv hP hD hS => kk _ _ u' S' m' H1 locs1 (Nat.le_refl _) (Nat.le_refl _) hv hP hD hS)
        · refine lv_tableIn (tgt := 457) hx hb dL_law_33 (by decide) (by decide) (off := 424) rfl (by decide) ?_
          exact lc_9 C hiv hP hD hS hl hi6 hL ⟨by omega, by omega⟩ (fun u' S' m' H1 locs1 hv hP hD hS => kk _ _ u' S' m' H1 locs1 (Nat.le_refl _) (Nat.le_refl _) hv hP hD hS)
        · refine lv_tableIn (tgt := 500) hx hb dL_law_33 (by decide) (by decide) (off := 467) rfl (by decide) ?_
          exact lc_10 C hiv hP hD hS hl hi6 hL ⟨by omega, by omega⟩ (fun u' S' m' H1 locs1 hv hP hD hS => kk _ _ u' S' m' H1 locs1 (Nat.le_refl _) (Nat.le_refl _) hv hP hD hS)
        · refine lv_tableIn (tgt := 523) hx hb dL_law_33 (by decide) (by decide) (off := 490) rfl (by decide) ?_
          exact lc_11 C hiv hP hD hS hl hi6 hL ⟨by omega, by omega⟩ (fun u' S' m' H1 locs1 hv hP hD hS => kk _ _ u' S' m' H1 locs1 (Nat.le_refl _) (Nat.le_refl _) hv hP hD hS)
        · refine lv_tableIn (tgt := 556) hx hb dL_law_33 (by decide) (by decide) (off := 523) rfl (by decide) ?_
          exact lc_12 C hiv hP hD hS hl hi6 hL ⟨by omega, by omega⟩ (fun u' S' m' H1 locs1 hv hP hD hS => kk _ _ u' S' m' H1 locs1 (Nat.le_refl _) (Nat.le_refl _) hv hP hD hS)
        · refine lv_tableIn (tgt := 589) hx hb dL_law_33 (by decide) (by decide) (off := 556) rfl (by decide) ?_
          exact lc_13 C hiv hP hD hS hl hi6 hL ⟨by omega, by omega⟩ (fun u' S' m' H1 locs1 hv hP hD hS => kk _ _ u' S' m' H1 locs1 (Nat.le_refl _) (Nat.le_refl _) hv hP hD hS)
        · refine lv_tableIn (tgt := 612) hx hb dL_law_33 (by decide) (by decide) (off := 579) rfl (by decide) ?_
          exact lc_14 C hiv hP hD hS hl hi6 hL ⟨by omega, by omega⟩ (fun u' S' m' H1 locs1 hv hP hD hS => kk _ _ u' S' m' H1 locs1 (Nat.le_refl _) (Nat.le_refl _) hv hP hD hS)
        · refine lv_tableIn (tgt := 635) hx hb dL_law_33 (by decide) (by decide) (off := 602) rfl (by decide) ?_
          exact lc_15 C hiv hP hD hS hl hi6 hL ⟨by omega, by omega⟩ (fun u' S' m' H1 locs1 hv hP hD hS => kk _ _ u' S' m' H1 locs1 (Nat.le_refl _) (Nat.le_refl _) hv hP hD hS)
        · refine lv_tableIn (tgt := 668) hx hb dL_law_33 (by decide) (by decide) (off := 635) rfl (by decide) ?_
          exact lc_16 C hiv hP hD hS hl hi6 hL ⟨by omega, by omega⟩ (fun u' S' m' H1 locs1 hv hP hD hS => kk _ _ u' S' m' H1 locs1 (Nat.le_refl _) (Nat.le_refl _) hv hP hD hS)
        · refine lv_tableIn (tgt := 691) hx hb dL_law_33 (by decide) (by decide) (off := 658) rfl (by decide) ?_
          exact lc_17 C hiv hP hD hS hl hi6 hL ⟨by omega, by omega⟩ (fun u' S' m' H1 locs1 hv hP hD hS => kk _ _ u' S' m' H1 locs1 (Nat.le_refl _) (Nat.le_refl _) hv hP hD hS)
        · refine lv_tableIn (tgt := 714) hx hb dL_law_33 (by decide) (by decide) (off := 681) rfl (by decide) ?_
          exact lc_18 C hiv hP hD hS hl hi6 hL ⟨by omega, by omega⟩ (fun u' S' m' H1 locs1 hv hP hD hS => kk _ _ u' S' m' H1 locs1 (Nat.le_refl _) (Nat.le_refl _) hv hP hD hS)
        · refine lv_tableIn (tgt := 737) hx hb dL_law_33 (by decide) (by decide) (off := 704) rfl (by decide) ?_
          exact lc_19 C hiv hP hD hS hl hi6 hL ⟨by omega, by omega⟩ (fun u' S' m' H1 locs1 hv hP hD hS => kk _ _ u' S' m' H1 locs1 (Nat.le_refl _) (Nat.le_refl _) hv hP hD hS)
        · refine lv_tableIn (tgt := 750) hx hb dL_law_33 (by decide) (by decide) (off := 717) rfl (by decide) ?_
          exact lc_20 C hiv hP hD hS hl hi6 hL ⟨by omega, by omega⟩ (fun u' S' m' H1 locs1 hv hP hD hS => kk _ _ u' S' m' H1 locs1 (Nat.le_refl _) (Nat.le_refl _) hv hP hD hS)
        · refine lv_tableIn (tgt := 793) hx hb dL_law_33 (by decide) (by decide) (off := 760) rfl (by decide) ?_
          exact lc_21 C hiv hP hD hS hl hi6 hL ⟨by omega, by omega⟩ (fun u' S' m' H1 locs1 hv hP hD hS => kk _ _ u' S' m' H1 locs1 (Nat.le_refl _) (Nat.le_refl _) hv hP hD hS)
        · refine lv_tableIn (tgt := 836) hx hb dL_law_33 (by decide) (by decide) (off := 803) rfl (by decide) ?_
          exact lc_22 C hiv hP hD hS hl hi6 hL ⟨by omega, by omega⟩ (fun u' S' m' H1 locs1 hv hP hD hS => kk _ _ u' S' m' H1 locs1 (Nat.le_refl _) (Nat.le_refl _) hv hP hD hS)
        · refine lv_tableIn (tgt := 859) hx hb dL_law_33 (by decide) (by decide) (off := 826) rfl (by decide) ?_
          exact lc_23 C hiv hP hD hS hl hi6 hL ⟨by omega, by omega⟩ (fun u' S' m' H1 locs1 hv hP hD hS => kk _ _ u' S' m' H1 locs1 (Nat.le_refl _) (Nat.le_refl _) hv hP hD hS)
        · refine lv_tableIn (tgt := 902) hx hb dL_law_33 (by decide) (by decide) (off := 869) rfl (by decide) ?_
          exact lc_24 C hiv hP hD hS hl hi6 hL ⟨by omega, by omega⟩ (fun u' S' m' H1 locs1 hv hP hD hS => kk _ _ u' S' m' H1 locs1 (Nat.le_refl _) (Nat.le_refl _) hv hP hD hS)
        · refine lv_tableIn (tgt := 955) hx hb dL_law_33 (by decide) (by decide) (off := 922) rfl (by decide) ?_
          exact lc_25 C hiv hP hD hS hl hi6 hL ⟨by omega, by omega⟩ (fun u' S' m' H1 locs1 hv hP hD hS => kk _ _ u' S' m' H1 locs1 (Nat.le_refl _) (Nat.le_refl _) hv hP hD hS)
        · refine lv_tableIn (tgt := 1008) hx hb dL_law_33 (by decide) (by decide) (off := 975) rfl (by decide) ?_
          exact lc_26 C hiv hP hD hS hl hi6 hL ⟨by omega, by omega⟩ (fun u' S' m' H1 locs1 hv hP hD hS => kk _ _ u' S' m' H1 locs1 (Nat.le_refl _) (Nat.le_refl _) hv hP hD hS)
        · refine lv_tableIn (tgt := 1031) hx hb dL_law_33 (by decide) (by decide) (off := 998) rfl (by decide) ?_
          exact lc_27 C hiv hP hD hS hl hi6 hL ⟨by omega, by omega⟩ (fun u' S' m' H1 locs1 hv hP hD hS => kk _ _ u' S' m' H1 locs1 (Nat.le_refl _) (Nat.le_refl _) hv hP hD hS)
        · refine lv_tableIn (tgt := 1075) hx hb dL_law_33 (by decide) (by decide) (off := 1042) rfl (by decide) ?_
          exact lc_28 C hiv hP hD hS hl hi6 hL ⟨by omega, by omega⟩ (fun u' S' m' H1 locs1 hv hP hD hS => kk _ _ u' S' m' H1 locs1 (Nat.le_refl _) (Nat.le_refl _) hv hP hD hS)
        · refine lv_tableIn (tgt := 1098) hx hb dL_law_33 (by decide) (by decide) (off := 1065) rfl (by decide) ?_
          exact lc_29 C hiv hP hD hS hl hi6 hL ⟨by omega, by omega⟩ (fun u' S' m' H1 locs1 hv hP hD hS => kk _ _ u' S' m' H1 locs1 (Nat.le_refl _) (Nat.le_refl _) hv hP hD hS)
        · refine lv_tableIn (tgt := 1141) hx hb dL_law_33 (by decide) (by decide) (off := 1108) rfl (by decide) ?_
          exact lc_30 C hiv hP hD hS hl hi6 hL ⟨by omega, by omega⟩ (fun u' S' m' H1 locs1 hv hP hD hS => kk _ _ u' S' m' H1 locs1 (Nat.le_refl _) (Nat.le_refl _) hv hP hD hS)
        · refine lv_tableIn (tgt := 1164) hx hb dL_law_33 (by decide) (by decide) (off := 1131) rfl (by decide) ?_
          exact lc_31 C hiv hP hD hS hl hi6 hL ⟨by omega, by omega⟩ (fun u' S' m' H1 locs1 hv hP hD hS => kk _ _ u' S' m' H1 locs1 (Nat.le_refl _) (Nat.le_refl _) hv hP hD hS)
        · refine lv_tableIn (tgt := 1187) hx hb dL_law_33 (by decide) (by decide) (off := 1154) rfl (by decide) ?_
          exact lc_32 C hiv hP hD hS hl hi6 hL ⟨by omega, by omega⟩ (fun u' S' m' H1 locs1 hv hP hD hS => kk _ _ u' S' m' H1 locs1 (Nat.le_refl _) (Nat.le_refl _) hv hP hD hS)
        · refine lv_tableIn (tgt := 1210) hx hb dL_law_33 (by decide) (by decide) (off := 1177) rfl (by decide) ?_
          exact lc_33 C hiv hP hD hS hl hi6 hL ⟨by omega, by omega⟩ (fun u' S' m' H1 locs1 hv hP hD hS => kk _ _ u' S' m' H1 locs1 (Nat.le_refl _) (Nat.le_refl _) hv hP hD hS)
        · refine lv_tableIn (tgt := 1243) hx hb dL_law_33 (by decide) (by decide) (off := 1210) rfl (by decide) ?_
          exact lc_34 C hiv hP hD hS hl hi6 hL ⟨by omega, by omega⟩ (fun u' S' m' H1 locs1 hv hP hD hS => kk _ _ u' S' m' H1 locs1 (Nat.le_refl _) (Nat.le_refl _) hv hP hD hS)
        · refine lv_tableIn (tgt := 1276) hx hb dL_law_33 (by decide) (by decide) (off := 1243) rfl (by decide) ?_
          exact lc_35 C hiv hP hD hS hl hi6 hL ⟨by omega, by omega⟩ (fun u' S' m' H1 locs1 hv hP hD hS => kk _ _ u' S' m' H1 locs1 (Nat.le_refl _) (Nat.le_refl _) hv hP hD hS)
        · refine lv_tableIn (tgt := 1299) hx hb dL_law_33 (by decide) (by decide) (off := 1266) rfl (by decide) ?_
          exact lc_36 C hiv hP hD hS hl hi6 hL ⟨by omega, by omega⟩ (fun u' S' m' H1 locs1 hv hP hD hS => kk _ _ u' S' m' H1 locs1 (Nat.le_refl _) (Nat.le_refl _) hv hP hD hS)
        · refine lv_tableIn (tgt := 1322) hx hb dL_law_33 (by decide) (by decide) (off := 1289) rfl (by decide) ?_
          exact lc_37 C hiv hP hD hS hl hi6 hL ⟨by omega, by omega⟩ (fun u' S' m' H1 locs1 hv hP hD hS => kk _ _ u' S' m' H1 locs1 (Nat.le_refl _) (Nat.le_refl _) hv hP hD hS)
      · refine lv_tableOut (tgt := 1335) hx hb dL_law_33 (Or.inr ?_) (by decide) ?_
        · rw [nI_toInt (by omega)]
          omega
        · exact kk _ _ u S mm H locs (by omega) (by omega) hiv hP hD hS
