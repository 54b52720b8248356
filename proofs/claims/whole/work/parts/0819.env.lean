theorem lw_hA {s : State} : ∀ a : Nat, a < s.heap.size → ¬ (fun q : Nat => s.heap.size ≤ q) a := fun _ h => Nat.not_le.mpr h
set_option maxRecDepth 20000 in
theorem lw_T0 {s : State} {b : Nat} (hgv : (Jvm.Cond.and given_1 narrow_1).before #[Value.ref b] s = true) : ∃ t : Nat, (Term.static "OathCoach" "KIND_ABOVE" "[I").eval #[Value.ref b] s none [] s = some (.ref t) ∧ va_T .int t 6 (fun j => .int (([0, 0, 1, 1, 0, 4] : List Int32).getD j 0)) (fun q : Nat => s.heap.size ≤ q) s s.heap := by
  have hs := flat_of_before _ hgv
  refine va_Tof (tm := (Term.static "OathCoach" "KIND_ABOVE" "[I")) (ty := .int) (N := 6) (by decide) (hs (.arrayOf (Term.static "OathCoach" "KIND_ABOVE" "[I") .int) (by decide +kernel)) (va_eqt (z := 6) (hs (.eq (.length (Term.static "OathCoach" "KIND_ABOVE" "[I")) (.int 6)) (by decide +kernel))) (fun j hj => ?_) lw_hA
  rcases (show j = 0 ∨ j = 1 ∨ j = 2 ∨ j = 3 ∨ j = 4 ∨ j = 5 by omega) with rfl | rfl | rfl | rfl | rfl | rfl
  · exact va_eqt (z := 0) (hs (.eq (.elem (Term.static "OathCoach" "KIND_ABOVE" "[I") (.int 0)) (.int 0)) (by decide +kernel))
  · exact va_eqt (z := 0) (hs (.eq (.elem (Term.static "OathCoach" "KIND_ABOVE" "[I") (.int 1)) (.int 0)) (by decide +kernel))
  · exact va_eqt (z := 1) (hs (.eq (.elem (Term.static "OathCoach" "KIND_ABOVE" "[I") (.int 2)) (.int 1)) (by decide +kernel))
  · exact va_eqt (z := 1) (hs (.eq (.elem (Term.static "OathCoach" "KIND_ABOVE" "[I") (.int 3)) (.int 1)) (by decide +kernel))
  · exact va_eqt (z := 0) (hs (.eq (.elem (Term.static "OathCoach" "KIND_ABOVE" "[I") (.int 4)) (.int 0)) (by decide +kernel))
  · exact va_eqt (z := 4) (hs (.eq (.elem (Term.static "OathCoach" "KIND_ABOVE" "[I") (.int 5)) (.int 4)) (by decide +kernel))
set_option maxRecDepth 20000 in
theorem lw_T1 {s : State} {b : Nat} (hgv : (Jvm.Cond.and given_1 narrow_1).before #[Value.ref b] s = true) : ∃ t : Nat, (Term.static "OathCoach" "SIZE_BODY" "[I").eval #[Value.ref b] s none [] s = some (.ref t) ∧ va_T .int t 6 (fun j => .int (([10, 11, 12, 0, 13, 14] : List Int32).getD j 0)) (fun q : Nat => s.heap.size ≤ q) s s.heap := by
  have hs := flat_of_before _ hgv
  refine va_Tof (tm := (Term.static "OathCoach" "SIZE_BODY" "[I")) (ty := .int) (N := 6) (by decide) (hs (.arrayOf (Term.static "OathCoach" "SIZE_BODY" "[I") .int) (by decide +kernel)) (va_eqt (z := 6) (hs (.eq (.length (Term.static "OathCoach" "SIZE_BODY" "[I")) (.int 6)) (by decide +kernel))) (fun j hj => ?_) lw_hA
  rcases (show j = 0 ∨ j = 1 ∨ j = 2 ∨ j = 3 ∨ j = 4 ∨ j = 5 by omega) with rfl | rfl | rfl | rfl | rfl | rfl
  · exact va_eqt (z := 10) (hs (.eq (.elem (Term.static "OathCoach" "SIZE_BODY" "[I") (.int 0)) (.int 10)) (by decide +kernel))
  · exact va_eqt (z := 11) (hs (.eq (.elem (Term.static "OathCoach" "SIZE_BODY" "[I") (.int 1)) (.int 11)) (by decide +kernel))
  · exact va_eqt (z := 12) (hs (.eq (.elem (Term.static "OathCoach" "SIZE_BODY" "[I") (.int 2)) (.int 12)) (by decide +kernel))
  · exact va_eqt (z := 0) (hs (.eq (.elem (Term.static "OathCoach" "SIZE_BODY" "[I") (.int 3)) (.int 0)) (by decide +kernel))
  · exact va_eqt (z := 13) (hs (.eq (.elem (Term.static "OathCoach" "SIZE_BODY" "[I") (.int 4)) (.int 13)) (by decide +kernel))
  · exact va_eqt (z := 14) (hs (.eq (.elem (Term.static "OathCoach" "SIZE_BODY" "[I") (.int 5)) (.int 14)) (by decide +kernel))
set_option maxRecDepth 20000 in
theorem lw_T2 {s : State} {b : Nat} (hgv : (Jvm.Cond.and given_1 narrow_1).before #[Value.ref b] s = true) : ∃ t : Nat, (Term.static "OathCoach" "MARK_BODY" "[I").eval #[Value.ref b] s none [] s = some (.ref t) ∧ va_T .int t 6 (fun j => .int (([20, 21, 24, 22, 23, 0] : List Int32).getD j 0)) (fun q : Nat => s.heap.size ≤ q) s s.heap := by
  have hs := flat_of_before _ hgv
  refine va_Tof (tm := (Term.static "OathCoach" "MARK_BODY" "[I")) (ty := .int) (N := 6) (by decide) (hs (.arrayOf (Term.static "OathCoach" "MARK_BODY" "[I") .int) (by decide +kernel)) (va_eqt (z := 6) (hs (.eq (.length (Term.static "OathCoach" "MARK_BODY" "[I")) (.int 6)) (by decide +kernel))) (fun j hj => ?_) lw_hA
  rcases (show j = 0 ∨ j = 1 ∨ j = 2 ∨ j = 3 ∨ j = 4 ∨ j = 5 by omega) with rfl | rfl | rfl | rfl | rfl | rfl
  · exact va_eqt (z := 20) (hs (.eq (.elem (Term.static "OathCoach" "MARK_BODY" "[I") (.int 0)) (.int 20)) (by decide +kernel))
  · exact va_eqt (z := 21) (hs (.eq (.elem (Term.static "OathCoach" "MARK_BODY" "[I") (.int 1)) (.int 21)) (by decide +kernel))
  · exact va_eqt (z := 24) (hs (.eq (.elem (Term.static "OathCoach" "MARK_BODY" "[I") (.int 2)) (.int 24)) (by decide +kernel))
  · exact va_eqt (z := 22) (hs (.eq (.elem (Term.static "OathCoach" "MARK_BODY" "[I") (.int 3)) (.int 22)) (by decide +kernel))
  · exact va_eqt (z := 23) (hs (.eq (.elem (Term.static "OathCoach" "MARK_BODY" "[I") (.int 4)) (.int 23)) (by decide +kernel))
  · exact va_eqt (z := 0) (hs (.eq (.elem (Term.static "OathCoach" "MARK_BODY" "[I") (.int 5)) (.int 0)) (by decide +kernel))
set_option maxRecDepth 20000 in
theorem lw_TS {s : State} {b : Nat} (hgv : (Jvm.Cond.and given_1 narrow_1).before #[Value.ref b] s = true) : ∃ k v : Nat, vk_S 1 [5] [[111, 109, 108, 102, 118]] (fun _ => k) (fun _ => v) (fun q : Nat => s.heap.size ≤ q) s s.heap ∧ (Term.string "OathCoach$Tape" 58).eval #[Value.ref b] s none [] s = some (.ref k) := by
  have hs := flat_of_before _ hgv
  obtain ⟨adK, adV, h1, h2⟩ := vk_Sof (args := #[Value.ref b]) (s := s) (N := 1) (tm := fun _ => (Term.string "OathCoach$Tape" 58)) (len := [5]) (byt := [[111, 109, 108, 102, 118]]) (A := fun q : Nat => s.heap.size ≤ q)
    (fun i hi => by rcases (show i = 0 by omega) with rfl; decide)
    (fun i _ => hs (.exactly (Term.string "OathCoach$Tape" 58) "java/lang/String") (by decide +kernel))
    (fun i _ => hs (.eq (.field (Term.string "OathCoach$Tape" 58) "java/lang/String" "coder" "B") (.int 0)) (by decide +kernel))
    (fun i _ => hs (.arrayOf (Term.field (Term.string "OathCoach$Tape" 58) "java/lang/String" "value" "[B") .byte) (by decide +kernel))
    (fun i hi => by rcases (show i = 0 by omega) with rfl; exact hs (.eq (.length (Term.field (Term.string "OathCoach$Tape" 58) "java/lang/String" "value" "[B")) (.int 5)) (by decide +kernel))
    (fun i hi j hj => by
      rcases (show i = 0 by omega) with rfl
      rcases (show j = 0 ∨ j = 1 ∨ j = 2 ∨ j = 3 ∨ j = 4 by have : j < 5 := hj; omega) with rfl | rfl | rfl | rfl | rfl
      · exact hs (.eq (.elem (Term.field (Term.string "OathCoach$Tape" 58) "java/lang/String" "value" "[B") (.int 0)) (.int 111)) (by decide +kernel)
      · exact hs (.eq (.elem (Term.field (Term.string "OathCoach$Tape" 58) "java/lang/String" "value" "[B") (.int 1)) (.int 109)) (by decide +kernel)
      · exact hs (.eq (.elem (Term.field (Term.string "OathCoach$Tape" 58) "java/lang/String" "value" "[B") (.int 2)) (.int 108)) (by decide +kernel)
      · exact hs (.eq (.elem (Term.field (Term.string "OathCoach$Tape" 58) "java/lang/String" "value" "[B") (.int 3)) (.int 102)) (by decide +kernel)
      · exact hs (.eq (.elem (Term.field (Term.string "OathCoach$Tape" 58) "java/lang/String" "value" "[B") (.int 4)) (.int 118)) (by decide +kernel))
    (fun i j hi hj hne => absurd (show i = j by omega) hne) lw_hA
  refine ⟨adK 0, adV 0, ⟨fun i hi => ?_, fun i j hi hj _ => by omega⟩, h2 0 (by omega)⟩
  rcases (show i = 0 by omega) with rfl
  exact h1.1 0 (by omega)
set_option maxRecDepth 20000 in
theorem lw_E {s : State} {b : Nat} (hts : ∀ w ∈ lw_tbl, w.before #[Value.ref b] s = true) (hgv : (Jvm.Cond.and given_1 narrow_1).before #[Value.ref b] s = true) : ∃ X : Nat → Nat, ob_E X (fun q : Nat => s.heap.size ≤ q) s s.heap := by
  have hs := flat_of_before _ hgv
  obtain ⟨t0, e0, h0⟩ := lw_T0 hgv
  obtain ⟨t1, e1, h1⟩ := lw_T1 hgv
  obtain ⟨t2, e2, h2⟩ := lw_T2 hgv
  obtain ⟨k, v, hS, eS⟩ := lw_TS hgv
  have hi := hts (.initialized "OathCoach") (by decide +kernel)
  refine ⟨fun j => if j = 0 then t0 else if j = 1 then t1 else if j = 2 then t2 else if j = 3 then k else v, ?_, h0, ?_, h1, ?_, h2, ?_, hS, ?_, ?_, ?_, ?_, ?_, ?_, ?_, ?_⟩
  · exact va_Zof (hts (.laysStatic "OathCoach" "KIND_ABOVE" "[I") (by decide +kernel)) hi e0 lw_hA
  · exact va_Zof (hts (.laysStatic "OathCoach" "SIZE_BODY" "[I") (by decide +kernel)) hi e1 lw_hA
  · exact va_Zof (hts (.laysStatic "OathCoach" "MARK_BODY" "[I") (by decide +kernel)) hi e2 lw_hA
  · exact vk_R.of (hts (.stringRef "OathCoach$Tape" 58 "omlfv") (by decide +kernel)) eS
  · exact va_Zof (hts (.laysStatic "java/lang/String" "COMPACT_STRINGS" "Z") (by decide +kernel)) (hts (.initialized "java/lang/String") (by decide +kernel)) (va_eqt (z := 1) (hs (.eq (.static "java/lang/String" "COMPACT_STRINGS" "Z") (.int 1)) (by decide +kernel))) lw_hA
  · exact va_Nw.of rfl (hts (.methodLinkNest "OathCoach" 17 ⟨"OathCoach$Tape", "<init>", "()V"⟩ "OathCoach") (by decide +kernel))
  · exact va_Nw.of rfl (hts (.methodLinkNest "OathCoach" 24 ⟨"OathCoach$Route", "<init>", "()V"⟩ "OathCoach") (by decide +kernel))
  · exact va_Nw.of rfl (hts (.methodLinkNest "OathCoach" 34 ⟨"OathCoach$History", "<init>", "()V"⟩ "OathCoach") (by decide +kernel))
  · exact va_Nw.of rfl (hts (.methodLinkNest "OathCoach" 57 ⟨"OathCoach$Row", "<init>", "()V"⟩ "OathCoach") (by decide +kernel))
  · exact va_Nw.of rfl (hts (.methodLinkNest "OathCoach$History" 24 ⟨"OathCoach$Route", "<init>", "()V"⟩ "OathCoach") (by decide +kernel))
  · exact va_AO.of (hts (.arrayOver (.object "OathCoach$Route")) (by decide +kernel))
  · exact va_AO.of (hts (.arrayOver (.object "OathCoach$Row")) (by decide +kernel))
set_option maxRecDepth 20000 in
theorem lw_KK {s : State} {b : Nat} (hts : ∀ w ∈ lw_tbl, w.before #[Value.ref b] s = true) : ∃ (dC : Nat → ClassId) (dI : Nat → Nat → Nat) (cI cZ cR cW : ClassId), va_K (dC, dI) vwCl (ob_ty cI cZ cR cW) s := by
  obtain ⟨c0, i0, k0⟩ := u_known (C := RX0) (T := TX0) (N := 3) (n := 3) hts linX0 (hts (.instantiable RX0 3) (by decide +kernel))
  obtain ⟨c1, i1, k1⟩ := u_known (C := RX1) (T := TX1) (N := 12) (n := 12) hts linX1 (hts (.instantiable RX1 12) (by decide +kernel))
  obtain ⟨c2, i2, k2⟩ := u_known (C := RX2) (T := TX2) (N := 4) (n := 4) hts linX2 (hts (.instantiable RX2 4) (by decide +kernel))
  obtain ⟨c3, i3, k3⟩ := u_known (C := RX3) (T := TX3) (N := 4) (n := 4) hts linX3 (hts (.instantiable RX3 4) (by decide +kernel))
  obtain ⟨c4, i4, k4⟩ := u_known (C := RX4) (T := TX4) (N := 10) (n := 10) hts linX4 (hts (.instantiable RX4 10) (by decide +kernel))
  obtain ⟨c5, i5, k5⟩ := u_known (C := RX5) (T := TX5) (N := 23) (n := 23) hts linX5 (hts (.instantiable RX5 23) (by decide +kernel))
  obtain ⟨cI, kI, pI, a1, a2, a3⟩ := Cond.arrayClass_spec (hts (.arrayClass .int) (by decide +kernel))
  obtain ⟨cZ, kZ, pZ, z1, z2, z3⟩ := Cond.arrayClass_spec (hts (.arrayClass .boolean) (by decide +kernel))
  obtain ⟨pR, cR, kR, r1, -, r2, r3, r4⟩ := Cond.arrayOver_spec (hts (.arrayOver (.object "OathCoach$Route")) (by decide +kernel))
  obtain ⟨pW, cW, kW, w1, -, w2, w3, w4⟩ := Cond.arrayOver_spec (hts (.arrayOver (.object "OathCoach$Row")) (by decide +kernel))
  refine ⟨fun k => if k = 0 then c0 else if k = 1 then c1 else if k = 2 then c2 else if k = 3 then c3 else if k = 4 then c4 else c5, fun k => if k = 0 then i0 else if k = 1 then i1 else if k = 2 then i2 else if k = 3 then i3 else if k = 4 then i4 else i5, cI, cZ, cR, cW, ?_, ?_⟩
  · intro k q hq
    match k, hq with
    | 0, hq => cases hq; exact k0
    | 1, hq => cases hq; exact k1
    | 2, hq => cases hq; exact k2
    | 3, hq => cases hq; exact k3
    | 4, hq => cases hq; exact k4
    | 5, hq => cases hq; exact k5
    | k + 6, hq => simp [vwCl] at hq
  · intro k q hq
    match k, hq with
    | 0, hq => cases hq; exact ⟨fun N z => ⟨(fun k h => by cases h), kI, a2, pI, a3⟩, a1⟩
    | 1, hq => cases hq; exact ⟨fun N z => ⟨(fun k h => by cases h), kZ, z2, pZ, z3⟩, z1⟩
    | 2, hq => cases hq; exact ⟨fun N z => ⟨(fun k h => by cases h), kR, r2, pR, r3⟩, kR, pR, r2, r3, r1, r4⟩
    | 3, hq => cases hq; exact ⟨fun N z => ⟨(fun k h => by cases h), kW, w2, pW, w3⟩, kW, pW, w2, w3, w1, w4⟩
    | k + 4, hq => simp [ob_ty] at hq
