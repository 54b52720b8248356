/-! remember, takeBack over the whole history -/
def ob_sl (b : ob_B) : Int32 := ((b.1 1) + (b.1 2)) - ((b.1 1) + (b.1 2)) / 24 * 24
def fd_X0_rem (h : ob_H) (d : ob_B) : Option ob_H :=
  if ob_sl h.1 < 0 ∨ 24 ≤ Int32.toNatClampNeg (ob_sl h.1) then none else
  match h.2 (Int32.toNatClampNeg (ob_sl h.1)) with
  | none => match fd_X0_remNew h.1 d with
    | none => none
    | some q => some (q.1, va_up h.2 (Int32.toNatClampNeg (ob_sl h.1)) (some q.2))
  | some w => match fd_X0_remOld h.1 w d with
    | none => none
    | some q => some (q.1, va_up h.2 (Int32.toNatClampNeg (ob_sl h.1)) (some q.2))
def fd_X0_tak (h : ob_H) (d : ob_B) : Option (Int32 × ob_H × ob_B) :=
  if h.1.1 2 = 0 then some (0, h, d) else
  if ob_sl (ob_I h.1 2 ((h.1.1 2) - 1)) < 0 ∨ 24 ≤ Int32.toNatClampNeg (ob_sl (ob_I h.1 2 ((h.1.1 2) - 1))) then none else
  match h.2 (Int32.toNatClampNeg (ob_sl (ob_I h.1 2 ((h.1.1 2) - 1)))) with
  | none => none
  | some w => match fd_X0_takOld h.1 w d with
    | none => none
    | some q => some (q.1, (q.2.1, h.2), q.2.2)
set_option maxHeartbeats 4000000 in
theorem mt_X0_rem (l : Launch) (dC : Nat → ClassId) (dI : Nat → Nat → Nat) (cI cZ cR cW : ClassId) (xs : Nat → Nat) (sz : Nat) (o_h : Nat) (a_h : Nat → Nat) (ad_h : ob_AH) (o_d : Nat) (a_d : Nat → Nat) (h : ob_H) (d : ob_B) (h' : ob_H) (hd : fd_X0_rem h d = some h') :
    ob_M l yX0_remember wsX0_remember ({ frames := 2, cells := 6, slots := 47, locals := 81 } : Room) (dC, dI) (ob_ty cI cZ cR cW) xs [.ref o_h, .ref o_d] (ob_hw o_h a_h cI cR h ad_h ++ ob_w1 o_d a_d cI d) sz (ob_QvE (dC, dI) (fun (_ : ob_AH) => True) (fun ad' => ob_hw o_h a_h cI cR h' ad' ++ ob_w1 o_d a_d cI d)) := by
  unfold fd_X0_rem at hd
  obtain ⟨hin, hd⟩ := ob_nn hd
  have hj : Int32.toNatClampNeg (ob_sl h.1) < 24 := Nat.not_le.mp (fun q => hin (Or.inr q))
  generalize hJ : Int32.toNatClampNeg (ob_sl h.1) = J at hd hj
  cases hs : h.2 J with
  | none =>
    rw [hs] at hd
    dsimp only at hd
    cases hf : fd_X0_remNew h.1 d with
    | none => rw [hf] at hd; cases hd
    | some q =>
      rw [hf] at hd
      have e1 := Option.some.inj hd
      subst e1
      have hM := mt_X0_remNew l dC dI cI cZ cR cW xs sz o_h a_h (ob_hg h.2 ad_h) o_d a_d h.1 d (by
        show ob_hg h.2 ad_h (Int32.toNatClampNeg (ob_sl h.1)) = none
        rw [hJ]; unfold ob_hg; rw [hs]; rfl) q.1 q.2 hf
      have hp : (ob_hw o_h a_h cI cR h ad_h ++ ob_w1 o_d a_d cI d).Perm ((ob_w0 o_h a_h h.1 ++ ob_wr (a_h 0) cR 24 (ob_hg h.2 ad_h) ++ ob_w1 o_d a_d cI d) ++ ob_rs cI h.2 ad_h J 24) := by
        unfold ob_hw
        have h1 := ob_out0 (cI := cI) (ad := ad_h) hj hs
        rw [List.append_assoc, List.append_assoc, List.append_assoc, List.append_assoc]
        exact List.Perm.append_left _ (List.Perm.append_left _ ((h1.append_right _).trans List.perm_append_comm))
      refine ob_pov (ob_frv _ hM hp) ?_
      rintro ⟨g', qn, an⟩ hg'
      refine ⟨va_up ad_h J (qn, an), trivial, ?_⟩
      have hg2 : g' = ob_hg (va_up h.2 J (some q.2)) (va_up ad_h J (qn, an)) := by
        rw [ob_hg_up]
        have : g' = va_up (ob_hg h.2 ad_h) (Int32.toNatClampNeg (ob_sl h.1)) (some qn) := hg'
        rw [this, hJ]
      have h2 := ob_back (cI := cI) (hb := h.2) (ad := ad_h) q.2 (qn, an) hj
      unfold ob_hw
      dsimp only
      rw [hg2]
      rw [List.append_assoc, List.append_assoc, List.append_assoc, List.append_assoc]
      refine List.perm_append_comm.trans ?_
      rw [List.append_assoc, List.append_assoc, List.append_assoc]
      refine List.Perm.append_left _ (List.Perm.append_left _ ?_)
      refine List.perm_append_comm.trans ?_
      rw [List.append_assoc]
      refine List.Perm.trans ?_ ((h2.symm).append_right _)
      rw [List.append_assoc]
  | some w =>
    rw [hs] at hd
    dsimp only at hd
    cases hf : fd_X0_remOld h.1 w d with
    | none => rw [hf] at hd; cases hd
    | some q =>
      rw [hf] at hd
      have e1 := Option.some.inj hd
      subst e1
      have hM := ob_MvE (mt_X0_remOld l dC dI cI cZ cR cW xs sz o_h a_h (ob_hg h.2 ad_h) (ad_h J).1 (ad_h J).2 o_d a_d h.1 w d (by
        show ob_hg h.2 ad_h (Int32.toNatClampNeg (ob_sl h.1)) = some (ad_h J).1
        rw [hJ]; unfold ob_hg; rw [hs]; rfl) q.1 q.2 hf)
      have hp : (ob_hw o_h a_h cI cR h ad_h ++ ob_w1 o_d a_d cI d).Perm ((ob_w0 o_h a_h h.1 ++ ob_wr (a_h 0) cR 24 (ob_hg h.2 ad_h) ++ ob_w1 (ad_h J).1 (ad_h J).2 cI w ++ ob_w1 o_d a_d cI d) ++ ob_rs cI h.2 ad_h J 24) := by
        unfold ob_hw
        have h1 := ob_out (cI := cI) (ad := ad_h) hj hs
        simp only [List.append_assoc]
        refine List.Perm.append_left _ (List.Perm.append_left _ ((h1.append_right _).trans ?_))
        rw [List.append_assoc]
        exact List.Perm.append_left _ List.perm_append_comm
      refine ob_pov (ob_frv _ hM hp) ?_
      rintro u hu
      refine ⟨ad_h, trivial, ?_⟩
      have h2 := ob_back (cI := cI) (hb := h.2) (ad := ad_h) q.2 (ad_h J) hj
      rw [ob_upad] at h2
      unfold ob_hw
      dsimp only
      rw [ob_hg_same h.2 ad_h J w q.2 hs]
      simp only [List.append_assoc]
      refine List.perm_append_comm.trans ?_
      simp only [List.append_assoc]
      refine List.Perm.append_left _ (List.Perm.append_left _ ?_)
      refine List.Perm.trans ?_ ((h2.symm).append_right _)
      rw [List.append_assoc]
      exact List.Perm.append_left _ List.perm_append_comm
set_option maxHeartbeats 4000000 in
theorem mt_X0_tak (l : Launch) (dC : Nat → ClassId) (dI : Nat → Nat → Nat) (cI cZ cR cW : ClassId) (xs : Nat → Nat) (sz : Nat) (o_h : Nat) (a_h : Nat → Nat) (ad_h : ob_AH) (o_d : Nat) (a_d : Nat → Nat) (h : ob_H) (d : ob_B) (rr : Int32) (h' : ob_H) (d' : ob_B) (hd : fd_X0_tak h d = some (rr, h', d')) :
    ob_M l yX0_takeBack wsX0_takeBack ({ frames := 2, cells := 0, slots := 0, locals := 81 } : Room) (dC, dI) (ob_ty cI cZ cR cW) xs [.ref o_h, .ref o_d] (ob_hw o_h a_h cI cR h ad_h ++ ob_w1 o_d a_d cI d) sz (ob_QiE (dC, dI) (fun (r' : Int32) (_ : ob_AH) => r' = rr) (fun ad' => ob_hw o_h a_h cI cR h' ad' ++ ob_w1 o_d a_d cI d')) := by
  unfold fd_X0_tak at hd
  by_cases h0 : h.1.1 2 = 0
  · replace hd := ob_t h0 hd
    obtain ⟨e1, e2, e3⟩ := ob_pq hd
    subst e1; subst e2; subst e3
    have hM := ob_MiE (mt_X0_takNone l dC dI cI cZ cR cW xs sz o_h a_h (ob_hg h.2 ad_h) o_d a_d h.1 d 0 (by rw [fd_X0_takNone, if_pos h0]))
    have hp : (ob_hw o_h a_h cI cR h ad_h ++ ob_w1 o_d a_d cI d).Perm ((ob_w0 o_h a_h h.1 ++ ob_wr (a_h 0) cR 24 (ob_hg h.2 ad_h) ++ ob_w1 o_d a_d cI d) ++ ob_dy cI h.2 ad_h 24) := by
      unfold ob_hw
      simp only [List.append_assoc]
      exact List.Perm.append_left _ (List.Perm.append_left _ List.perm_append_comm)
    refine ob_poi (ob_fri _ hM hp) ?_
    rintro r u hu
    exact ⟨ad_h, hu, List.perm_append_comm.trans hp.symm⟩
  · replace hd := ob_f h0 hd
    obtain ⟨hin, hd⟩ := ob_nn hd
    have hj : Int32.toNatClampNeg (ob_sl (ob_I h.1 2 ((h.1.1 2) - 1))) < 24 := Nat.not_le.mp (fun q => hin (Or.inr q))
    generalize hJ : Int32.toNatClampNeg (ob_sl (ob_I h.1 2 ((h.1.1 2) - 1))) = J at hd hj
    cases hs : h.2 J with
    | none => rw [hs] at hd; cases hd
    | some w =>
      rw [hs] at hd
      dsimp only at hd
      cases hf : fd_X0_takOld h.1 w d with
      | none => rw [hf] at hd; cases hd
      | some q =>
        rw [hf] at hd
        obtain ⟨e1, e2, e3⟩ := ob_pq hd
        subst e1; subst e2; subst e3
        have hM := ob_MiE (mt_X0_takOld l dC dI cI cZ cR cW xs sz o_h a_h (ob_hg h.2 ad_h) (ad_h J).1 (ad_h J).2 o_d a_d h.1 w d (by
          show ob_hg h.2 ad_h (Int32.toNatClampNeg (ob_sl (ob_I h.1 2 ((h.1.1 2) - 1)))) = some (ad_h J).1
          rw [hJ]; unfold ob_hg; rw [hs]; rfl) q.1 q.2.1 q.2.2 hf)
        have hp : ∀ (x : ob_B) (dd : ob_B), (ob_hw o_h a_h cI cR (x, h.2) ad_h ++ ob_w1 o_d a_d cI dd).Perm ((ob_w0 o_h a_h x ++ ob_wr (a_h 0) cR 24 (ob_hg h.2 ad_h) ++ ob_w1 (ad_h J).1 (ad_h J).2 cI w ++ ob_w1 o_d a_d cI dd) ++ ob_rs cI h.2 ad_h J 24) := by
          intro x dd
          unfold ob_hw
          have h1 := ob_out (cI := cI) (ad := ad_h) hj hs
          simp only [List.append_assoc]
          refine List.Perm.append_left _ (List.Perm.append_left _ ((h1.append_right _).trans ?_))
          rw [List.append_assoc]
          exact List.Perm.append_left _ List.perm_append_comm
        refine ob_poi (ob_fri _ hM (hp h.1 d)) ?_
        rintro r u hu
        exact ⟨ad_h, hu, List.perm_append_comm.trans (hp q.2.1 q.2.2).symm⟩
