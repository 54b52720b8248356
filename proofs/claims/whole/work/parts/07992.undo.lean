theorem pu_undo {x y m : ob_B} {h : ob_H} {n : Nat} (ho : pu_ok (m.2 12) n) (hr : pu_rr y (m.2 12) n) (hh : pu_hs h m) : ∃ r y' h' m' n', fd_X4_undo x y h = some (r, y', h') ∧ fd_X5_undo m = some (r, m') ∧ pu_ok (m'.2 12) n' ∧ pu_rr y' (m'.2 12) n' ∧ pu_hs h' m' ∧ pu_kd m m' := by
  obtain ⟨a, o, ha, hoo, h2, m18, h1, hk⟩ := id hh
  unfold fd_X4_undo fd_X5_undo fd_X0_tak
  by_cases h0 : a = 0
  · have z : nI a = 0 := by rw [h0]; rfl
    rw [h2, m18, if_pos z, if_pos z]
    exact ⟨_, _, _, _, n, rfl, rfl, ho, hr, hh, pu_kd_rf⟩
  · have z : ¬ nI a = 0 := nI_ne0 (by omega) (by omega)
    have z1 : nI a - 1 = nI (a - 1) := pk_sub (a := a) (b := 1) (by omega)
    have hm : (o + (a - 1)) % 24 < 24 := Nat.mod_lt _ (by omega)
    have hsl : ob_sl (ob_I h.1 2 (nI (a - 1))) = nI ((o + (a - 1)) % 24) := pu_sl (a := a - 1) hoo (by omega) ((pu_un h.1.1 (k := 2) (j := 1) (nI (a - 1)) (by decide)).trans h1) (pu_II _ _ _)
    obtain ⟨c, n', c1, c2, c3⟩ := hk (a - 1) (by omega)
    obtain ⟨t1, b1, b2⟩ := pu_become y c
    have ht : fd_X0_takOld h.1 c y = some (1, ob_I h.1 2 (nI (a - 1)), t1) := by
      unfold fd_X0_takOld
      rw [h2, if_neg z, pu_lt, z1, pu_lt]
      rw [show ((ob_I h.1 2 (nI (a - 1))).1 1 + (ob_I h.1 2 (nI (a - 1))).1 2) - ((ob_I h.1 2 (nI (a - 1))).1 1 + (ob_I h.1 2 (nI (a - 1))).1 2) / 24 * 24 = nI ((o + (a - 1)) % 24) from hsl, pu_ck _ 24 _ hm (by omega), b1, pu_b1]
    rw [h2, m18, if_neg z, if_neg z, z1, hsl, pu_ck _ 24 _ hm (by omega), pu_cl (by omega), c1]
    simp only [ht]
    rw [pu_b3, if_neg pu_10, pu_lt, pu_lt, pu_II, pu_II, pu_42]
    rw [show fd_X5_lay 1008 42 ((ob_I m 18 (nI (a - 1))).2 17) ((ob_I m 18 (nI (a - 1))).2 12) (nI (42 * (a - 1))) 0 = some (pu_ly (m.2 17) (m.2 12) (42 * (a - 1)) 0 42) from pu_lay 1008 42 (m.2 17) (m.2 12) (42 * (a - 1)) 0 (by omega) (by omega) (by omega) (by omega), pu_b1, pu_lt]
    have e : ∀ i, i < 42 → pu_ly (m.2 17) (m.2 12) (42 * (a - 1)) 0 42 i = m.2 17 (42 * (a - 1) + i) := fun i hi => by
      have := pu_ly_in (f := m.2 17) (h := m.2 12) (a := 42 * (a - 1)) (c := 0) hi
      rw [Nat.zero_add] at this
      exact this
    refine ⟨nI (a - 1), t1, (ob_I h.1 2 (nI (a - 1)), h.2), ob_A (ob_I m 18 (nI (a - 1))) 12 (pu_ly (m.2 17) (m.2 12) (42 * (a - 1)) 0 42), n', ?_, ?_, pu_ok_cg c2 e, pu_rr_cg c2.1 (b2 _ _ c2.1 c3) e, ⟨a - 1, o, by omega, hoo, pu_II h.1 2 _, pu_II m 18 _, (pu_un h.1.1 (k := 2) (j := 1) (nI (a - 1)) (by decide)).trans h1, fun k hk' => hk k (by omega)⟩, ⟨fun s hs => pu_un _ _ hs, fun s h12 _ => pu_UN _ _ h12⟩⟩
    · rfl
    · rfl
