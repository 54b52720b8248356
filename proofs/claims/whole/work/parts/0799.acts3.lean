theorem pu_snow {x y m : ob_B} {h : ob_H} {n : Nat} (ho : pu_ok (m.2 12) n) (hr : pu_rr y (m.2 12) n) (hh : pu_hs h m) (a c : Int32) : ∃ r y' h' m', fd_X4_snow x y h a c = some (r, y', h') ∧ fd_X5_snow m a c = some (r, m') ∧ pu_ok (m'.2 12) n ∧ pu_rr y' (m'.2 12) n ∧ pu_hs h' m' ∧ pu_kd m m' := by
  have hn := ho.1
  unfold fd_X4_snow fd_X5_snow
  rcases pu_nor (x := x) ho hr with ⟨-, h1, h5⟩ | ⟨-, h1, h5⟩
  · rw [h1, h5, pu_b1, pu_b1, if_neg pu_10, if_pos rfl]
    exact ⟨_, _, _, _, rfl, rfl, ho, hr, hh, pu_kd_rf⟩
  rw [h1, h5, pu_b1, pu_b1, if_pos rfl, if_neg pu_10]
  rcases pu_isPlace a with ⟨g4, g5⟩ | ⟨p, hp, rfl, g4, g5⟩
  · rw [g4, g5, pu_b1, pu_b1, if_pos rfl, if_pos rfl]
    exact ⟨_, _, _, _, rfl, rfl, ho, hr, hh, pu_kd_rf⟩
  rw [g4, g5, pu_b1, pu_b1, if_neg pu_10, if_neg pu_10]
  rcases pu_either c with ⟨g4, g5⟩ | ⟨-, g4, g5⟩
  · rw [g4, g5, pu_b1, pu_b1, if_pos rfl, if_pos rfl]
    exact ⟨_, _, _, _, rfl, rfl, ho, hr, hh, pu_kd_rf⟩
  rw [g4, g5, pu_b1, pu_b1, if_neg pu_10, if_neg pu_10, pu_c4, hr.2.2.2.2.1]
  by_cases h0 : (m.2 12 4 >>> (nI p &&& 31)) &&& 1 = c
  · rw [if_pos h0, if_pos h0]
    exact ⟨_, _, _, _, rfl, rfl, ho, hr, hh, pu_kd_rf⟩
  · obtain ⟨h', m1, e1, e2, e3, e4, e5⟩ := pu_rem ho hr hh
    have q12 : m1.2 12 = m.2 12 := e5 12 (by decide)
    have o1 := pu_okc (i := 4) (v := m.2 12 4 ^^^ (1 <<< (nI p &&& 31))) ho (by omega) (by omega) (fun i hi => by omega)
    have r1 := pu_rrI hr hn 3 4 (by omega) (m.2 12 4 ^^^ (1 <<< (nI p &&& 31)))
    rw [if_neg h0, if_neg h0, e1, e2, pu_b1, pu_b1, pu_lt, pu_lt, pu_lt, pu_lt, q12, pu_II, pu_AA, pu_us]
    exact ⟨_, _, _, _, rfl, rfl, o1, r1, pu_hs12 e3, pu_kd12 e4 e5⟩
