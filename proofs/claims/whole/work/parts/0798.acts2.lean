theorem pu_hours {x y m : ob_B} {h : ob_H} {n : Nat} (ho : pu_ok (m.2 12) n) (hr : pu_rr y (m.2 12) n) (hh : pu_hs h m) (a : Int32) : ∃ r y' h' m', fd_X4_hours x y h a = some (r, y', h') ∧ fd_X5_hours m a = some (r, m') ∧ pu_ok (m'.2 12) n ∧ pu_rr y' (m'.2 12) n ∧ pu_hs h' m' ∧ pu_kd m m' := by
  unfold fd_X4_hours fd_X5_hours fd_X5_in
  rcases pu_nor (x := x) ho hr with ⟨-, h1, h5⟩ | ⟨-, h1, h5⟩
  · rw [h1, h5, pu_b1, pu_b1, if_neg pu_10, if_pos rfl]
    exact ⟨_, _, _, _, rfl, rfl, ho, hr, hh, pu_kd_rf⟩
  rw [h1, h5, pu_b1, pu_b1, if_pos rfl, if_neg pu_10]
  by_cases c1 : a < 1
  · rw [if_pos c1, if_pos c1, pu_b1, if_pos rfl]
    exact ⟨_, _, _, _, rfl, rfl, ho, hr, hh, pu_kd_rf⟩
  rw [if_neg c1, if_neg c1]
  by_cases c2 : a ≤ 24
  · have c3 : ¬ (24 : Int32) < a := fun z => absurd (Int32.lt_iff_toInt_lt.mp z) (Int.not_lt.mpr (Int32.le_iff_toInt_le.mp c2))
    obtain ⟨N, hN1, hN, rfl⟩ := pu_rng (lo := 1) (hi := 24) (by omega) (by omega) c1 c3
    rw [if_pos c2, if_neg c3, pu_b1, if_neg pu_10, pu_c3, hr.2.2.2.1]
    by_cases c4 : m.2 12 3 + nI N ≤ 999
    · rw [if_pos c4, if_pos c4]
      exact pu_hourss hN N 0 y m h (by omega) ho hr hh 25 2000 (by omega) (by omega)
    · rw [if_neg c4, if_neg c4]
      exact ⟨_, _, _, _, rfl, rfl, ho, hr, hh, pu_kd_rf⟩
  · have c3 : (24 : Int32) < a := Int32.lt_iff_toInt_lt.mpr (Int.not_le.mp (fun z => c2 (Int32.le_iff_toInt_le.mpr z)))
    rw [if_neg c2, if_pos c3, pu_b1, if_pos rfl]
    exact ⟨_, _, _, _, rfl, rfl, ho, hr, hh, pu_kd_rf⟩
theorem pu_buy {x y m : ob_B} {h : ob_H} {n : Nat} (ho : pu_ok (m.2 12) n) (hr : pu_rr y (m.2 12) n) (hh : pu_hs h m) (a : Int32) : ∃ r y' h' m', fd_X4_buy x y h a = some (r, y', h') ∧ fd_X5_buy m a = some (r, m') ∧ pu_ok (m'.2 12) n ∧ pu_rr y' (m'.2 12) n ∧ pu_hs h' m' ∧ pu_kd m m' := by
  have hn := ho.1
  unfold fd_X4_buy fd_X5_buy
  rcases pu_one (x := x) ho hr a with ⟨h1, h5⟩ | ⟨j, hj, rfl, h1, h5⟩
  · rw [h1, h5, pu_b1, pu_b1, if_pos rfl, if_pos rfl]
    exact ⟨_, _, _, _, rfl, rfl, ho, hr, hh, pu_kd_rf⟩
  rw [h1, h5, pu_b1, pu_b1, if_neg pu_10, if_neg pu_10, pu_35, pu_ck j 7 _ (by omega) (by omega), pu_ck (35 + j) 42 _ (by omega) (by omega), pu_cl (show j < 2147483648 by omega), pu_cl (show 35 + j < 2147483648 by omega), (hr.2.2.2.2.2.2.2 j hj).2.2.2.2]
  by_cases h0 : m.2 12 (35 + j) = 0
  · obtain ⟨h', m1, e1, e2, e3, e4, e5⟩ := pu_rem ho hr hh
    have q12 : m1.2 12 = m.2 12 := e5 12 (by decide)
    have o1 := pu_okc (i := 35 + j) (v := 3) ho (by omega) (by omega) (fun i hi => by omega)
    have r1 := pu_rrA hr hn 11 35 (by omega) hj 3
    obtain ⟨s, s1, s2, s3, s4⟩ := pu_open o1 r1
    have s7 : s < 128 := Nat.lt_of_lt_of_le s1 (pu_pw hn)
    rw [if_pos h0, if_pos h0, e1, e2, pu_b1, pu_b1, pu_ck2 j 7 _ (by omega) (by omega), pu_ck2 (35 + j) 42 _ (by omega) (by omega), pu_lt, pu_lt, q12, show (ob_A m1 12 (upd (m.2 12) (35 + j) 3)).2 12 = upd (m.2 12) (35 + j) 3 from rfl, s3, s4, pu_b1, pu_b1, pu_bc s s7, pu_bt s s7]
    exact ⟨_, _, _, _, rfl, rfl, o1, r1, pu_hs12 e3, pu_kd12 e4 e5⟩
  · rw [if_neg h0, if_neg h0]
    exact ⟨_, _, _, _, rfl, rfl, ho, hr, hh, pu_kd_rf⟩
