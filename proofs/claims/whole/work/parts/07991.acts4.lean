theorem pu_swear {x y m : ob_B} {h : ob_H} {n : Nat} (ho : pu_ok (m.2 12) n) (hr : pu_rr y (m.2 12) n) (hh : pu_hs h m) (a c e : Int32) : ∃ r y' h' m', fd_X4_swear x y h a c e = some (r, y', h') ∧ fd_X5_swear m a c e = some (r, m') ∧ pu_ok (m'.2 12) n ∧ pu_rr y' (m'.2 12) n ∧ pu_hs h' m' ∧ pu_kd m m' := by
  have hn := ho.1
  unfold fd_X4_swear fd_X5_swear
  rcases pu_one (x := x) ho hr a with ⟨h1, h5⟩ | ⟨j, hj, rfl, h1, h5⟩
  · rw [h1, h5, pu_b1, pu_b1, if_pos rfl, if_pos rfl]
    exact ⟨_, _, _, _, rfl, rfl, ho, hr, hh, pu_kd_rf⟩
  rw [h1, h5, pu_b1, pu_b1, if_neg pu_10, if_neg pu_10]
  rcases pu_isPlace c with ⟨g4, g5⟩ | ⟨p, hp, rfl, g4, g5⟩
  · rw [g4, g5, pu_b1, pu_b1, if_pos rfl, if_pos rfl]
    exact ⟨_, _, _, _, rfl, rfl, ho, hr, hh, pu_kd_rf⟩
  rw [g4, g5, pu_b1, pu_b1, if_neg pu_10, if_neg pu_10]
  unfold fd_X5_in
  by_cases c1 : e < 1
  · rw [if_pos c1, if_pos c1, pu_b1, if_pos rfl]
    exact ⟨_, _, _, _, rfl, rfl, ho, hr, hh, pu_kd_rf⟩
  rw [if_neg c1, if_neg c1]
  by_cases c2 : e ≤ 20
  · have c3 : ¬ (20 : Int32) < e := fun z => absurd (Int32.lt_iff_toInt_lt.mp z) (Int.not_lt.mpr (Int32.le_iff_toInt_le.mp c2))
    obtain ⟨w, hw1, hw, rfl⟩ := pu_rng (lo := 1) (hi := 20) (by omega) (by omega) c1 c3
    obtain ⟨h', m1, e1, e2, e3, e4, e5⟩ := pu_rem ho hr hh
    have q12 : m1.2 12 = m.2 12 := e5 12 (by decide)
    obtain ⟨y', k1, k2, k3⟩ := pu_openTo ho hr hj hp hw1 hw
    obtain ⟨v, v1, v5⟩ := pu_pull k3 k2 hj
    rw [if_pos c2, if_neg c3, pu_b1, if_neg pu_10, e1, e2, pu_b1, pu_b1, k1, pu_b1, v1, pu_b1, pu_14, pu_21, pu_35, pu_ck (14 + j) 42 _ (by omega) (by omega), pu_lt, pu_ck (21 + j) 42 _ (by omega) (by omega), pu_lt, pu_ck (35 + j) 42 _ (by omega) (by omega), pu_lt, pu_cl (show 14 + j < 2147483648 by omega), pu_cl (show 21 + j < 2147483648 by omega), pu_cl (show 35 + j < 2147483648 by omega), q12]
    refine ⟨v, y', h', ob_A (ob_A (ob_A m1 12 (upd (m.2 12) (14 + j) (nI p))) 12 (upd (upd (m.2 12) (14 + j) (nI p)) (21 + j) (nI w))) 12 (upd (upd (upd (m.2 12) (14 + j) (nI p)) (21 + j) (nI w)) (35 + j) 0), rfl, ?_, k3, k2, pu_hs12 (pu_hs12 (pu_hs12 e3)), ⟨e4, fun s h12 h17 => (pu_UN _ _ h12).trans ((pu_UN _ _ h12).trans ((pu_UN _ _ h12).trans (e5 s h17)))⟩⟩
    show ob_b1 (fd_X5_pullOf (upd (upd (upd (m.2 12) (14 + j) (nI p)) (21 + j) (nI w)) (35 + j) 0) (nI j)) _ = _
    rw [v5]
    rfl
  · have c3 : (20 : Int32) < e := Int32.lt_iff_toInt_lt.mpr (Int.not_le.mp (fun z => c2 (Int32.le_iff_toInt_le.mpr z)))
    rw [if_neg c2, if_pos c3, pu_b1, if_pos rfl]
    exact ⟨_, _, _, _, rfl, rfl, ho, hr, hh, pu_kd_rf⟩
