/-- the tape against the reference's -/
def pu_tp (q m : ob_B) : Prop := ∃ k, k ≤ 100 ∧ q.1 1 = nI k ∧ m.1 4 = nI k ∧ ∀ j, j < k → q.2 0 j = m.2 5 j ∧ ∃ v, v < 256 ∧ m.2 5 j = nI v
theorem pu_feed {x q m : ob_B} (ht : pu_tp q m) (a : Int32) : ∃ r q' m', fd_X4_feed x q a = some (r, q') ∧ fd_X5_feed m a = some (r, m') ∧ pu_tp q' m' ∧ (∀ k, k ≠ 4 → m'.1 k = m.1 k) ∧ ∀ k, k ≠ 5 → m'.2 k = m.2 k := by
  obtain ⟨k, hk, q1, m4, hb⟩ := id ht
  unfold fd_X4_feed fd_X5_feed fd_X5_in
  by_cases h1 : a < 0
  · rw [if_pos h1, if_pos h1, pu_b1, if_pos rfl]
    exact ⟨_, _, _, rfl, rfl, ht, fun _ _ => rfl, fun _ _ => rfl⟩
  · rw [if_neg h1, if_neg h1]
    obtain ⟨v, hv, rfl⟩ := pu_nn h1
    by_cases h2 : v < 256
    · rw [if_pos (show nI v ≤ 255 from Int32.le_iff_toInt_le.mpr (by rw [nI_toInt hv, show (255 : Int32).toInt = 255 from rfl]; omega)), if_neg (show ¬ (255 : Int32) < nI v from nI_nlt (a := 255) (b := v) (by omega) (by omega)), pu_b1, if_neg pu_10, m4]
      unfold fd_X3_isFull fd_X3_add
      rw [q1]
      by_cases h3 : k = 100
      · subst h3
        rw [if_neg (show ¬ nI 100 < 100 by decide), pu_b1, if_neg pu_10, if_pos (show nI 100 = 100 from rfl)]
        exact ⟨_, _, _, rfl, rfl, ht, fun _ _ => rfl, fun _ _ => rfl⟩
      · have e1 : nI k < 100 := (pu_ltI (a := k) (b := 100) (by omega) (by omega)).mpr (by omega)
        have e2 : ¬ nI k = 100 := fun z => by
          have := congrArg Int32.toNatClampNeg z
          rw [pu_cl (by omega), show Int32.toNatClampNeg 100 = 100 from rfl] at this
          omega
        rw [if_pos e1, pu_b1, if_pos rfl, if_neg e2, pu_ck k 100 _ (by omega) (by omega), pu_ck k 100 _ (by omega) (by omega), pu_cl (by omega)]
        simp only [pu_lt, pu_b1]
        rw [show (ob_A q 0 (upd (q.2 0) k (nI v))).1 1 = nI k from q1, show (ob_A m 5 (upd (m.2 5) k (nI v))).1 4 = nI k from m4, nI_1, pu_II, pu_II]
        refine ⟨_, _, _, rfl, rfl, ⟨k + 1, by omega, pu_II _ _ _, pu_II _ _ _, fun j hj => ?_⟩, fun s hs => pu_un _ _ hs, fun s hs => pu_UN _ _ hs⟩
        show (ob_A q 0 (upd (q.2 0) k (nI v))).2 0 j = (ob_A m 5 (upd (m.2 5) k (nI v))).2 5 j ∧ ∃ u, u < 256 ∧ (ob_A m 5 (upd (m.2 5) k (nI v))).2 5 j = nI u
        rw [pu_AA, pu_AA]
        by_cases hj' : j = k
        · rw [hj', pu_us, pu_us]; exact ⟨rfl, v, h2, rfl⟩
        · rw [pu_un _ _ hj', pu_un _ _ hj']; exact hb j (by omega)
    · rw [if_neg (show ¬ nI v ≤ 255 from fun z => by
        have := Int32.le_iff_toInt_le.mp z
        rw [nI_toInt hv, show (255 : Int32).toInt = 255 from rfl] at this
        omega), if_pos (show (255 : Int32) < nI v from (pu_ltI (a := 255) (by omega) hv).mpr (by omega)), pu_b1, if_pos rfl]
      exact ⟨_, _, _, rfl, rfl, ht, fun _ _ => rfl, fun _ _ => rfl⟩
/-- the trace against the reference's -/
def pu_tc (x m : ob_B) : Prop := ∃ c, c ≤ 16 ∧ x.1 7 = nI c ∧ m.1 20 = nI c ∧ ∀ j, j < c → x.2 6 j = m.2 19 j
theorem pu_trace {x m : ob_B} (h : pu_tc x m) (a : Int32) : ∃ r, fd_X4_trace x a = some r ∧ fd_X5_trace m a = some r := by
  obtain ⟨c, hc, x7, m20, hj⟩ := h
  unfold fd_X4_trace fd_X5_trace
  rw [x7, m20, pu_in1 (show c ≤ 40 by omega)]
  unfold fd_X5_isPart
  by_cases h1 : a < 0
  · rw [if_pos h1, if_pos h1, pu_b1, if_pos rfl]; exact ⟨_, rfl, rfl⟩
  · rw [if_neg h1, if_neg h1, if_neg (show ¬ (1 : Int32) < 0 by decide)]
    obtain ⟨p, hp, rfl⟩ := pu_nn h1
    by_cases h2 : p < c
    · rw [if_neg (pu_nle h2 (by omega)), if_neg (show ¬ (16 : Int32) ≤ nI p from pu_nle (n := 16) (by omega) (by omega)), if_neg (show ¬ nI c < 1 from fun z => absurd ((pu_ltI (b := 1) (by omega) (by omega)).mp z) (by omega)), show nI c - 1 = nI (c - 1) from pk_sub (a := c) (b := 1) (by omega), if_neg (fun z => absurd ((pu_ltI (by omega) hp).mp z) (by omega)), pu_b1, if_neg pu_10, pu_ck p 16 _ (by omega) (by omega), pu_ck p 16 _ (by omega) (by omega), pu_cl (by omega), hj p h2]
      exact ⟨_, rfl, rfl⟩
    · rw [if_pos (show nI c ≤ nI p from Int32.le_iff_toInt_le.mpr (by rw [nI_toInt hp, nI_toInt (by omega)]; omega))]
      by_cases h3 : c = 0
      · subst h3
        rw [if_pos (show nI 0 < 1 by decide), pu_b1, if_pos rfl]; exact ⟨_, rfl, rfl⟩
      · rw [if_neg (show ¬ nI c < 1 from fun z => absurd ((pu_ltI (b := 1) (by omega) (by omega)).mp z) (by omega)), show nI c - 1 = nI (c - 1) from pk_sub (a := c) (b := 1) (by omega), if_pos ((pu_ltI (by omega) hp).mpr (by omega)), pu_b1, if_pos rfl]
        exact ⟨_, rfl, rfl⟩
theorem pu_as {x m y : ob_B} {n : Nat} (ho : pu_ok (m.2 12) n) (hr : pu_rr y (m.2 12) n) (a c : Int32) (hx : x.1 9 = m.1 3) : ∃ r x' m', fd_X4_as x y a c = some (r, x') ∧ fd_X5_as m a c = some (r, m') ∧ pu_kt x m x' m' := by
  have hn := ho.1
  unfold fd_X4_as fd_X5_as
  rcases pu_one (x := x) ho hr a with ⟨h1, h5⟩ | ⟨j, hj, rfl, h1, h5⟩
  · rw [h1, h5, pu_b1, pu_b1, if_pos rfl, if_pos rfl]
    exact ⟨_, _, _, rfl, rfl, pu_kt0 hx pu_sm_rf⟩
  rw [h1, h5, pu_b1, pu_b1, if_neg pu_10, if_neg pu_10, pu_within]
  rcases pu_in c 0 5 with g | ⟨g, g1, g2⟩
  · rw [g, pu_b1, pu_b1, if_pos rfl, if_pos rfl]
    exact ⟨_, _, _, rfl, rfl, pu_kt0 hx pu_sm_rf⟩
  obtain ⟨v, -, hv, rfl⟩ := pu_rng (lo := 0) (hi := 5) (by omega) (by omega) g1 g2
  obtain ⟨⟨k, k1, k5, ek⟩, -, -⟩ := ho.2.2.2 j hj
  rw [g, pu_b1, pu_b1, if_neg pu_10, if_neg pu_10, pu_7, pu_ck j 7 _ (by omega) (by omega), pu_ck (7 + j) 42 _ (by omega) (by omega), pu_cl (by omega), pu_cl (by omega), (hr.2.2.2.2.2.2.2 j hj).1, ek, pu_lt, pu_lt]
  have hv' : v = 0 ∨ v = 1 ∨ v = 2 ∨ v = 3 ∨ v = 4 ∨ v = 5 := by omega
  have hk' : k = 1 ∨ k = 2 ∨ k = 3 ∨ k = 4 ∨ k = 5 := by omega
  rcases hv' with rfl | rfl | rfl | rfl | rfl | rfl <;> rcases hk' with rfl | rfl | rfl | rfl | rfl <;> first | exact ⟨_, _, _, rfl, rfl, pu_ktv 0 pu_sm_rf⟩ | exact ⟨_, _, _, rfl, rfl, pu_ktv 3 pu_sm_rf⟩
