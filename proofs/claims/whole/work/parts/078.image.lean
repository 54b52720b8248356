theorem pu_lyo {f h : Nat → Int32} {a c i : Nat} (hi : i < c ∨ c + 42 ≤ i) : pu_ly f h a c 42 i = h i := by
  unfold pu_ly
  rw [if_neg (by omega)]
theorem pu_42 (k : Nat) : (42 : Int32) * nI k = nI (42 * k) := pk_mul 42 k
theorem pu_image {x y m : ob_B} {n : Nat} (ho : pu_ok (m.2 12) n) (hr : pu_rr y (m.2 12) n) (a : Int32) : (∃ r, fd_X4_imgBad x y a = some r ∧ fd_X5_image m a = some (r, m)) ∨ (∃ k m', k < 2 ∧ a = nI k ∧ fd_X5_image m a = some (1, m') ∧ (∀ w, ∃ w', fd_X4_imgOld x y w a = some (1, w') ∧ pu_rr w' (m.2 12) n) ∧ (∃ w', fd_X4_imgNew x y a = some (1, w') ∧ pu_rr w' (m.2 12) n) ∧ m'.1 = m.1 ∧ (∀ s, s ≠ 15 → s ≠ 16 → m'.2 s = m.2 s) ∧ m'.2 16 k = 1 ∧ (∀ i, i ≠ k → m'.2 16 i = m.2 16 i) ∧ (∀ j, j < 42 → m'.2 15 (42 * k + j) = m.2 12 j) ∧ ∀ i, (i < 42 * k ∨ 42 * k + 42 ≤ i) → m'.2 15 i = m.2 15 i) := by
  have hn := ho.1
  unfold fd_X4_imgBad fd_X4_imgOld fd_X4_imgNew fd_X5_image
  rw [pu_within]
  rcases pu_in a 0 1 with g | ⟨g, g1, g2⟩
  · rw [g, pu_b1, pu_b1, if_pos rfl, if_pos rfl]
    exact Or.inl ⟨_, rfl, rfl⟩
  obtain ⟨k, -, hk, rfl⟩ := pu_rng (lo := 0) (hi := 1) (by omega) (by omega) g1 g2
  rw [g]
  simp only [pu_b1, if_neg pu_10]
  rcases pu_nor (x := x) ho hr with ⟨-, h1, h5⟩ | ⟨-, h1, h5⟩
  · rw [h1, h5]
    simp only [pu_b1, if_neg pu_10]
    exact Or.inl ⟨_, rfl, rfl⟩
  · refine Or.inr ⟨k, ob_A (ob_A m 15 (pu_ly (m.2 12) (m.2 15) 0 (42 * k) 42)) 16 (upd (m.2 16) k 1), by omega, rfl, ?_, fun w => ?_, ?_, rfl, fun s h15 h16 => (pu_UN _ _ h16).trans (pu_UN _ _ h15), (pu_AA _ 16 _ k).trans (pu_us _ _ _), fun i hi => (pu_AA _ 16 _ i).trans (pu_un _ _ hi), fun j hj => ?_, fun i hi => ?_⟩
    · rw [h5, pu_b1, if_neg pu_10, pu_42, show fd_X5_lay 42 84 (m.2 12) (m.2 15) 0 (nI (42 * k)) = some (pu_ly (m.2 12) (m.2 15) 0 (42 * k) 42) from pu_lay 42 84 (m.2 12) (m.2 15) 0 (42 * k) (by omega) (by omega) (by omega) (by omega), pu_b1, pu_lt, pu_ck k 2 _ (by omega) (by omega), pu_cl (by omega)]
      rfl
    · obtain ⟨t1, b1, b2⟩ := pu_become w y
      rw [h1, pu_b1, if_pos rfl, pu_ck k 2 _ (by omega) (by omega), pu_ck k 2 _ (by omega) (by omega), b1]
      exact ⟨t1, rfl, b2 _ _ hn hr⟩
    · obtain ⟨t1, b1, b2⟩ := pu_become ob_z y
      rw [h1, pu_b1, if_pos rfl, pu_ck k 2 _ (by omega) (by omega), pu_ck k 2 _ (by omega) (by omega), pu_ck k 2 _ (by omega) (by omega), b1]
      exact ⟨t1, rfl, b2 _ _ hn hr⟩
    · have := pu_ly_in (f := m.2 12) (h := m.2 15) (a := 0) (c := 42 * k) hj
      rw [Nat.zero_add] at this
      exact this
    · exact pu_lyo hi
theorem pu_restore {x m : ob_B} (a : Int32) : (fd_X4_resNone x a = some (-1000001) ∧ fd_X5_restore m a = some (-1000001, m)) ∨ (∃ k, k < 2 ∧ a = nI k ∧ (m.2 16 k = 0 → fd_X4_resNone x a = some (-1000002) ∧ fd_X5_restore m a = some (-1000002, m)) ∧ (m.2 16 k = 1 → ∃ m', fd_X5_restore m a = some (1, m') ∧ (∀ y w h, ∃ y' h', fd_X4_resOld x y w h a = some (1, y', h') ∧ fd_X0_forgetAll h = some h' ∧ ∀ f n, n ≤ 7 → pu_rr w f n → pu_rr y' f n) ∧ m'.1 18 = 0 ∧ (∀ s, s ≠ 18 → m'.1 s = m.1 s) ∧ (∀ s, s ≠ 12 → m'.2 s = m.2 s) ∧ ∀ j, j < 42 → m'.2 12 j = m.2 15 (42 * k + j))) := by
  unfold fd_X4_resNone fd_X4_resOld fd_X5_restore
  rw [pu_within]
  rcases pu_in a 0 1 with g | ⟨g, g1, g2⟩
  · rw [g, pu_b1, pu_b1, if_pos rfl, if_pos rfl]
    exact Or.inl ⟨rfl, rfl⟩
  obtain ⟨k, -, hk, rfl⟩ := pu_rng (lo := 0) (hi := 1) (by omega) (by omega) g1 g2
  rw [g]
  simp only [pu_b1, if_neg pu_10]
  refine Or.inr ⟨k, by omega, rfl, fun h0 => ?_, fun h1 => ?_⟩
  · rw [pu_ck k 2 _ (by omega) (by omega), pu_ck k 2 _ (by omega) (by omega), pu_cl (by omega), if_pos h0]
    exact ⟨rfl, rfl⟩
  · refine ⟨ob_I (ob_A m 12 (pu_ly (m.2 15) (m.2 12) (42 * k) 0 42)) 18 0, ?_, fun y w h => ?_, pu_II _ _ _, fun s hs => pu_un _ _ hs, fun s hs => pu_UN _ _ hs, fun j hj => ?_⟩
    · rw [pu_ck k 2 _ (by omega) (by omega), pu_cl (by omega), if_neg (by rw [h1]; exact pu_10), pu_42, show fd_X5_lay 84 42 (m.2 15) (m.2 12) (nI (42 * k)) 0 = some (pu_ly (m.2 15) (m.2 12) (42 * k) 0 42) from pu_lay 84 42 (m.2 15) (m.2 12) (42 * k) 0 (by omega) (by omega) (by omega) (by omega), pu_b1]
      rfl
    · obtain ⟨t1, b1, b2⟩ := pu_become y w
      rw [pu_ck k 2 _ (by omega) (by omega), pu_ck k 2 _ (by omega) (by omega), b1]
      exact ⟨t1, _, rfl, rfl, b2⟩
    · have := pu_ly_in (f := m.2 15) (h := m.2 12) (a := 42 * k) (c := 0) hj
      rw [Nat.zero_add] at this
      exact this
