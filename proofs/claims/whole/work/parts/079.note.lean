theorem pu_n49 {m : ob_B} {a : Nat} (ha : a < 24) (h : m.1 18 = nI a) : fd_X5_note_L49 m = some (ob_I (ob_A m 17 (pu_ly (m.2 12) (m.2 17) 0 (42 * a) 42)) 18 (nI (a + 1))) := by
  unfold fd_X5_note_L49
  rw [h, pu_42, show fd_X5_lay 42 1008 (m.2 12) (m.2 17) 0 (nI (42 * a)) = some (pu_ly (m.2 12) (m.2 17) 0 (42 * a) 42) from pu_lay 42 1008 (m.2 12) (m.2 17) 0 (42 * a) (by omega) (by omega) (by omega) (by omega), pu_b1, pu_lt, pu_lt, pu_lt, show (ob_A m 17 (pu_ly (m.2 12) (m.2 17) 0 (42 * a) 42)).1 18 = nI a from h, nI_1]
theorem pu_nsh : ∀ (d k : Nat) (m : ob_B), k + d = 966 → ∀ fu, d < fu → ∃ m', fd_X5_note_L11 fu m (nI k) = fd_X5_note_L39 m' ∧ m'.1 = m.1 ∧ (∀ s, s ≠ 17 → m'.2 s = m.2 s) ∧ ∀ i, m'.2 17 i = if k ≤ i ∧ i < 966 then m.2 17 (i + 42) else m.2 17 i := by
  intro d
  induction d with
  | zero =>
    intro k m hk fu h1
    obtain ⟨fu, rfl⟩ : ∃ x, fu = x + 1 := ⟨fu - 1, by omega⟩
    have hk' : k = 966 := by omega
    subst hk'
    rw [fd_X5_note_L11, if_pos (by decide)]
    exact ⟨m, rfl, rfl, fun _ _ => rfl, fun i => by rw [if_neg (by omega)]⟩
  | succ d ih =>
    intro k m hk fu h1
    obtain ⟨fu, rfl⟩ : ∃ x, fu = x + 1 := ⟨fu - 1, by omega⟩
    rw [fd_X5_note_L11, if_neg (show ¬ (966 : Int32) ≤ nI k from pu_nle (n := 966) (by omega) (by omega)), show nI k + 42 = nI (k + 42) from nI_add k 42, pu_ck (k + 42) 1008 _ (by omega) (by omega), pu_lt, pu_ck k 1008 _ (by omega) (by omega), pu_lt, pu_lt, nI_1, pu_cl (by omega), pu_cl (by omega)]
    obtain ⟨m', g1, g2, g3, g4⟩ := ih (k + 1) (ob_A m 17 (upd (m.2 17) k (m.2 17 (k + 42)))) (by omega) fu (by omega)
    refine ⟨m', g1, g2, fun s hs => (g3 s hs).trans (pu_UN _ _ hs), fun i => ?_⟩
    rw [g4 i, pu_AA, pu_AA]
    by_cases hi : i = k
    · rw [if_neg (by omega), if_pos (by omega), hi, pu_us]
    · by_cases h2 : k + 1 ≤ i ∧ i < 966
      · rw [if_pos h2, if_pos (by omega), pu_un _ _ (by omega)]
      · rw [if_neg h2, if_neg (by omega), pu_un _ _ hi]
theorem pu_note5 {m : ob_B} {a : Nat} (ha : a ≤ 24) (h : m.1 18 = nI a) : ∃ m' g, fd_X5_note m = some m' ∧ (∀ s, s ≠ 18 → m'.1 s = m.1 s) ∧ (∀ s, s ≠ 17 → m'.2 s = m.2 s) ∧ m'.2 17 = g ∧ (a < 24 → m'.1 18 = nI (a + 1) ∧ (∀ i, i < 42 * a → g i = m.2 17 i) ∧ ∀ j, j < 42 → g (42 * a + j) = m.2 12 j) ∧ (a = 24 → m'.1 18 = nI 24 ∧ (∀ i, i < 966 → g i = m.2 17 (i + 42)) ∧ ∀ j, j < 42 → g (966 + j) = m.2 12 j) := by
  unfold fd_X5_note
  by_cases h24 : a = 24
  · rw [h, h24, if_pos (show nI 24 = 24 from rfl)]
    obtain ⟨m1, g1, g2, g3, g4⟩ := pu_nsh 966 0 m (by omega) 2000 (by omega)
    have e : fd_X5_note_L11 2000 m 0 = some (ob_I (ob_A (ob_I m1 18 (nI 23)) 17 (pu_ly (m1.2 12) (m1.2 17) 0 966 42)) 18 (nI 24)) := by
      refine g1.trans ?_
      unfold fd_X5_note_L39
      rw [pu_lt, pu_lt, congrFun g2 18, h, h24, show nI 24 - 1 = nI 23 from rfl]
      exact pu_n49 (a := 23) (by omega) (pu_II _ _ _)
    refine ⟨_, pu_ly (m1.2 12) (m1.2 17) 0 966 42, e, fun s hs => (pu_un _ _ hs).trans ((pu_un _ _ hs).trans (congrFun g2 s)), fun s hs => (pu_UN _ _ hs).trans (g3 s hs), rfl, fun z => by omega, fun _ => ⟨pu_II _ _ _, fun i hi => ?_, fun j hj => ?_⟩⟩
    · rw [pu_lyo (by omega), g4 i, if_pos (by omega)]
    · have := pu_ly_in (f := m1.2 12) (h := m1.2 17) (a := 0) (c := 966) hj
      rw [Nat.zero_add, g3 12 (by decide)] at this
      rw [g3 12 (by decide)]
      exact this
  · have e2 : ¬ m.1 18 = 24 := fun z => by
      rw [h] at z
      have := congrArg Int32.toNatClampNeg z
      rw [pu_cl (by omega), show Int32.toNatClampNeg 24 = 24 from rfl] at this
      omega
    rw [if_neg e2]
    refine ⟨_, pu_ly (m.2 12) (m.2 17) 0 (42 * a) 42, pu_n49 (by omega) h, fun s hs => pu_un _ _ hs, fun s hs => pu_UN _ _ hs, rfl, fun _ => ⟨pu_II _ _ _, fun i hi => pu_lyo (by omega), fun j hj => ?_⟩, fun z => absurd z h24⟩
    have := pu_ly_in (f := m.2 12) (h := m.2 17) (a := 0) (c := 42 * a) hj
    rw [Nat.zero_add] at this
    exact this
