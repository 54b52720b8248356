theorem pu_takes {m w : ob_B} {i p q : Nat} (hi : i < 8) (hpq : p + q ≤ 40) (hq : q ≤ 12) (w3 : ∀ j, j < 40 → w.2 3 j = m.2 2 (40 * i + j)) : ∀ (d k : Nat) (mk : ob_B), k + d = q → pu_sm m mk → (∀ j, j < k → mk.2 21 j = w.2 3 (p + j)) → ∀ fu, d < fu → ∃ m', fd_X5_takeOut_L38 fu mk (nI i) (nI p) (nI q) (nI k) = some (0, m') ∧ pu_sm m m' ∧ ∀ j, j < q → m'.2 21 j = w.2 3 (p + j) := by
  intro d
  induction d with
  | zero =>
    intro k mk hk hs ht fu h1
    obtain ⟨fu, rfl⟩ : ∃ x, fu = x + 1 := ⟨fu - 1, by omega⟩
    have hk' : k = q := by omega
    subst hk'
    rw [fd_X5_takeOut_L38, if_pos pu_le]
    exact ⟨mk, rfl, hs, ht⟩
  | succ d ih =>
    intro k mk hk hs ht fu h1
    obtain ⟨fu, rfl⟩ : ∃ x, fu = x + 1 := ⟨fu - 1, by omega⟩
    rw [fd_X5_takeOut_L38, if_neg (pu_nle (by omega) (by omega)), pu_40, nI_add, pu_ck (40 * i + p + k) 320 _ (by omega) (by omega), pu_lt, pu_ck k 12 _ (by omega) (by omega), pu_lt, pu_lt, nI_1, pu_cl (by omega), pu_cl (by omega)]
    refine ih (k + 1) _ (by omega) (pu_sm_tr hs (pu_sm21 _ _)) (fun j hj => (pu_AA mk 21 _ j).trans ?_) fu (by omega)
    by_cases hj' : j = k
    · rw [hj', pu_us, hs.2 2 (by decide) (by decide) (by decide) (by decide), w3 (p + k) (by omega)]
      exact congrArg _ (by omega)
    · rw [pu_un _ _ hj']
      exact ht j (by omega)
theorem pu_so0 {n q : Nat} (hq : q ≤ 12) : ∀ (d k : Nat) (b m : ob_B), k + d = q → pu_ok (m.2 14) n → pu_rr b (m.2 14) n → ∀ fu, d < fu → ∃ m', fd_X5_isSo_L4 fu m (nI q) 0 (nI k) = some (0, m') ∧ pu_sm m m' ∧ m'.2 21 = m.2 21 := by
  intro d
  induction d with
  | zero =>
    intro k b m hk ho hr fu h1
    obtain ⟨fu, rfl⟩ : ∃ x, fu = x + 1 := ⟨fu - 1, by omega⟩
    have hk' : k = q := by omega
    subst hk'
    rw [fd_X5_isSo_L4, if_pos pu_le, if_neg (by decide)]
    exact ⟨m, rfl, pu_sm_rf, rfl⟩
  | succ d ih =>
    intro k b m hk ho hr fu h1
    obtain ⟨fu, rfl⟩ : ∃ x, fu = x + 1 := ⟨fu - 1, by omega⟩
    obtain ⟨e, b1, f1, p1, p5, p3, p4, p6⟩ := pu_pass ho hr
    rw [fd_X5_isSo_L4, if_neg (pu_nle (by omega) (by omega)), p5, pu_b2, pu_lt, if_pos rfl, pu_lt, nI_1]
    obtain ⟨m', g1, g2, g3⟩ := ih (k + 1) b1 (ob_A m 14 f1) (by omega) p4 p3 fu (by omega)
    exact ⟨m', g1, pu_sm_tr (pu_sm14 m f1) g2, g3⟩
theorem pu_sos {w : ob_B} {n p q : Nat} (hq : q ≤ 12) (hpq : p + q ≤ 40) : ∀ (d k : Nat) (b m : ob_B), k + d = q → pu_ok (m.2 14) n → pu_rr b (m.2 14) n → (∀ j, j < q → m.2 21 j = w.2 3 (p + j)) → ∀ fu1 fu5, d < fu1 → d < fu5 → ∃ r b' m', (r = 0 ∨ r = 1) ∧ fd_X1_goesAlong_L3 fu1 b w (nI p) (nI q) (nI k) = some (r, b') ∧ fd_X5_isSo_L4 fu5 m (nI q) 1 (nI k) = some (r, m') ∧ pu_sm m m' ∧ m'.2 21 = m.2 21 := by
  intro d
  induction d with
  | zero =>
    intro k b m hk ho hr ht fu1 fu5 h1 h5
    obtain ⟨fu1, rfl⟩ : ∃ x, fu1 = x + 1 := ⟨fu1 - 1, by omega⟩
    obtain ⟨fu5, rfl⟩ : ∃ x, fu5 = x + 1 := ⟨fu5 - 1, by omega⟩
    have hk' : k = q := by omega
    subst hk'
    rw [fd_X1_goesAlong_L3, fd_X5_isSo_L4, if_pos pu_le, if_pos pu_le, if_neg (by decide)]
    exact ⟨1, b, m, Or.inr rfl, rfl, rfl, pu_sm_rf, rfl⟩
  | succ d ih =>
    intro k b m hk ho hr ht fu1 fu5 h1 h5
    obtain ⟨fu1, rfl⟩ : ∃ x, fu1 = x + 1 := ⟨fu1 - 1, by omega⟩
    obtain ⟨fu5, rfl⟩ : ∃ x, fu5 = x + 1 := ⟨fu5 - 1, by omega⟩
    obtain ⟨e, b1, f1, p1, p5, p3, p4, p6⟩ := pu_pass ho hr
    have hlt : ¬ nI q ≤ nI k := pu_nle (by omega) (by omega)
    rw [fd_X1_goesAlong_L3, fd_X5_isSo_L4, if_neg hlt, if_neg hlt, p1, p5, pu_b2, pu_b2, pu_lt, pu_lt, if_neg pu_10, nI_add, pu_ck (p + k) 40 _ (by omega) (by omega), pu_ck k 12 _ (by omega) (by omega), pu_cl (by omega), pu_cl (by omega), pu_c0, show (ob_A m 14 f1).2 14 0 = f1 0 from rfl, show (ob_A m 14 f1).2 21 k = m.2 21 k from rfl, ht k (by omega), p3.1]
    by_cases hc : f1 0 = w.2 3 (p + k)
    · rw [if_pos hc, if_pos hc, pu_lt, nI_1]
      obtain ⟨r, b', m', g0, g1, g2, g3, g4⟩ := ih (k + 1) b1 (ob_A m 14 f1) (by omega) p4 p3 ht fu1 fu5 (by omega) (by omega)
      exact ⟨r, b', m', g0, g1, g2, pu_sm_tr (pu_sm14 m f1) g3, g4⟩
    · rw [if_neg hc, if_neg hc, pu_lt, nI_1]
      obtain ⟨m', g1, g2, g3⟩ := pu_so0 hq d (k + 1) b1 (ob_A m 14 f1) (by omega) p4 p3 fu5 (by omega)
      exact ⟨0, b1, m', Or.inl rfl, rfl, g1, pu_sm_tr (pu_sm14 m f1) g2, g3⟩
theorem pu_so {w b m : ob_B} {n p q : Nat} (hq : q ≤ 12) (hpq : p + q ≤ 40) (ho : pu_ok (m.2 14) n) (hr : pu_rr b (m.2 14) n) (ht : ∀ j, j < q → m.2 21 j = w.2 3 (p + j)) : ∃ r b' m', (r = 0 ∨ r = 1) ∧ fd_X1_goesAlong b w (nI p) (nI q) = some (r, b') ∧ fd_X5_isSo m (nI q) = some (r, m') ∧ pu_sm m m' ∧ m'.2 21 = m.2 21 :=
  pu_sos hq hpq q 0 b m (by omega) ho hr ht 2000 2000 (by omega) (by omega)
/-- takeOut beside findingOf -/
theorem pu_take {x w m : ob_B} {i q : Nat} (hi : i < 8) (hw : pu_w w m i) (hq1 : 1 ≤ q) (hq : q ≤ 12) (c : Int32) : (∃ v : Int32, (v = 1 ∨ v = 2) ∧ fd_X4_findingOf x w (nI i) c (nI q) = some v ∧ fd_X5_takeOut m (nI i) c (nI q) = some ((-1000010) - v, ob_I m 3 v)) ∨ (∃ p m', c = nI p ∧ p + q ≤ 40 ∧ fd_X4_findingOf x w (nI i) c (nI q) = some 0 ∧ fd_X5_takeOut m (nI i) c (nI q) = some (0, m') ∧ pu_sm m m' ∧ ∀ j, j < q → m'.2 21 j = w.2 3 (p + j)) := by
  unfold fd_X5_takeOut
  simp only [pu_rj hi, if_false, show Int32.toNatClampNeg (nI i) = i from pu_cl (by omega)]
  rcases pu_fo (x := x) hi hw c (nI q) with ⟨f1, w0, n0⟩ | ⟨l, s, hl, hs, w0, w1, n1, w2, n2, w3, ⟨f1, f5⟩ | ⟨p, q', rfl, hqq, hpq, f1, f5⟩⟩
  · rw [f1, n0, if_neg (show ¬ (0 : Int32) ≤ -1 by decide)]
    exact Or.inl ⟨1, Or.inl rfl, rfl, rfl⟩
  · rw [f1, n1, n2, if_pos (pu_0le (by omega)), f5, pu_b1, if_pos rfl]
    exact Or.inl ⟨2, Or.inr rfl, rfl, rfl⟩
  · by_cases hb : q' < 2147483648
    · have hq' : q = q' := by
        have := congrArg Int32.toNatClampNeg hqq
        rw [pu_cl (by omega), pu_cl (by omega)] at this
        exact this
      subst hq'
      rw [f1, n1, n2, if_pos (pu_0le (by omega)), f5, pu_b1, if_neg pu_10]
      obtain ⟨m', g1, g2, g3⟩ := pu_takes hi (show p + q ≤ 40 by omega) hq w3 q 0 m (by omega) pu_sm_rf (fun j hj => by omega) 2000 (by omega)
      exact Or.inr ⟨p, m', rfl, by omega, rfl, g1, g2, g3⟩
    · omega
