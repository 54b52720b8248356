theorem pu_ltI {a b : Nat} (ha : a < 2147483648) (hb : b < 2147483648) : (nI a < nI b) ↔ a < b := by
  rw [Int32.lt_iff_toInt_lt, nI_toInt ha, nI_toInt hb]
  omega
theorem pu_nn {x : Int32} (h : ¬ x < 0) : ∃ p, p < 2147483648 ∧ x = nI p := by
  obtain ⟨p, -, hp, e⟩ := pu_rng (x := x) (lo := 0) (hi := 2147483647) (by omega) (by omega) h (fun q => by
    have h1 := Int32.lt_iff_toInt_lt.mp q
    rw [nI_toInt (by omega)] at h1
    have h2 := Int32.toInt_lt x
    omega)
  exact ⟨p, by omega, e⟩
theorem pu_has {w : ob_B} {s : Nat} (hs : s ≤ 40) (hw : w.1 2 = nI s) (c n : Int32) : (fd_X2_has w c n = some 0 ∧ fd_X5_isPart c n (nI s) = some 0) ∨ (∃ p q, c = nI p ∧ n = nI q ∧ p + q ≤ s ∧ fd_X2_has w c n = some 1 ∧ fd_X5_isPart c n (nI s) = some 1) := by
  unfold fd_X2_has fd_X5_isPart
  rw [hw]
  by_cases h1 : c < 0
  · rw [if_pos h1, if_pos h1]; exact Or.inl ⟨rfl, rfl⟩
  · rw [if_neg h1, if_neg h1]
    by_cases h2 : n < 0
    · rw [if_pos h2, if_pos h2]; exact Or.inl ⟨rfl, rfl⟩
    · rw [if_neg h2, if_neg h2]
      obtain ⟨p, hp, rfl⟩ := pu_nn h1
      obtain ⟨q, hq, rfl⟩ := pu_nn h2
      simp only [pu_ltI (show s < 2147483648 by omega) hp, pu_ltI (show s < 2147483648 by omega) hq]
      by_cases h3 : s < p
      · rw [if_pos h3]
        by_cases h4 : s < q
        · rw [if_pos h4]; exact Or.inl ⟨rfl, rfl⟩
        · rw [if_neg h4, pk_sub (by omega), if_pos ((pu_ltI (by omega) hp).mpr (by omega))]; exact Or.inl ⟨rfl, rfl⟩
      · rw [if_neg h3, pk_sub (by omega : p ≤ s)]
        by_cases h4 : s < q
        · rw [if_pos h4, if_pos ((pu_ltI (by omega) hq).mpr (by omega))]; exact Or.inl ⟨rfl, rfl⟩
        · rw [if_neg h4, pk_sub (by omega : q ≤ s)]
          by_cases h5 : s - p < q
          · rw [if_pos ((pu_ltI (by omega) hq).mpr h5), if_pos ((pu_ltI (by omega) hp).mpr (by omega))]; exact Or.inl ⟨rfl, rfl⟩
          · rw [if_neg (fun z => h5 ((pu_ltI (by omega) hq).mp z)), if_neg (fun z => h5 (by have := (pu_ltI (by omega) hp).mp z; omega))]
            exact Or.inr ⟨p, q, rfl, rfl, by omega, rfl, rfl⟩
theorem pu_in1 {s : Nat} (hs : s ≤ 40) (c : Int32) : fd_X5_in c 0 (nI s - 1) = fd_X5_isPart c 1 (nI s) := by
  unfold fd_X5_in fd_X5_isPart
  by_cases h1 : c < 0
  · rw [if_pos h1, if_pos h1]
  · rw [if_neg h1, if_neg h1, if_neg (show ¬ (1 : Int32) < 0 by decide)]
    obtain ⟨p, hp, rfl⟩ := pu_nn h1
    by_cases h0 : s = 0
    · subst h0
      rw [if_pos (show nI 0 < 1 by decide), show nI 0 - 1 = -1 from rfl, if_pos]
      rw [Int32.lt_iff_toInt_lt, nI_toInt hp, show (-1 : Int32).toInt = -1 from rfl]
      omega
    · rw [if_neg (show ¬ nI s < 1 from fun z => absurd ((pu_ltI (b := 1) (by omega) (by omega)).mp z) (by omega))]
theorem pu_fo {x w m : ob_B} {i : Nat} (hi : i < 8) (hw : pu_w w m i) (c n : Int32) : (fd_X4_findingOf x w (nI i) c n = some 1 ∧ w.1 0 = 1 ∧ m.2 0 i = -1) ∨ (∃ l s, l < 3 ∧ s ≤ 40 ∧ w.1 0 = 0 ∧ w.1 1 = nI l ∧ m.2 0 i = nI l ∧ w.1 2 = nI s ∧ m.2 1 i = nI s ∧ (∀ j, j < 40 → w.2 3 j = m.2 2 (40 * i + j)) ∧ ((fd_X4_findingOf x w (nI i) c n = some 2 ∧ fd_X5_isPart c n (nI s) = some 0) ∨ (∃ p q, c = nI p ∧ n = nI q ∧ p + q ≤ s ∧ fd_X4_findingOf x w (nI i) c n = some 0 ∧ fd_X5_isPart c n (nI s) = some 1))) := by
  unfold fd_X4_findingOf
  simp only [pu_ri hi, if_false]
  rcases hw with ⟨w0, n0⟩ | ⟨w0, ⟨l, hl, w1, n1⟩, ⟨s, hs, w2, n2⟩, w3⟩
  · rw [w0, if_neg pu_10]; exact Or.inl ⟨rfl, rfl, n0⟩
  · rw [w0, if_pos rfl]
    refine Or.inr ⟨l, s, hl, hs, rfl, w1, n1, w2, n2, w3, ?_⟩
    rcases pu_has hs w2 c n with ⟨h1, h2⟩ | ⟨p, q, rfl, rfl, hpq, h1, h2⟩
    · rw [h1, pu_b1, if_pos rfl]; exact Or.inl ⟨rfl, h2⟩
    · rw [h1, pu_b1, if_neg pu_10]; exact Or.inr ⟨p, q, rfl, rfl, hpq, rfl, h2⟩
theorem pu_set5 {m : ob_B} {i p : Nat} (hi : i < 8) (hp : p < 40) (v : Int32) : fd_X5_set_L87 m (nI i) (nI p) v (40 * nI i + nI p) = some (v, ob_I (ob_A m 2 (upd (m.2 2) (40 * i + p) v)) 3 0) := by
  unfold fd_X5_set_L87
  rw [pu_40, pu_ck (40 * i + p) 320 _ (by omega) (by omega), pu_lt, pu_ck (40 * i + p) 320 _ (by omega) (by omega), pu_cl (by omega), pu_AA, pu_us]
  rfl
theorem pu_put {w : ob_B} {p : Nat} (hp : p < 40) (v : Int32) : fd_X2_put_L31 w (nI p) v (nI p) = some (v, ob_A w 3 (upd (w.2 3) p v)) := by
  unfold fd_X2_put_L31
  rw [pu_ck p 40 _ (by omega) (by omega), pu_lt, pu_ck p 40 _ (by omega) (by omega), pu_cl (by omega), pu_AA, pu_us]
theorem pu_setw {x m w : ob_B} {i p l s : Nat} {v : Int32} (hi : i < 8) (hl : l < 3) (hs : s ≤ 40) (hp : p < 40) (w0 : w.1 0 = 0) (w1 : w.1 1 = nI l) (n1 : m.2 0 i = nI l) (w2 : w.1 2 = nI s) (n2 : m.2 1 i = nI s) (w3 : ∀ j, j < 40 → w.2 3 j = m.2 2 (40 * i + j)) : pu_k (nI i) x m (ob_I x 9 0) (ob_I (ob_A m 2 (upd (m.2 2) (40 * i + p) v)) 3 0) ∧ ∀ t, t < 8 → nI i = nI t → pu_w (ob_A w 3 (upd (w.2 3) p v)) (ob_I (ob_A m 2 (upd (m.2 2) (40 * i + p) v)) 3 0) t := by
  refine ⟨pu_kv 0 (fun k _ => rfl) (fun k hk _ _ _ _ => pu_UN _ _ (by omega)) (fun t ht hne => ?_), fun t ht he => ?_⟩
  · have hti : t ≠ i := fun q => hne (by rw [q])
    exact ⟨rfl, rfl, fun j hj => (pu_AA m 2 _ _).trans (pu_un _ _ (by omega))⟩
  · have hti : i = t := pu_nIj i hi t ht he
    subst hti
    refine Or.inr ⟨w0, ⟨l, hl, w1, n1⟩, ⟨s, hs, w2, n2⟩, fun j hj => ?_⟩
    refine (pu_AA w 3 _ j).trans (Eq.trans ?_ (pu_AA m 2 _ (40 * i + j)).symm)
    by_cases hj' : j = p
    · rw [hj', pu_us, pu_AA, pu_us]
    · rw [pu_un _ _ hj', pu_AA, pu_un _ _ (by omega), w3 j hj]
theorem pu_set {x m w : ob_B} (a c e : Int32) (hx : x.1 9 = m.1 3) (hw : ∀ i, i < 8 → a = nI i → pu_w w m i) : ∃ r x' w' m', fd_X4_set x w a c e = some (r, x', w') ∧ fd_X5_set m a c e = some (r, m') ∧ pu_k a x m x' m' ∧ ∀ i, i < 8 → a = nI i → pu_w w' m' i := by
  unfold fd_X4_set fd_X5_set
  rcases pu_isRow a with ⟨h4, h5, -⟩ | ⟨i, hi, rfl, h4, h5⟩
  · rw [h4, h5, pu_b1, pu_b1, if_pos rfl, if_pos rfl]
    exact ⟨_, _, _, _, rfl, rfl, pu_k0 hx, hw⟩
  · rw [h4, h5, pu_b1, pu_b1, if_neg pu_10, if_neg pu_10]
    simp only [pu_rj hi, if_false, show Int32.toNatClampNeg (nI i) = i from pu_cl (by omega)]
    rcases pu_fo (x := x) hi (hw i hi rfl) c 1 with ⟨f1, w0, n0⟩ | ⟨l, s, hl, hs, w0, w1, n1, w2, n2, w3, ⟨f1, f5⟩ | ⟨p, q, rfl, hq, hpq, f1, f5⟩⟩
    · rw [f1, n0, pu_b1, if_neg (show ¬ (1 : Int32) = 0 by decide), if_neg (show ¬ (0 : Int32) ≤ -1 by decide)]
      exact ⟨_, _, _, _, rfl, rfl, pu_kf 1, hw⟩
    · rw [f1, n1, n2, pu_b1, if_neg (show ¬ (2 : Int32) = 0 by decide), if_pos (pu_0le (by omega)), pu_in1 hs, f5, pu_b1, if_pos rfl]
      exact ⟨_, _, _, _, rfl, rfl, pu_kf 2, hw⟩
    · have hp : p < 40 := by
        rcases Nat.eq_zero_or_pos q with q0 | q0
        · rw [q0] at hq; exact absurd hq (by decide)
        · omega
      rw [f1, n1, n2, pu_b1, if_pos rfl, if_pos (pu_0le (by omega)), pu_in1 hs, f5, pu_b1, if_neg pu_10]
      unfold fd_X2_put
      rw [w1]
      simp only [pu_set5 hi hp, pu_put hp]
      by_cases c0 : nI l = 0
      · rw [if_pos c0, if_pos c0]
        exact ⟨_, _, _, _, rfl, rfl, pu_setw hi hl hs hp w0 w1 n1 w2 n2 w3⟩
      · rw [if_neg c0, if_neg c0]
        by_cases c1 : nI l = 1
        · rw [if_pos c1, if_pos c1]
          exact ⟨_, _, _, _, rfl, rfl, pu_setw hi hl hs hp w0 w1 n1 w2 n2 w3⟩
        · rw [if_neg c1, if_neg c1]
          exact ⟨_, _, _, _, rfl, rfl, pu_setw hi hl hs hp w0 w1 n1 w2 n2 w3⟩
