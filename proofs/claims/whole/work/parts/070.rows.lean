/-- row i of the program against row i of the reference -/
def pu_w (w m : ob_B) (i : Nat) : Prop := (w.1 0 = 1 ∧ m.2 0 i = -1) ∨ (w.1 0 = 0 ∧ (∃ l, l < 3 ∧ w.1 1 = nI l ∧ m.2 0 i = nI l) ∧ (∃ s, s ≤ 40 ∧ w.1 2 = nI s ∧ m.2 1 i = nI s) ∧ ∀ j, j < 40 → w.2 3 j = m.2 2 (40 * i + j))
/-- the reference's row i stays -/
def pu_ro (m m' : ob_B) (i : Nat) : Prop := m'.2 0 i = m.2 0 i ∧ m'.2 1 i = m.2 1 i ∧ ∀ j, j < 40 → m'.2 2 (40 * i + j) = m.2 2 (40 * i + j)
/-- what a row's method leaves -/
def pu_k (a : Int32) (x m x' m' : ob_B) : Prop := x'.2 = x.2 ∧ (∀ k, k ≠ 9 → x'.1 k = x.1 k) ∧ x'.1 9 = m'.1 3 ∧ (∀ k, k ≠ 3 → m'.1 k = m.1 k) ∧ (∀ k, 3 ≤ k → k ≠ 13 → k ≠ 14 → k ≠ 21 → k ≠ 22 → m'.2 k = m.2 k) ∧ ∀ i, i < 8 → a ≠ nI i → pu_ro m m' i
theorem pu_AA (b : ob_B) (k : Nat) (g : Nat → Int32) (j : Nat) : (ob_A b k g).2 k j = g j := congrFun (pu_UA b.2 k g) j
theorem pu_II (b : ob_B) (k : Nat) (v : Int32) : (ob_I b k v).1 k = v := pu_us b.1 k v
theorem pu_ro_rf {m : ob_B} {i : Nat} : pu_ro m m i := ⟨rfl, rfl, fun _ _ => rfl⟩
theorem pu_k0 {a : Int32} {x m : ob_B} (h : x.1 9 = m.1 3) : pu_k a x m x m := ⟨rfl, fun _ _ => rfl, h, fun _ _ => rfl, fun _ _ _ _ _ _ => rfl, fun _ _ _ => pu_ro_rf⟩
theorem pu_kv {a : Int32} {x m m1 : ob_B} (v : Int32) (h1 : ∀ k, k ≠ 3 → m1.1 k = m.1 k) (h2 : ∀ k, 3 ≤ k → k ≠ 13 → k ≠ 14 → k ≠ 21 → k ≠ 22 → m1.2 k = m.2 k) (h3 : ∀ i, i < 8 → a ≠ nI i → pu_ro m m1 i) : pu_k a x m (ob_I x 9 v) (ob_I m1 3 v) :=
  ⟨rfl, fun _ h => pu_un _ _ h, (pu_II x 9 v).trans (pu_II m1 3 v).symm, fun k h => (pu_un _ _ h).trans (h1 k h), h2, h3⟩
theorem pu_kf {a : Int32} {x m : ob_B} (v : Int32) : pu_k a x m (ob_I x 9 v) (ob_I m 3 v) := pu_kv v (fun _ _ => rfl) (fun _ _ _ _ _ _ => rfl) (fun _ _ _ => pu_ro_rf)
theorem pu_wI {w m : ob_B} {i k : Nat} {v : Int32} (h : pu_w w m i) : pu_w w (ob_I m k v) i := h
theorem pu_isRow (x : Int32) : (fd_X4_isRow x = some 0 ∧ fd_X5_isRow x = some 0 ∧ ∀ i, i < 8 → x ≠ nI i) ∨ (∃ p, p < 8 ∧ x = nI p ∧ fd_X4_isRow x = some 1 ∧ fd_X5_isRow x = some 1) := by
  have z0 : ¬ ¬ ((0 : Int32) &&& 1 = 0) := by decide
  have z1 : ¬ ¬ ((1 : Int32) &&& 1 = 1) := by decide
  unfold fd_X4_isRow fd_X5_isRow
  rw [pu_within]
  rcases pu_in x 0 7 with g | ⟨g, g1, g2⟩
  · refine Or.inl ⟨?_, ?_, fun i hi q => ?_⟩
    · rw [g, pu_b1, if_neg z0]
    · rw [g, pu_b1, if_neg z0]
    · rw [q] at g
      have : ∀ i, i < 8 → ¬ fd_X5_in (nI i) 0 7 = some 0 := by decide
      exact this i hi g
  · obtain ⟨p, -, hp, rfl⟩ := pu_rng (lo := 0) (hi := 7) (by omega) (by omega) g1 g2
    rw [g, pu_b1, if_neg z1]
    exact Or.inr ⟨p, by omega, rfl, rfl, rfl⟩
theorem pu_0le {l : Nat} (h : l < 2147483648) : (0 : Int32) ≤ nI l := Int32.le_iff_toInt_le.mpr (by rw [nI_toInt h, show (0 : Int32).toInt = 0 from rfl]; omega)
theorem pu_nIj : ∀ i, i < 8 → ∀ j, j < 8 → nI i = nI j → i = j := by decide
theorem pu_fills (v : Int32) : ∀ (d k : Nat) (f : Nat → Int32), k + d = 40 → ∀ fu, d < fu → ∃ f', fd_J7_fill_53178_L5 fu f v (nI k) 40 = some f' ∧ (∀ j, j < k → f' j = f j) ∧ ∀ j, k ≤ j → j < 40 → f' j = v := by
  intro d
  induction d with
  | zero =>
    intro k f hk fu h1
    obtain ⟨fu, rfl⟩ : ∃ x, fu = x + 1 := ⟨fu - 1, by omega⟩
    have hk' : k = 40 := by omega
    subst hk'
    rw [fd_J7_fill_53178_L5, if_pos (by decide)]
    exact ⟨_, rfl, fun _ _ => rfl, fun j h1 h2 => by omega⟩
  | succ d ih =>
    intro k f hk fu h1
    obtain ⟨fu, rfl⟩ : ∃ x, fu = x + 1 := ⟨fu - 1, by omega⟩
    rw [fd_J7_fill_53178_L5, if_neg (show ¬ (40 : Int32) ≤ nI k from pu_nle (n := 40) (by omega) (by omega)), pu_ck k 40 _ (by omega) (by omega), pu_cl (by omega), pu_lt, pu_lt, nI_1]
    obtain ⟨f', e, e1, e2⟩ := ih (k + 1) (upd f k v) (by omega) fu (by omega)
    refine ⟨f', e, fun j hj => (e1 j (by omega)).trans (pu_un _ _ (by omega)), fun j h1 h2 => ?_⟩
    by_cases hj : j = k
    · rw [hj]; exact (e1 k (by omega)).trans (pu_us _ _ _)
    · exact e2 j (by omega) h2
theorem pu_fill (f : Nat → Int32) (v : Int32) : ∃ f', fd_J7_fill_53178 f v = some f' ∧ ∀ j, j < 40 → f' j = v := by
  obtain ⟨f', e, -, e2⟩ := pu_fills v 40 0 f (by omega) 2000 (by omega)
  exact ⟨f', e, fun j hj => e2 j (by omega) hj⟩
theorem pu_40 (i k : Nat) : (40 : Int32) * nI i + nI k = nI (40 * i + k) := by
  rw [show (40 : Int32) * nI i = nI (40 * i) from pk_mul 40 i, nI_add]
theorem pu_row5 {i : Nat} (hi : i < 8) (e : Int32) : ∀ (d k : Nat) (m : ob_B), k + d = 40 → ∀ fu, d < fu → ∃ m', fd_X5_row_L52 fu m (nI i) e (nI k) = some (e, ob_I m' 3 0) ∧ m'.1 = m.1 ∧ (∀ s, s ≠ 2 → m'.2 s = m.2 s) ∧ (∀ j, (j < 40 * i + k ∨ 40 * i + 40 ≤ j) → m'.2 2 j = m.2 2 j) ∧ ∀ j, 40 * i + k ≤ j → j < 40 * i + 40 → m'.2 2 j = 0 := by
  intro d
  induction d with
  | zero =>
    intro k m hk fu h1
    obtain ⟨fu, rfl⟩ : ∃ x, fu = x + 1 := ⟨fu - 1, by omega⟩
    have hk' : k = 40 := by omega
    subst hk'
    rw [fd_X5_row_L52, if_pos (by decide)]
    exact ⟨m, rfl, rfl, fun _ _ => rfl, fun _ _ => rfl, fun j h1 h2 => by omega⟩
  | succ d ih =>
    intro k m hk fu h1
    obtain ⟨fu, rfl⟩ : ∃ x, fu = x + 1 := ⟨fu - 1, by omega⟩
    rw [fd_X5_row_L52, if_neg (show ¬ (40 : Int32) ≤ nI k from pu_nle (n := 40) (by omega) (by omega)), pu_40, pu_ck (40 * i + k) 320 _ (by omega) (by omega), pu_cl (by omega), pu_lt, pu_lt, nI_1]
    obtain ⟨m', e0, e1, e2, e3, e4⟩ := ih (k + 1) (ob_A m 2 (upd (m.2 2) (40 * i + k) 0)) (by omega) fu (by omega)
    refine ⟨m', e0, e1, fun s hs => (e2 s hs).trans (pu_UN _ _ hs), fun j hj => (e3 j (by omega)).trans ((pu_AA m 2 _ j).trans (pu_un (k := 40 * i + k) _ _ (by omega))), fun j h1 h2 => ?_⟩
    by_cases hj : j = 40 * i + k
    · rw [hj]; exact (e3 _ (by omega)).trans ((pu_AA m 2 _ _).trans (pu_us _ _ _))
    · exact e4 j (by omega) h2
theorem pu_row {x m w : ob_B} (a c e : Int32) (hx : x.1 9 = m.1 3) (hw : ∀ i, i < 8 → a = nI i → pu_w w m i) : ∃ r x' w' m', fd_X4_row x w a c e = some (r, x', w') ∧ fd_X5_row m a c e = some (r, m') ∧ pu_k a x m x' m' ∧ ∀ i, i < 8 → a = nI i → pu_w w' m' i := by
  unfold fd_X4_row fd_X5_row
  rcases pu_isRow a with ⟨h4, h5, -⟩ | ⟨i, hi, rfl, h4, h5⟩
  · rw [h4, h5, pu_b1, pu_b1, if_pos rfl, if_pos rfl]
    exact ⟨_, _, _, _, rfl, rfl, pu_k0 hx, hw⟩
  · rw [h4, h5, pu_b1, pu_b1, if_neg pu_10, if_neg pu_10]
    rcases pu_in c 0 2 with g | ⟨g, g1, g2⟩
    · have hc : c < 0 ∨ 3 ≤ c := by
        by_cases q1 : c < 0
        · exact Or.inl q1
        · by_cases q2 : 3 ≤ c
          · exact Or.inr q2
          · exfalso
            have q3 : ¬ 2 < c := fun q => q2 (by
              have := Int32.lt_iff_toInt_lt.mp q
              exact Int32.le_iff_toInt_le.mpr (by rw [show (2 : Int32).toInt = 2 from rfl] at this; rw [show (3 : Int32).toInt = 3 from rfl]; omega))
            unfold fd_X5_in at g
            rw [if_neg q1, if_neg q3] at g
            exact absurd g (by decide)
      rw [g, pu_b1, if_pos rfl]
      by_cases q1 : c < 0
      · rw [if_pos q1]
        exact ⟨_, _, _, _, rfl, rfl, pu_k0 hx, hw⟩
      · rw [if_neg q1, if_pos (hc.resolve_left q1)]
        exact ⟨_, _, _, _, rfl, rfl, pu_k0 hx, hw⟩
    · obtain ⟨l, -, hl, rfl⟩ := pu_rng (lo := 0) (hi := 2) (by omega) (by omega) g1 g2
      rw [g, pu_b1, if_neg pu_10, if_neg g1, if_neg (show ¬ (3 : Int32) ≤ nI l from pu_nle (n := 3) (by omega) (by omega))]
      by_cases q1 : e ≤ 40
      · rw [if_pos q1, if_pos q1]
        by_cases q2 : 0 ≤ e
        · obtain ⟨s, -, hs, rfl⟩ := pu_rng (x := e) (lo := 0) (hi := 40) (by omega) (by omega) (fun q => absurd (Int32.lt_iff_toInt_lt.mp q) (Int.not_lt.mpr (Int32.le_iff_toInt_le.mp q2))) (fun q => absurd (Int32.lt_iff_toInt_lt.mp q) (Int.not_lt.mpr (Int32.le_iff_toInt_le.mp q1)))
          rw [if_pos q2, if_pos q2, pu_ck i 8 _ (by omega) (by omega), pu_ck i 8 _ (by omega) (by omega), pu_lt, pu_ck i 8 _ (by omega) (by omega), pu_lt, pu_cl (by omega)]
          obtain ⟨f', f1, f2⟩ := pu_fill (w.2 3) 0
          obtain ⟨m', e0, e1, e2, e3, e4⟩ := pu_row5 hi (nI s) 40 0 (ob_A (ob_A m 0 (upd (m.2 0) i (nI l))) 1 (upd ((ob_A m 0 (upd (m.2 0) i (nI l))).2 1) i (nI s))) (by omega) 2000 (by omega)
          have hb : fd_X2_begin w (nI l) (nI s) = some (ob_A (ob_I (ob_I (ob_I w 0 0) 1 (nI l)) 2 (nI s)) 3 f') := by
            unfold fd_X2_begin
            simp only [pu_lt]
            rw [show (ob_I (ob_I (ob_I w 0 0) 1 (nI l)) 2 (nI s)).2 3 = w.2 3 from rfl, f1, pu_b1]
          rw [hb, pu_b1]
          have m0 : m'.2 0 = upd (m.2 0) i (nI l) := (e2 0 (by decide)).trans rfl
          have m1 : m'.2 1 = upd (m.2 1) i (nI s) := (e2 1 (by decide)).trans rfl
          have m2 : ∀ j, (j < 40 * i ∨ 40 * i + 40 ≤ j) → m'.2 2 j = m.2 2 j := fun j hj => e3 j (by omega)
          refine ⟨_, _, _, _, rfl, e0, pu_kv 0 (fun k _ => congrFun e1 k) (fun k hk _ _ _ _ => (e2 k (by omega)).trans ((pu_UN _ _ (by omega)).trans (pu_UN _ _ (by omega)))) (fun t ht hne => ?_), fun t ht he => ?_⟩
          · have hti : t ≠ i := fun q => hne (by rw [q])
            exact ⟨(congrFun m0 t).trans (pu_un _ _ hti), (congrFun m1 t).trans (pu_un _ _ hti), fun j hj => m2 _ (by omega)⟩
          · have hti : i = t := pu_nIj i hi t ht he
            subst hti
            exact Or.inr ⟨rfl, ⟨l, by omega, rfl, (congrFun m0 i).trans (pu_us _ _ _)⟩, ⟨s, hs, rfl, (congrFun m1 i).trans (pu_us _ _ _)⟩, fun j hj => (f2 j hj).trans (e4 _ (by omega) (by omega)).symm⟩
        · rw [if_neg q2, if_neg q2]
          exact ⟨_, _, _, _, rfl, rfl, pu_kf 4, hw⟩
      · rw [if_neg q1, if_neg q1]
        exact ⟨_, _, _, _, rfl, rfl, pu_k0 hx, hw⟩
theorem pu_ri {i : Nat} (h : i < 8) : (nI i < 0 ∨ 8 ≤ Int32.toNatClampNeg (nI i)) = False := eq_false (vp_in_nI h (by omega))
theorem pu_rj {i : Nat} (h : i < 8) : (nI i < 0 ∨ 8 ≤ i) = False := eq_false (fun q => q.elim (nI_pos (by omega)) (by omega))
theorem pu_drop {x m w : ob_B} (a : Int32) (hx : x.1 9 = m.1 3) (hw : ∀ i, i < 8 → a = nI i → pu_w w m i) : ∃ r x' w' m', fd_X4_drop x w a = some (r, x', w') ∧ fd_X5_drop m a = some (r, m') ∧ pu_k a x m x' m' ∧ ∀ i, i < 8 → a = nI i → pu_w w' m' i := by
  unfold fd_X4_drop fd_X5_drop
  rcases pu_isRow a with ⟨h4, h5, -⟩ | ⟨i, hi, rfl, h4, h5⟩
  · rw [h4, h5, pu_b1, pu_b1, if_pos rfl, if_pos rfl]
    exact ⟨_, _, _, _, rfl, rfl, pu_k0 hx, hw⟩
  · rw [h4, h5, pu_b1, pu_b1, if_neg pu_10, if_neg pu_10]
    simp only [pu_rj hi, if_false, show Int32.toNatClampNeg (nI i) = i from pu_cl (by omega), pu_lt]
    rcases hw i hi rfl with ⟨w0, n0⟩ | ⟨w0, ⟨l, hl, w1, n1⟩, ⟨s, hs, w2, n2⟩, w3⟩
    · rw [w0, n0, if_neg pu_10, if_neg (show ¬ (0 : Int32) ≤ -1 by decide)]
      exact ⟨_, _, _, _, rfl, rfl, pu_kf 1, hw⟩
    · rw [w0, n1, if_pos rfl, if_pos (pu_0le (by omega))]
      rw [show (ob_I w 0 1).1 2 = w.1 2 from rfl, w2, show (ob_A m 0 (upd (m.2 0) i (-1))).2 1 i = m.2 1 i from rfl, n2]
      refine ⟨_, _, _, _, rfl, rfl, pu_kv 0 (fun k _ => rfl) (fun k hk _ _ _ _ => pu_UN _ _ (by omega)) (fun t ht hne => ?_), fun t ht he => ?_⟩
      · have hti : t ≠ i := fun q => hne (by rw [q])
        exact ⟨(pu_AA m 0 _ t).trans (pu_un _ _ hti), rfl, fun j hj => rfl⟩
      · have hti : i = t := pu_nIj i hi t ht he
        subst hti
        exact Or.inl ⟨rfl, (pu_AA m 0 _ i).trans (pu_us _ _ _)⟩
