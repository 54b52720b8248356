theorem pu_sworns {x w y : ob_B} {n i j p q : Nat} (hi : i < 8) (hj : j < n) (hq : q ≤ 12) (hpq : p + q ≤ 40) : ∀ (d k : Nat) (t m : ob_B) (z : Int32), k + d = 10 → pu_ok (m.2 12) n → pu_rr y (m.2 12) n → (∀ j, j < q → m.2 21 j = w.2 3 (p + j)) → ∀ fu1 fu5, d < fu1 → d < fu5 → ∃ r t' m', fd_X4_sworn_L72 fu1 x w y t (nI j) (nI i) (nI p) (nI q) z (nI k) = some (r, ob_I x 9 0, t') ∧ fd_X5_sworn_L68 fu5 m (nI j) (nI q) z (nI k) = some (r, ob_I m' 3 0) ∧ pu_sm m m' := by
  intro d
  induction d with
  | zero =>
    intro k t m z hk ho hr ht fu1 fu5 h1 h5
    obtain ⟨fu1, rfl⟩ : ∃ x, fu1 = x + 1 := ⟨fu1 - 1, by omega⟩
    obtain ⟨fu5, rfl⟩ : ∃ x, fu5 = x + 1 := ⟨fu5 - 1, by omega⟩
    have hk' : k = 10 := by omega
    subst hk'
    rw [fd_X4_sworn_L72, fd_X5_sworn_L68, if_pos (by decide), if_pos (by decide)]
    exact ⟨_, _, m, rfl, rfl, pu_sm_rf⟩
  | succ d ih =>
    intro k t m z hk ho hr ht fu1 fu5 h1 h5
    obtain ⟨fu1, rfl⟩ : ∃ x, fu1 = x + 1 := ⟨fu1 - 1, by omega⟩
    obtain ⟨fu5, rfl⟩ : ∃ x, fu5 = x + 1 := ⟨fu5 - 1, by omega⟩
    have hn := ho.1
    obtain ⟨t1, b1, b2⟩ := pu_become t y
    obtain ⟨m1, c1, c2, c3, c4, c5⟩ := pu_begin ho
    have r1 := pu_rrA (c5 _ (b2 _ _ hn hr)) hn 8 14 (by omega) hj (nI k)
    have o1 := pu_okp c4 hj (show k < 10 by omega)
    obtain ⟨r, t2, m2, s0, s1, s2, s3, s4⟩ := pu_so (w := w) (p := p) (q := q) (m := ob_A m1 14 (upd (m1.2 14) (14 + j) (nI k))) hq hpq o1 r1 (fun a ha => by
      rw [← ht a ha]
      exact congrFun (pu_bg21 c1) a)
    have sm : pu_sm m m2 := pu_sm_tr c2 (pu_sm_tr (pu_sm14 _ _) s3)
    have s21 : m2.2 21 = m.2 21 := s4.trans ((show (ob_A m1 14 (upd (m1.2 14) (14 + j) (nI k))).2 21 = m1.2 21 from rfl).trans (pu_bg21 c1))
    have hlt : ¬ (10 : Int32) ≤ nI k := pu_nle (n := 10) (by omega) (by omega)
    rw [fd_X4_sworn_L72, fd_X5_sworn_L68, if_neg hlt, if_neg hlt, b1, c1, pu_b1, pu_b1, pu_14, pu_ck j 7 _ (by omega) (by omega), pu_ck (14 + j) 42 _ (by omega) (by omega), pu_lt, pu_lt, pu_ck i 8 _ (by omega) (by omega), pu_cl (show j < 2147483648 by omega), pu_cl (show 14 + j < 2147483648 by omega), s1, s2, pu_b2, pu_b2]
    have g := fun z' => ih (k + 1) t2 m2 z' (by omega) (by rw [pu_sm12 sm]; exact ho) (by rw [pu_sm12 sm]; exact hr) (by rw [s21]; exact ht) fu1 fu5 (by omega) (by omega)
    rcases s0 with rfl | rfl
    · rw [if_pos rfl, if_pos rfl]
      simp only [pu_lt, nI_1]
      obtain ⟨r, t', m', g1, g2, g3⟩ := g (z ||| 0)
      exact ⟨r, t', m', g1, g2, pu_sm_tr sm g3⟩
    · rw [if_neg pu_10, if_neg pu_10]
      simp only [pu_lt, nI_1]
      obtain ⟨r, t', m', g1, g2, g3⟩ := g (z ||| (1 <<< (nI k &&& 31)))
      exact ⟨r, t', m', g1, g2, pu_sm_tr sm g3⟩
theorem pu_sworn {x m w y t : ob_B} {n : Nat} (ho : pu_ok (m.2 12) n) (hr : pu_rr y (m.2 12) n) (a b c e : Int32) (hx : x.1 9 = m.1 3) (hw : ∀ i, i < 8 → b = nI i → pu_w w m i) : ∃ r x' t' m', fd_X4_sworn x w y t a b c e = some (r, x', t') ∧ fd_X5_sworn m a b c e = some (r, m') ∧ pu_kt x m x' m' := by
  have hn := ho.1
  unfold fd_X4_sworn fd_X5_sworn
  rcases pu_one (x := x) ho hr a with ⟨h1, h5⟩ | ⟨j, hj, rfl, h1, h5⟩
  · rw [h1, h5, pu_b1, pu_b1, if_pos rfl, if_pos rfl]
    exact ⟨_, _, _, _, rfl, rfl, pu_kt0 hx pu_sm_rf⟩
  rw [h1, h5, pu_b1, pu_b1, if_neg pu_10, if_neg pu_10]
  rcases pu_isRow b with ⟨h4, h5, -⟩ | ⟨i, hi, rfl, h4, h5⟩
  · rw [h4, h5, pu_b1, pu_b1, if_pos rfl, if_pos rfl]
    exact ⟨_, _, _, _, rfl, rfl, pu_kt0 hx pu_sm_rf⟩
  rw [h4, h5, pu_b1, pu_b1, if_neg pu_10, if_neg pu_10, pu_within]
  rcases pu_in e 1 12 with g | ⟨g, g1, g2⟩
  · rw [g, pu_b1, pu_b1, if_pos rfl, if_pos rfl]
    exact ⟨_, _, _, _, rfl, rfl, pu_kt0 hx pu_sm_rf⟩
  obtain ⟨q, hq1, hq, rfl⟩ := pu_rng (lo := 1) (hi := 12) (by omega) (by omega) g1 g2
  rw [g, pu_b1, pu_b1, if_neg pu_10, if_neg pu_10]
  rcases pu_take (x := x) hi (hw i hi rfl) hq1 hq c with ⟨v, hv, k4, k5⟩ | ⟨p, m1, rfl, hpq, k4, k5, k6, k7⟩
  · rw [k4, k5, pu_b1, pu_b2, if_neg (pu_neg12 v hv).1, if_neg (pu_neg12 v hv).2]
    exact ⟨_, _, _, _, rfl, rfl, pu_ktv v pu_sm_rf⟩
  · rw [k4, k5, pu_b1, pu_b2, if_pos rfl, if_pos (show (0 : Int32) ≤ 0 by decide), pu_35, pu_ck j 7 _ (by omega) (by omega), pu_ck (35 + j) 42 _ (by omega) (by omega), pu_cl (show j < 2147483648 by omega), pu_cl (show 35 + j < 2147483648 by omega), pu_sm12 k6, (hr.2.2.2.2.2.2.2 j hj).2.2.2.2]
    by_cases h0 : m.2 12 (35 + j) = 0
    · rw [if_pos h0, if_pos h0]
      obtain ⟨r, t', m', e1, e2, e3⟩ := pu_sworns (x := x) (w := w) (y := y) hi hj hq hpq 10 0 t m1 0 (by omega) (by rw [pu_sm12 k6]; exact ho) (by rw [pu_sm12 k6]; exact hr) k7 2000 2000 (by omega) (by omega)
      exact ⟨r, _, t', _, e1, e2, pu_ktv 0 (pu_sm_tr k6 e3)⟩
    · rw [if_neg h0, if_neg h0]
      exact ⟨_, _, _, _, rfl, rfl, pu_kt0 hx k6⟩
