theorem pu_h1 {c k : Nat} (hc : c < 7) (hk : k < 7) : fd_X5_has (1 <<< (nI c &&& 31)) (nI k) = some (if k = c then 1 else 0) := by
  have : ∀ c, c < 7 → ∀ k, k < 7 → fd_X5_has (1 <<< (nI c &&& 31)) (nI k) = some (if k = c then 1 else 0) := by decide +kernel
  exact this c hc k hk
theorem pu_but1s {n c : Nat} (hn : n ≤ 7) (hc : c < n) : ∀ (d k : Nat) (m : ob_B), k + d = n → m.2 12 2 = nI n → ∀ fu, d < fu → ∃ m', fd_X5_beginBut_L6 fu m (1 <<< (nI c &&& 31)) (nI k) = some m' ∧ pu_sm m m' ∧ m'.2 21 = m.2 21 ∧ ∀ i, m'.2 14 i = if i = 35 + c ∧ k ≤ c then 3 else m.2 14 i := by
  intro d
  induction d with
  | zero =>
    intro k m hk h12 fu h1
    obtain ⟨fu, rfl⟩ : ∃ x, fu = x + 1 := ⟨fu - 1, by omega⟩
    have hk' : k = n := by omega
    subst hk'
    rw [fd_X5_beginBut_L6, pu_c2, h12, if_pos pu_le]
    exact ⟨m, rfl, pu_sm_rf, rfl, fun i => by rw [if_neg (by omega)]⟩
  | succ d ih =>
    intro k m hk h12 fu h1
    obtain ⟨fu, rfl⟩ : ∃ x, fu = x + 1 := ⟨fu - 1, by omega⟩
    rw [fd_X5_beginBut_L6, pu_c2, h12, if_neg (pu_nle (by omega) (by omega)), pu_h1 (by omega) (by omega), pu_b1]
    simp only [pu_lt, nI_1, pu_35]
    by_cases hkc : k = c
    · rw [if_pos hkc, if_neg pu_10, pu_ck (35 + k) 42 _ (by omega) (by omega), pu_cl (by omega)]
      obtain ⟨m', g1, g2, g3, g4⟩ := ih (k + 1) (ob_A m 14 (upd (m.2 14) (35 + k) 3)) (by omega) h12 fu (by omega)
      refine ⟨m', g1, pu_sm_tr (pu_sm14 m _) g2, g3, fun i => ?_⟩
      rw [g4 i, if_neg (by omega), pu_AA]
      by_cases hi : i = 35 + c
      · rw [if_pos ⟨hi, by omega⟩, hi, ← hkc, pu_us]
      · rw [if_neg (fun q => hi q.1), pu_un _ _ (by omega)]
    · rw [if_neg hkc, if_pos rfl, pu_ck (35 + k) 42 _ (by omega) (by omega), pu_ck (35 + k) 42 _ (by omega) (by omega), pu_cl (by omega), pu_usf]
      obtain ⟨m', g1, g2, g3, g4⟩ := ih (k + 1) (ob_A m 14 (m.2 14)) (by omega) h12 fu (by omega)
      refine ⟨m', g1, pu_sm_tr (pu_sm14 m _) g2, g3, fun i => ?_⟩
      rw [g4 i, pu_AA]
      by_cases hi : i = 35 + c ∧ k + 1 ≤ c
      · rw [if_pos hi, if_pos ⟨hi.1, by omega⟩]
      · rw [if_neg hi, if_neg (by omega)]
theorem pu_but1 {m y t : ob_B} {n c : Nat} (ho : pu_ok (m.2 12) n) (hr : pu_rr y (m.2 12) n) (hc : c < n) : ∃ t1 m1, fd_X1_become t y = some t1 ∧ fd_X5_beginBut m (1 <<< (nI c &&& 31)) = some m1 ∧ pu_sm m m1 ∧ m1.2 21 = m.2 21 ∧ pu_ok (m1.2 14) n ∧ pu_rr (ob_A t1 11 (upd (t1.2 11) c 3)) (m1.2 14) n := by
  have hn := ho.1
  obtain ⟨t1, b1, b2⟩ := pu_become t y
  obtain ⟨m1, c1, c2, c3, c4, c5⟩ := pu_begin ho
  have h12 : m1.2 12 2 = nI n := by rw [pu_sm12 c2]; exact ho.2.1
  obtain ⟨m2, g1, g2, g3, g4⟩ := pu_but1s hn hc n 0 m1 (by omega) h12 2000 (by omega)
  have e : ∀ i, i < 42 → m2.2 14 i = upd (m1.2 14) (35 + c) 3 i := fun i _ => by
    rw [g4 i]
    by_cases hi : i = 35 + c
    · rw [if_pos ⟨hi, by omega⟩, hi, pu_us]
    · rw [if_neg (fun q => hi q.1), pu_un _ _ hi]
  refine ⟨t1, m2, b1, ?_, pu_sm_tr c2 g2, g3.trans (pu_bg21 c1), pu_ok_cg (pu_okc c4 (by omega) (by omega) (fun j hj => by omega)) e, pu_rr_cg hn (pu_rrA (c5 _ (b2 _ _ hn hr)) hn 11 35 (by omega) hc 3) e⟩
  rw [fd_X5_beginBut, c1, pu_b1]
  exact g1
theorem pu_brokes {x w y : ob_B} {n i p q : Nat} (hi : i < 8) (hq : q ≤ 12) (hpq : p + q ≤ 40) : ∀ (d k : Nat) (t m : ob_B) (z : Int32), k + d = n → pu_ok (m.2 12) n → pu_rr y (m.2 12) n → (∀ j, j < q → m.2 21 j = w.2 3 (p + j)) → ∀ fu1 fu5, d < fu1 → d < fu5 → ∃ r t' m', fd_X4_broke_L92 fu1 x w y t (nI i) (nI p) (nI q) z (nI k) = some (r, ob_I x 9 0, t') ∧ fd_X5_broke_L71 fu5 m (nI q) z (nI k) = some (r, ob_I m' 3 0) ∧ pu_sm m m' := by
  intro d
  induction d with
  | zero =>
    intro k t m z hk ho hr ht fu1 fu5 h1 h5
    obtain ⟨fu1, rfl⟩ : ∃ x, fu1 = x + 1 := ⟨fu1 - 1, by omega⟩
    obtain ⟨fu5, rfl⟩ : ∃ x, fu5 = x + 1 := ⟨fu5 - 1, by omega⟩
    have hk' : k = n := by omega
    subst hk'
    rw [fd_X4_broke_L92, fd_X5_broke_L71, pu_c2, ho.2.1, show y.1 4 = nI k from hr.2.2.1.trans ho.2.1, if_pos pu_le, if_pos pu_le]
    exact ⟨_, _, m, rfl, rfl, pu_sm_rf⟩
  | succ d ih =>
    intro k t m z hk ho hr ht fu1 fu5 h1 h5
    obtain ⟨fu1, rfl⟩ : ∃ x, fu1 = x + 1 := ⟨fu1 - 1, by omega⟩
    obtain ⟨fu5, rfl⟩ : ∃ x, fu5 = x + 1 := ⟨fu5 - 1, by omega⟩
    have hn := ho.1
    have hkn : k < n := by omega
    have hlt : ¬ nI n ≤ nI k := pu_nle (by omega) (by omega)
    rw [fd_X4_broke_L92, fd_X5_broke_L71, pu_c2, ho.2.1, show y.1 4 = nI n from hr.2.2.1.trans ho.2.1, if_neg hlt, if_neg hlt, pu_35, pu_ck k 7 _ (by omega) (by omega), pu_ck (35 + k) 42 _ (by omega) (by omega), pu_cl (show k < 2147483648 by omega), pu_cl (show 35 + k < 2147483648 by omega), (hr.2.2.2.2.2.2.2 k hkn).2.2.2.2]
    by_cases h0 : m.2 12 (35 + k) = 0
    · obtain ⟨t1, m1, b1, c1, c2, c3, c4, c5⟩ := pu_but1 (t := t) ho hr hkn
      obtain ⟨r, t2, m2, s0, s1, s2, s3, s4⟩ := pu_so (w := w) (p := p) (q := q) hq hpq c4 c5 (by rw [c3]; exact ht)
      have sm : pu_sm m m2 := pu_sm_tr c2 s3
      have g := fun z' => ih (k + 1) t2 m2 z' (by omega) (by rw [pu_sm12 sm]; exact ho) (by rw [pu_sm12 sm]; exact hr) (by rw [s4, c3]; exact ht) fu1 fu5 (by omega) (by omega)
      rw [if_pos h0, if_pos h0, b1, c1, pu_b1, pu_b1, pu_ck2 k 7 _ (by omega) (by omega), pu_lt, pu_ck i 8 _ (by omega) (by omega), s1, s2, pu_b2, pu_b2]
      rcases s0 with rfl | rfl
      · rw [if_pos rfl, if_pos rfl]
        simp only [pu_lt, nI_1]
        obtain ⟨r, t', m', g1, g2, g3⟩ := g (z ||| 0)
        exact ⟨r, t', m', g1, g2, pu_sm_tr sm g3⟩
      · rw [if_neg pu_10, if_neg pu_10]
        simp only [pu_lt, nI_1]
        obtain ⟨r, t', m', g1, g2, g3⟩ := g (z ||| (1 <<< (nI k &&& 31)))
        exact ⟨r, t', m', g1, g2, pu_sm_tr sm g3⟩
    · rw [if_neg h0, if_neg h0]
      simp only [pu_lt, nI_1]
      exact ih (k + 1) t m z (by omega) ho hr ht fu1 fu5 (by omega) (by omega)
theorem pu_broke {x m w y t : ob_B} {n : Nat} (ho : pu_ok (m.2 12) n) (hr : pu_rr y (m.2 12) n) (b c e : Int32) (hx : x.1 9 = m.1 3) (hw : ∀ i, i < 8 → b = nI i → pu_w w m i) : ∃ r x' t' m', fd_X4_broke x w y t b c e = some (r, x', t') ∧ fd_X5_broke m b c e = some (r, m') ∧ pu_kt x m x' m' := by
  have hn := ho.1
  unfold fd_X4_broke fd_X5_broke
  rcases pu_nor (x := x) ho hr with ⟨-, h1, h5⟩ | ⟨-, h1, h5⟩
  · rw [h1, h5, pu_b1, pu_b1, if_neg pu_10, if_pos rfl]
    exact ⟨_, _, _, _, rfl, rfl, pu_kt0 hx pu_sm_rf⟩
  rw [h1, h5, pu_b1, pu_b1, if_pos rfl, if_neg pu_10]
  rcases pu_isRow b with ⟨h4, h5, -⟩ | ⟨i, hi, rfl, h4, h5⟩
  · rw [h4, h5, pu_b1, pu_b1, if_pos rfl, if_pos rfl]
    exact ⟨_, _, _, _, rfl, rfl, pu_kt0 hx pu_sm_rf⟩
  rw [h4, h5, pu_b1, pu_b1, if_neg pu_10, if_neg pu_10, pu_within]
  rcases pu_in e 1 12 with g | ⟨g, g1, g2⟩
  · rw [g, pu_b1, pu_b1, if_pos rfl, if_pos rfl]
    exact ⟨_, _, _, _, rfl, rfl, pu_kt0 hx pu_sm_rf⟩
  obtain ⟨q, hq1, hq, rfl⟩ := pu_rng (lo := 1) (hi := 12) (by omega) (by omega) g1 g2
  rw [g, pu_b1, pu_b1, if_neg pu_10, if_neg pu_10]
  rcases pu_take (x := x) hi (hw i hi rfl) hq1 hq c with ⟨v, hv, k4, k5⟩ | ⟨p, m1, rfl, hpq, k4, k5, k6, k7⟩
  · rw [k4, k5, pu_b1, pu_b2, if_neg (pu_neg12 v hv).1, if_neg (pu_neg12 v hv).2]
    exact ⟨_, _, _, _, rfl, rfl, pu_ktv v pu_sm_rf⟩
  · have ho1 : pu_ok (m1.2 12) n := by rw [pu_sm12 k6]; exact ho
    have hr1 : pu_rr y (m1.2 12) n := by rw [pu_sm12 k6]; exact hr
    obtain ⟨t1, b1, b2⟩ := pu_become t y
    obtain ⟨m2, c1, c2, c3, c4, c5⟩ := pu_begin ho1
    obtain ⟨r, t2, m3, s0, s1, s2, s3, s4⟩ := pu_so (w := w) (p := p) (q := q) hq hpq c4 (c5 _ (b2 _ _ hn hr1)) (by rw [pu_bg21 c1]; exact k7)
    have sm : pu_sm m1 m3 := pu_sm_tr c2 s3
    rw [k4, k5, pu_b1, pu_b2, if_pos rfl, if_pos (show (0 : Int32) ≤ 0 by decide), b1, c1, pu_b1, pu_b1, pu_ck i 8 _ (by omega) (by omega), s1, s2, pu_b2, pu_b2]
    have g := fun z' => pu_brokes (x := x) (w := w) (y := y) (n := n) hi hq hpq n 0 t2 m3 z' (by omega) (by rw [pu_sm12 sm]; exact ho1) (by rw [pu_sm12 sm]; exact hr1) (by rw [s4, pu_bg21 c1]; exact k7) 2000 2000 (by omega) (by omega)
    rcases s0 with rfl | rfl
    · rw [if_pos rfl, if_pos rfl]
      obtain ⟨r, t', m', e1, e2, e3⟩ := g 0
      exact ⟨r, _, t', _, e1, e2, pu_ktv 0 (pu_sm_tr k6 (pu_sm_tr sm e3))⟩
    · rw [if_neg pu_10, if_neg pu_10]
      obtain ⟨r, t', m', e1, e2, e3⟩ := g 128
      exact ⟨r, _, t', _, e1, e2, pu_ktv 0 (pu_sm_tr k6 (pu_sm_tr sm e3))⟩
