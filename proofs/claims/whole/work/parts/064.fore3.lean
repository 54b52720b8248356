theorem pu_openTo {t : ob_B} {f : Nat → Int32} {n j p w : Nat} (ho : pu_ok f n) (hr : pu_rr t f n) (hj : j < n) (hp : p < 10) (hw1 : 1 ≤ w) (hw2 : w ≤ 20) : ∃ t', fd_X1_openTo t (nI j) (nI p) (nI w) = some t' ∧ pu_rr t' (upd (upd (upd f (14 + j) (nI p)) (21 + j) (nI w)) (35 + j) 0) n ∧ pu_ok (upd (upd (upd f (14 + j) (nI p)) (21 + j) (nI w)) (35 + j) 0) n := by
  have hn := ho.1
  have r1 := pu_rrA hr hn 8 14 (by omega) hj (nI p)
  have r2 := pu_rrA r1 hn 9 21 (by omega) hj (nI w)
  have r3 := pu_rrA r2 hn 11 35 (by omega) hj 0
  refine ⟨_, ?_, r3, ?_⟩
  · unfold fd_X1_openTo
    rw [pu_ck j 7 _ (by omega) (by omega), pu_lt, pu_ck j 7 _ (by omega) (by omega), pu_lt, pu_ck j 7 _ (by omega) (by omega), pu_lt, pu_cl (by omega)]
  · obtain ⟨a, b, c, d⟩ := ho
    refine ⟨a, by rw [pu_un _ _ (by omega), pu_un _ _ (by omega), pu_un _ _ (by omega)]; exact b, by rw [pu_un _ _ (by omega), pu_un _ _ (by omega), pu_un _ _ (by omega)]; exact c, fun i hi => ?_⟩
    obtain ⟨d1, d2, d3⟩ := d i hi
    rw [pu_un _ _ (show 7 + i ≠ 35 + j by omega), pu_un _ _ (show 14 + i ≠ 35 + j by omega), pu_un _ _ (show 21 + i ≠ 35 + j by omega)]
    rw [pu_un _ _ (show 7 + i ≠ 21 + j by omega), pu_un _ _ (show 14 + i ≠ 21 + j by omega), pu_un _ _ (show 7 + i ≠ 14 + j by omega)]
    refine ⟨d1, ?_, ?_⟩
    · by_cases h : i = j
      · subst h; exact ⟨p, hp, pu_us _ _ _⟩
      · rw [pu_un _ _ (by omega)]; exact d2
    · by_cases h : i = j
      · subst h; exact ⟨w, hw1, hw2, pu_us _ _ _⟩
      · rw [pu_un _ _ (by omega), pu_un _ _ (by omega)]; exact d3
theorem pu_leasts {x y : ob_B} {n j p N : Nat} (hj : j < n) (hp : p < 10) (hN : N ≤ 24) : ∀ (d k : Nat) (t m : ob_B), k + d = 21 → 1 ≤ k → pu_ok (m.2 12) n → pu_rr y (m.2 12) n → ∀ fu1 fu5, d < fu1 → d < fu5 →
    ∃ r t' m', fd_X4_least_L31 fu1 x y t (nI j) (nI p) (nI N) (nI k) = some (r, t') ∧ fd_X5_least_L34 fu5 m (nI j) (nI p) (nI N) (nI k) = some (r, m') ∧ pu_sm m m' := by
  intro d
  induction d with
  | zero =>
    intro k t m hk hk1 ho hr fu1 fu5 h1 h5
    obtain ⟨fu1, rfl⟩ : ∃ x, fu1 = x + 1 := ⟨fu1 - 1, by omega⟩
    obtain ⟨fu5, rfl⟩ : ∃ x, fu5 = x + 1 := ⟨fu5 - 1, by omega⟩
    have hk' : k = 21 := by omega
    subst hk'
    rw [fd_X4_least_L31, fd_X5_least_L34, if_pos (by decide), if_pos (by decide)]
    exact ⟨_, _, _, rfl, rfl, pu_sm_rf⟩
  | succ d ih =>
    intro k t m hk hk1 ho hr fu1 fu5 h1 h5
    obtain ⟨fu1, rfl⟩ : ∃ x, fu1 = x + 1 := ⟨fu1 - 1, by omega⟩
    obtain ⟨fu5, rfl⟩ : ∃ x, fu5 = x + 1 := ⟨fu5 - 1, by omega⟩
    have hn := ho.1
    have hlt : ¬ (20 : Int32) < nI k := nI_nlt (a := 20) (b := k) (by omega) (by omega)
    obtain ⟨t1, b1, b2⟩ := pu_become t y
    obtain ⟨m1, c1, c2, c3, c4, c5⟩ := pu_begin ho
    obtain ⟨t2, e1, e2, e3⟩ := pu_openTo (p := p) (w := k) c4 (c5 _ (b2 _ _ hn hr)) hj hp hk1 (by omega)
    obtain ⟨t3, m3, g1, g2, g3, g4, g5, g6⟩ := pu_go (N := N) (by omega) (m := ob_A m1 14 (upd (upd (upd (m1.2 14) (14 + j) (nI p)) (21 + j) (nI k)) (35 + j) 0)) e3 e2
    have s3 : pu_sm m m3 := pu_sm_tr (pu_sm_tr c2 (pu_sm14 m1 _)) g3
    have h12 : m3.2 12 = m.2 12 := s3.2 12 (by decide) (by decide) (by decide) (by decide)
    have hh : t3.1 1 = m3.2 12 1 := by
      rw [show t3.1 1 = m3.2 14 1 from g5.2.1, g6, h12]
      show upd (upd (upd (m1.2 14) (14 + j) (nI p)) (21 + j) (nI k)) (35 + j) 0 1 = _
      rw [pu_un _ _ (by omega), pu_un _ _ (by omega), pu_un _ _ (by omega)]
      exact c3 1 (by omega)
    rw [fd_X4_least_L31, fd_X5_least_L34, if_neg hlt, if_neg hlt, b1, c1, pu_b1, pu_b1, e1, pu_b1, g1, pu_b1]
    simp only [pu_lt]
    rw [pu_14, pu_ck (14 + j) 42 _ (by omega) (by omega), pu_21, pu_ck (21 + j) 42 _ (by omega) (by omega), pu_35, pu_ck (35 + j) 42 _ (by omega) (by omega), pu_cl (by omega), pu_cl (by omega), pu_cl (by omega)]
    have key : fd_X5_goOn (ob_A (ob_A (ob_A m1 14 (upd (m1.2 14) (14 + j) (nI p))) 14 (upd ((ob_A m1 14 (upd (m1.2 14) (14 + j) (nI p))).2 14) (21 + j) (nI k))) 14 (upd ((ob_A (ob_A m1 14 (upd (m1.2 14) (14 + j) (nI p))) 14 (upd ((ob_A m1 14 (upd (m1.2 14) (14 + j) (nI p))).2 14) (21 + j) (nI k))).2 14) (35 + j) 0)) (nI N) = some (m3.2 14 0, m3) := by
      have e : ob_A (ob_A (ob_A m1 14 (upd (m1.2 14) (14 + j) (nI p))) 14 (upd ((ob_A m1 14 (upd (m1.2 14) (14 + j) (nI p))).2 14) (21 + j) (nI k))) 14 (upd ((ob_A (ob_A m1 14 (upd (m1.2 14) (14 + j) (nI p))) 14 (upd ((ob_A m1 14 (upd (m1.2 14) (14 + j) (nI p))).2 14) (21 + j) (nI k))).2 14) (35 + j) 0) = ob_A m1 14 (upd (upd (upd (m1.2 14) (14 + j) (nI p)) (21 + j) (nI k)) (35 + j) 0) := by
        have ae : ∀ (b : ob_B) (g g' : Nat → Int32), ob_A (ob_A b 14 g) 14 g' = ob_A b 14 g' := by
          intro b g g'
          unfold ob_A
          refine congrArg (fun z => (b.1, z)) ?_
          funext i
          unfold ob_U
          by_cases h : i = 14
          · rw [if_pos h, if_pos h]
          · rw [if_neg h, if_neg h]; dsimp only; rw [if_neg h]
        rw [ae, ae]
        rfl
      rw [e]
      exact g2
    rw [key, pu_b2, pu_c1, ← hh, show t3.1 0 = m3.2 14 0 from g5.1]
    by_cases h0 : m3.2 14 0 = t3.1 1
    · rw [if_pos h0, if_pos h0]
      exact ⟨_, _, _, rfl, rfl, s3⟩
    · rw [if_neg h0, if_neg h0, nI_1]
      obtain ⟨r, t', m', k1, k2, k3⟩ := ih (k + 1) t3 m3 (by omega) (by omega) (by rw [h12]; exact ho) (by rw [h12]; exact hr) fu1 fu5 (by omega) (by omega)
      exact ⟨r, t', m', k1, k2, pu_sm_tr s3 k3⟩
theorem pu_least {m y x t : ob_B} {n : Nat} (ho : pu_ok (m.2 12) n) (hr : pu_rr y (m.2 12) n) (a c e : Int32) : ∃ r t' m', fd_X4_least x y t a c e = some (r, t') ∧ fd_X5_least m a c e = some (r, m') ∧ pu_sm m m' := by
  unfold fd_X4_least fd_X5_least
  rw [pu_within]
  rcases pu_one (x := x) ho hr a with ⟨h1, h5⟩ | ⟨j, hj, rfl, h1, h5⟩
  · rw [h1, h5, pu_b1, pu_b1, if_pos rfl, if_pos rfl]
    exact ⟨_, _, _, rfl, rfl, pu_sm_rf⟩
  · rw [h1, h5, pu_b1, pu_b1, if_neg pu_10, if_neg pu_10]
    rcases pu_isPlace c with ⟨g1, g5⟩ | ⟨p, hp, rfl, g1, g5⟩
    · rw [g1, g5, pu_b1, pu_b1, if_pos rfl, if_pos rfl]
      exact ⟨_, _, _, rfl, rfl, pu_sm_rf⟩
    · rw [g1, g5, pu_b1, pu_b1, if_neg pu_10, if_neg pu_10]
      rcases pu_in e 1 24 with g | ⟨g, k1, k2⟩
      · rw [g, pu_b1, pu_b1, if_pos rfl, if_pos rfl]
        exact ⟨_, _, _, rfl, rfl, pu_sm_rf⟩
      · obtain ⟨N, -, hN, rfl⟩ := pu_rng (lo := 1) (hi := 24) (by omega) (by omega) k1 k2
        rw [g, pu_b1, pu_b1, if_neg pu_10, if_neg pu_10]
        exact pu_leasts hj hp hN 20 1 t m (by omega) (by omega) ho hr 2000 2000 (by omega) (by omega)
/-! sets of oaths, as numbers below 128 -/
theorem pu_tb : ∀ k, k < 7 → ∀ s, s < 128 → s < 2 ^ k → ∀ j, j < 7 → Nat.testBit (s + 2 ^ k) j = (if j = k then true else Nat.testBit s j) := by decide +kernel
theorem pu_tb0 : ∀ k, k < 7 → ∀ s, s < 128 → s < 2 ^ k → Nat.testBit s k = false := by decide +kernel
theorem pu_hb : ∀ s, s < 128 → ∀ k, k < 7 → ((nI s >>> (nI k &&& 31)) &&& 1) = (if Nat.testBit s k then 1 else 0) := by decide +kernel
theorem pu_ab : ∀ s, s < 128 → ∀ k, k < 7 → (nI s &&& (1 <<< (nI k &&& 31)) = 0 ↔ Nat.testBit s k = false) := by decide +kernel
theorem pu_1k : ∀ k, k < 7 → (1 : Int32) <<< (nI k &&& 31) = nI (2 ^ k) := by decide +kernel
theorem pu_openss {y : ob_B} {f : Nat → Int32} {n : Nat} (ho : pu_ok f n) (hr : pu_rr y f n) : ∀ (d k s : Nat), k + d = n → s < 2 ^ k → (∀ j, j < k → (Nat.testBit s j = true ↔ f (35 + j) = 0)) → ∀ fu1 fu5, d < fu1 → d < fu5 →
    ∃ s', s' < 2 ^ n ∧ (∀ j, j < n → (Nat.testBit s' j = true ↔ f (35 + j) = 0)) ∧ fd_X1_openBits_L4 fu1 y (nI s) (nI k) = some (nI s') ∧ fd_X5_openOf_L4 fu5 f (nI s) (nI k) = some (nI s') := by
  have hn := ho.1
  have h2 := ho.2.1
  have r4 : y.1 4 = f 2 := hr.2.2.1
  intro d
  induction d with
  | zero =>
    intro k s hk hs hb fu1 fu5 h1 h5
    obtain ⟨fu1, rfl⟩ : ∃ x, fu1 = x + 1 := ⟨fu1 - 1, by omega⟩
    obtain ⟨fu5, rfl⟩ : ∃ x, fu5 = x + 1 := ⟨fu5 - 1, by omega⟩
    have hk' : k = n := by omega
    subst hk'
    rw [fd_X1_openBits_L4, fd_X5_openOf_L4, pu_c2, r4, h2, if_pos pu_le, if_pos pu_le]
    exact ⟨s, hs, hb, rfl, rfl⟩
  | succ d ih =>
    intro k s hk hs hb fu1 fu5 h1 h5
    obtain ⟨fu1, rfl⟩ : ∃ x, fu1 = x + 1 := ⟨fu1 - 1, by omega⟩
    obtain ⟨fu5, rfl⟩ : ∃ x, fu5 = x + 1 := ⟨fu5 - 1, by omega⟩
    have hlt : ¬ nI n ≤ nI k := pu_nle (by omega) (by omega)
    have hpw := pu_pw (show k ≤ 7 by omega)
    have hp2 : 2 ^ (k + 1) = 2 * 2 ^ k := by rw [Nat.pow_succ]; omega
    rw [fd_X1_openBits_L4, fd_X5_openOf_L4, pu_c2, r4, h2, if_neg hlt, if_neg hlt, pu_35, pu_ck k 7 _ (by omega) (by omega), pu_ck (35 + k) 42 _ (by omega) (by omega), pu_cl (by omega), pu_cl (by omega), (hr.2.2.2.2.2.2.2 k (by omega)).2.2.2.2]
    simp only [pu_lt, nI_1, Int32.or_zero]
    by_cases h0 : f (35 + k) = 0
    · rw [if_pos h0, if_pos h0, pu_or k (by omega) s (by omega) hs]
      refine ih (k + 1) (s + 2 ^ k) (by omega) (by omega) (fun j hj => ?_) fu1 fu5 (by omega) (by omega)
      rw [pu_tb k (by omega) s (by omega) hs j (by omega)]
      by_cases hjk : j = k
      · subst hjk; rw [if_pos rfl]; exact ⟨fun _ => h0, fun _ => rfl⟩
      · rw [if_neg hjk]; exact hb j (by omega)
    · rw [if_neg h0, if_neg h0]
      refine ih (k + 1) s (by omega) (by omega) (fun j hj => ?_) fu1 fu5 (by omega) (by omega)
      by_cases hjk : j = k
      · subst hjk; rw [pu_tb0 j (by omega) s (by omega) hs]; exact ⟨fun q => (by cases q), fun q => absurd q h0⟩
      · exact hb j (by omega)
theorem pu_open {y : ob_B} {f : Nat → Int32} {n : Nat} (ho : pu_ok f n) (hr : pu_rr y f n) : ∃ s, s < 2 ^ n ∧ (∀ j, j < n → (Nat.testBit s j = true ↔ f (35 + j) = 0)) ∧ fd_X1_openBits y = some (nI s) ∧ fd_X5_openOf f = some (nI s) := by
  have hn := ho.1
  exact pu_openss ho hr n 0 0 (by omega) (by decide) (fun j hj => absurd hj (by omega)) 2000 2000 (by omega) (by omega)
theorem pu_buts {x y : ob_B} {n : Nat} (s : Int32) (N : Int32) : ∀ (d k : Nat) (t m : ob_B), k + d = n → m.2 12 2 = nI n → pu_ok (m.2 14) n → pu_rr t (m.2 14) n → ∀ fu1 fu5, d < fu1 → d < fu5 →
    ∃ t' m', fd_X4_placeIfBought_L13 fu1 x y t s N (nI k) = fd_X4_placeIfBought_L48 x y t' N ∧ fd_X5_beginBut_L6 fu5 m s (nI k) = some m' ∧ pu_sm m m' ∧ pu_ok (m'.2 14) n ∧ pu_rr t' (m'.2 14) n := by
  intro d
  induction d with
  | zero =>
    intro k t m hk h12 ho hr fu1 fu5 h1 h5
    obtain ⟨fu1, rfl⟩ : ∃ x, fu1 = x + 1 := ⟨fu1 - 1, by omega⟩
    obtain ⟨fu5, rfl⟩ : ∃ x, fu5 = x + 1 := ⟨fu5 - 1, by omega⟩
    have hk' : k = n := by omega
    subst hk'
    rw [fd_X4_placeIfBought_L13, fd_X5_beginBut_L6, pu_c2, h12, show t.1 4 = nI k from hr.2.2.1.trans ho.2.1, if_pos pu_le, if_pos pu_le]
    exact ⟨t, m, rfl, rfl, pu_sm_rf, ho, hr⟩
  | succ d ih =>
    intro k t m hk h12 ho hr fu1 fu5 h1 h5
    obtain ⟨fu1, rfl⟩ : ∃ x, fu1 = x + 1 := ⟨fu1 - 1, by omega⟩
    obtain ⟨fu5, rfl⟩ : ∃ x, fu5 = x + 1 := ⟨fu5 - 1, by omega⟩
    have hn := ho.1
    have hlt : ¬ nI n ≤ nI k := pu_nle (by omega) (by omega)
    have ck7 := pu_ck k 7 (γ := Int32 × ob_B)
    rw [fd_X4_placeIfBought_L13, fd_X5_beginBut_L6, pu_c2, h12, show t.1 4 = nI n from hr.2.2.1.trans ho.2.1, if_neg hlt, if_neg hlt]
    simp only [pu_lt, nI_1, pu_35]
    rw [fd_X5_has]
    rcases pu_bit (s >>> (nI k &&& 31)) with hbit | hbit
    · have h01 : ¬ ((0 : Int32) = 1) := by decide
      rw [if_pos hbit, hbit, if_neg h01, pu_b1, if_pos rfl, pu_ck (35 + k) 42 _ (by omega) (by omega), pu_ck (35 + k) 42 _ (by omega) (by omega), pu_cl (by omega), pu_usf]
      obtain ⟨t', m', g1, g2, g3, g4, g5⟩ := ih (k + 1) t (ob_A m 14 (m.2 14)) (by omega) h12 ho hr fu1 fu5 (by omega) (by omega)
      exact ⟨t', m', g1, g2, pu_sm_tr (pu_sm14 m _) g3, g4, g5⟩
    · rw [hbit, if_neg pu_10, if_pos rfl, pu_b1, if_neg pu_10, pu_ck k 7 _ (by omega) (by omega), pu_ck (35 + k) 42 _ (by omega) (by omega), pu_cl (by omega), pu_cl (by omega)]
      obtain ⟨t', m', g1, g2, g3, g4, g5⟩ := ih (k + 1) (ob_A t 11 (upd (t.2 11) k 3)) (ob_A m 14 (upd (m.2 14) (35 + k) 3)) (by omega) h12 (pu_okc ho (by omega) (by omega) (fun j hj => by omega)) (pu_rrA hr hn 11 35 (by omega) (by omega) 3) fu1 fu5 (by omega) (by omega)
      exact ⟨t', m', g1, g2, pu_sm_tr (pu_sm14 m _) g3, g4, g5⟩
/-- where it is behind N hours, if those of a set are bought off -/
theorem pu_but {m y x t : ob_B} {n N : Nat} (ho : pu_ok (m.2 12) n) (hr : pu_rr y (m.2 12) n) (hN : N ≤ 60) (s : Int32) : ∃ r t' m1 m', fd_X4_placeIfBought x y t s (nI N) = some (r, t') ∧ fd_X5_beginBut m s = some m1 ∧ fd_X5_goOn m1 (nI N) = some (r, m') ∧ pu_sm m m' := by
  have hn := ho.1
  obtain ⟨t1, b1, b2⟩ := pu_become t y
  obtain ⟨m1, c1, c2, c3, c4, c5⟩ := pu_begin ho
  have h12 : m1.2 12 2 = nI n := by rw [c2.2 12 (by decide) (by decide) (by decide) (by decide)]; exact ho.2.1
  obtain ⟨t2, m2, g1, g2, g3, g4, g5⟩ := pu_buts (x := x) (y := y) s (nI N) n 0 t1 m1 (by omega) h12 c4 (c5 _ (b2 _ _ hn hr)) 2000 2000 (by omega) (by omega)
  obtain ⟨t3, m3, k1, k2, k3, k4, k5, k6⟩ := pu_go hN g4 g5
  refine ⟨m3.2 14 0, t3, m2, m3, ?_, ?_, k2, pu_sm_tr (pu_sm_tr c2 g3) k3⟩
  · rw [fd_X4_placeIfBought, b1, pu_b1]
    show fd_X4_placeIfBought_L13 2000 x y t1 s (nI N) (nI 0) = _
    rw [g1, fd_X4_placeIfBought_L48, k1, pu_b1, show t3.1 0 = m3.2 14 0 from k5.1]
  · rw [fd_X5_beginBut, c1, pu_b1]
    exact g2
