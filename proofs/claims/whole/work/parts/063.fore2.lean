/-- the reference's ints an hour on, k hours on -/
def pu_P (f : Nat → Int32) : Nat → Int32 := match fd_X5_pass f with
  | some x => x.2
  | none => f
def pu_q (f : Nat → Int32) : Nat → Nat → Int32
  | 0 => f
  | k + 1 => pu_P (pu_q f k)
theorem pu_step {b : ob_B} {f : Nat → Int32} {n : Nat} (ho : pu_ok f n) (hr : pu_rr b f n) : ∃ e b', fd_X1_passHour b = some (e, b') ∧ fd_X5_pass f = some (e, pu_P f) ∧ pu_rr b' (pu_P f) n ∧ pu_ok (pu_P f) n ∧ pu_P f 1 = f 1 := by
  obtain ⟨e, b', f', p1, p5, p3, p4, p6⟩ := pu_pass ho hr
  have hP : pu_P f = f' := by unfold pu_P; rw [p5]
  rw [hP]
  exact ⟨e, b', p1, p5, p3, p4, p6⟩
theorem pu_isPlace (x : Int32) : fd_X4_isPlace x = some 0 ∧ fd_X5_in x 0 9 = some 0 ∨ (∃ p, p < 10 ∧ x = nI p ∧ fd_X4_isPlace x = some 1 ∧ fd_X5_in x 0 9 = some 1) := by
  have z0 : ¬ ¬ ((0 : Int32) &&& 1 = 0) := by decide
  have z1 : ¬ ¬ ((1 : Int32) &&& 1 = 1) := by decide
  unfold fd_X4_isPlace
  rw [pu_within]
  rcases pu_in x 0 9 with g | ⟨g, g1, g2⟩
  · rw [g, pu_b1, if_neg z0]
    exact Or.inl ⟨rfl, rfl⟩
  · obtain ⟨p, -, hp, rfl⟩ := pu_rng (lo := 0) (hi := 9) (by omega) (by omega) g1 g2
    rw [g, pu_b1, if_neg z1]
    exact Or.inr ⟨p, by omega, rfl, rfl, rfl⟩
theorem pu_lps {f : Nat → Int32} {n : Nat} {b0 : ob_B} : ∀ (d k : Nat) (b m : ob_B), k + d = 71 → m.2 14 = pu_q f k → pu_ok (m.2 14) n → pu_rr b (m.2 14) n → (∀ h, h < k → m.2 22 h = pu_q f h 0) → ∀ fu, d < fu →
    ∃ m', fd_X5_layPlaces_L6 fu m (nI k) = some m' ∧ pu_sm m m' ∧ ∀ h, h < 71 → m'.2 22 h = pu_q f h 0 := by
  intro d
  induction d with
  | zero =>
    intro k b m hk hf ho hr hp fu h1
    obtain ⟨fu, rfl⟩ : ∃ x, fu = x + 1 := ⟨fu - 1, by omega⟩
    have hk' : k = 71 := by omega
    subst hk'
    rw [fd_X5_layPlaces_L6, if_pos (by decide)]
    exact ⟨m, rfl, pu_sm_rf, hp⟩
  | succ d ih =>
    intro k b m hk hf ho hr hp fu h1
    obtain ⟨fu, rfl⟩ : ∃ x, fu = x + 1 := ⟨fu - 1, by omega⟩
    have hlt : ¬ (71 : Int32) ≤ nI k := pu_nle (n := 71) (by omega) (by omega)
    obtain ⟨e, b1, p1, p5, p3, p4, p6⟩ := pu_step ho hr
    rw [fd_X5_layPlaces_L6, if_neg hlt, pu_lt, pu_ck k 71 _ (by omega) (by omega), pu_lt, pu_c0, pu_cl (by omega)]
    show ∃ m', ob_b2 (fd_X5_pass (m.2 14)) _ = some m' ∧ _
    rw [p5, pu_b2, pu_lt, pu_lt, nI_1]
    obtain ⟨m', g1, g2, g3⟩ := ih (k + 1) b1 (ob_A (ob_A m 22 (upd (m.2 22) k (m.2 14 0))) 14 (pu_P (m.2 14))) (by omega) (by show pu_P (m.2 14) = pu_P (pu_q f k); rw [hf]) p4 p3 (fun h hh => by
      show upd (m.2 22) k (m.2 14 0) h = pu_q f h 0
      by_cases hk2 : h = k
      · subst hk2; rw [pu_us, hf]
      · rw [pu_un _ _ hk2]; exact hp h (by omega)) fu (by omega)
    exact ⟨m', g1, pu_sm_tr (pu_sm_tr (pu_sm22 m _) (pu_sm14 _ _)) g2, g3⟩
/-- the places of 71 hours, and the trial at its start -/
theorem pu_lp {m y t : ob_B} {n : Nat} (ho : pu_ok (m.2 12) n) (hr : pu_rr y (m.2 12) n) : ∃ f t' m', fd_X1_become t y = some t' ∧ fd_X5_layPlaces m = some m' ∧ pu_sm m m' ∧ pu_ok f n ∧ pu_rr t' f n ∧ ∀ h, h < 71 → m'.2 22 h = pu_q f h 0 := by
  obtain ⟨t1, b1, b2⟩ := pu_become t y
  obtain ⟨m1, c1, c2, c3, c4, c5⟩ := pu_begin ho
  have r1 := c5 _ (b2 _ _ ho.1 hr)
  obtain ⟨m', g1, g2, g3⟩ := pu_lps (f := m1.2 14) (b0 := t1) 71 0 t1 m1 (by omega) rfl c4 r1 (fun h hh => absurd hh (by omega)) 2000 (by omega)
  exact ⟨m1.2 14, t1, m', b1, by rw [fd_X5_layPlaces, c1, pu_b1]; exact g1, pu_sm_tr c2 g2, c4, r1, g3⟩
theorem pu_pasts {x y m : ob_B} {f : Nat → Int32} {n : Nat} (a : Int32) (hp : ∀ h, h < 71 → m.2 22 h = pu_q f h 0) : ∀ (d k : Nat) (t : ob_B), k + d = 61 → pu_ok (pu_q f k) n → pu_rr t (pu_q f k) n → ∀ fu1 fu5, d < fu1 → d < fu5 →
    ∃ r t', fd_X4_past_L33 fu1 x y t a (nI k) = some (r, t') ∧ fd_X5_past_L29 fu5 m a (nI k) = some (r, m) := by
  intro d
  induction d with
  | zero =>
    intro k t hk ho hr fu1 fu5 h1 h5
    obtain ⟨fu1, rfl⟩ : ∃ x, fu1 = x + 1 := ⟨fu1 - 1, by omega⟩
    obtain ⟨fu5, rfl⟩ : ∃ x, fu5 = x + 1 := ⟨fu5 - 1, by omega⟩
    have hk' : k = 61 := by omega
    subst hk'
    rw [fd_X4_past_L33, fd_X5_past_L29, if_pos (by decide), if_pos (by decide)]
    exact ⟨_, _, rfl, rfl⟩
  | succ d ih =>
    intro k t hk ho hr fu1 fu5 h1 h5
    obtain ⟨fu1, rfl⟩ : ∃ x, fu1 = x + 1 := ⟨fu1 - 1, by omega⟩
    obtain ⟨fu5, rfl⟩ : ∃ x, fu5 = x + 1 := ⟨fu5 - 1, by omega⟩
    have hlt : ¬ (60 : Int32) < nI k := nI_nlt (a := 60) (b := k) (by omega) (by omega)
    rw [fd_X4_past_L33, fd_X5_past_L29, if_neg hlt, if_neg hlt, pu_ck k 71 _ (by omega) (by omega), pu_cl (by omega), hp k (by omega), show t.1 0 = pu_q f k 0 from hr.1]
    by_cases h0 : pu_q f k 0 = a
    · rw [if_pos h0, if_pos h0]
      exact ⟨_, _, rfl, rfl⟩
    · obtain ⟨e, b1, p1, p5, p3, p4, p6⟩ := pu_step ho hr
      rw [if_neg h0, if_neg h0, p1, pu_b2, pu_lt, pu_lt, nI_1]
      exact ih (k + 1) b1 (by omega) p4 p3 fu1 fu5 (by omega) (by omega)
theorem pu_past {m y x t : ob_B} {n : Nat} (ho : pu_ok (m.2 12) n) (hr : pu_rr y (m.2 12) n) (a : Int32) : ∃ r t' m', fd_X4_past x y t a = some (r, t') ∧ fd_X5_past m a = some (r, m') ∧ pu_sm m m' := by
  unfold fd_X4_past fd_X5_past
  rcases pu_nor (x := x) ho hr with ⟨-, h1, h5⟩ | ⟨-, h1, h5⟩
  · rw [h1, h5, pu_b1, pu_b1, if_neg pu_10, if_pos rfl]
    exact ⟨_, _, _, rfl, rfl, pu_sm_rf⟩
  · rw [h1, h5, pu_b1, pu_b1, if_pos rfl, if_neg pu_10]
    rcases pu_isPlace a with ⟨g1, g5⟩ | ⟨p, hp, rfl, g1, g5⟩
    · rw [g1, g5, pu_b1, pu_b1, if_pos rfl, if_pos rfl]
      exact ⟨_, _, _, rfl, rfl, pu_sm_rf⟩
    · obtain ⟨f, t1, m1, c1, c2, c3, c4, c5, c6⟩ := pu_lp (t := t) ho hr
      rw [g1, g5, pu_b1, pu_b1, if_neg pu_10, if_neg pu_10, c1, c2, pu_b1, pu_b1]
      obtain ⟨r, t', k1, k2⟩ := pu_pasts (x := x) (y := y) (nI p) c6 61 0 t1 (by omega) c4 c5 2000 2000 (by omega) (by omega)
      exact ⟨r, t', m1, k1, k2, c3⟩
theorem pu_visitss {x y m : ob_B} {f : Nat → Int32} {n N : Nat} (hN : N ≤ 60) (hp : ∀ h, h < 71 → m.2 22 h = pu_q f h 0) : ∀ (d k : Nat) (t : ob_B) (z : Int32), k + d = N → pu_ok (pu_q f k) n → pu_rr t (pu_q f k) n → ∀ fu1 fu5, d < fu1 → d < fu5 →
    ∃ r t', fd_X4_visits_L46 fu1 x y t (nI N) z (nI k) = some (r, t') ∧ fd_X5_visits_L31 fu5 m (nI N) z (nI (k + 1)) = some (r, m) := by
  intro d
  induction d with
  | zero =>
    intro k t z hk ho hr fu1 fu5 h1 h5
    obtain ⟨fu1, rfl⟩ : ∃ x, fu1 = x + 1 := ⟨fu1 - 1, by omega⟩
    obtain ⟨fu5, rfl⟩ : ∃ x, fu5 = x + 1 := ⟨fu5 - 1, by omega⟩
    have hk' : k = N := by omega
    subst hk'
    rw [fd_X4_visits_L46, fd_X5_visits_L31, if_pos pu_le, if_pos (nI_lt (by omega) (by omega))]
    exact ⟨_, _, rfl, rfl⟩
  | succ d ih =>
    intro k t z hk ho hr fu1 fu5 h1 h5
    obtain ⟨fu1, rfl⟩ : ∃ x, fu1 = x + 1 := ⟨fu1 - 1, by omega⟩
    obtain ⟨fu5, rfl⟩ : ∃ x, fu5 = x + 1 := ⟨fu5 - 1, by omega⟩
    obtain ⟨e, b1, p1, p5, p3, p4, p6⟩ := pu_step ho hr
    rw [fd_X4_visits_L46, fd_X5_visits_L31, if_neg (pu_nle (by omega) (by omega)), if_neg (nI_nlt (by omega) (by omega)), pu_ck (k + 1) 71 _ (by omega) (by omega), pu_cl (by omega), hp (k + 1) (by omega), p1, pu_b2, pu_lt, pu_lt, pu_lt, pu_lt, nI_1, nI_1, show b1.1 0 = pu_q f (k + 1) 0 from p3.1]
    exact ih (k + 1) b1 _ (by omega) p4 p3 fu1 fu5 (by omega) (by omega)
theorem pu_visits {m y x t : ob_B} {n : Nat} (ho : pu_ok (m.2 12) n) (hr : pu_rr y (m.2 12) n) (a : Int32) : ∃ r t' m', fd_X4_visits x y t a = some (r, t') ∧ fd_X5_visits m a = some (r, m') ∧ pu_sm m m' := by
  unfold fd_X4_visits fd_X5_visits
  rw [pu_within]
  rcases pu_nor (x := x) ho hr with ⟨-, h1, h5⟩ | ⟨-, h1, h5⟩
  · rw [h1, h5, pu_b1, pu_b1, if_neg pu_10, if_pos rfl]
    exact ⟨_, _, _, rfl, rfl, pu_sm_rf⟩
  · rw [h1, h5, pu_b1, pu_b1, if_pos rfl, if_neg pu_10]
    rcases pu_in a 0 60 with g | ⟨g, g1, g2⟩
    · rw [g, pu_b1, pu_b1, if_pos rfl, if_pos rfl]
      exact ⟨_, _, _, rfl, rfl, pu_sm_rf⟩
    · obtain ⟨N, -, hN, rfl⟩ := pu_rng (lo := 0) (hi := 60) (by omega) (by omega) g1 g2
      obtain ⟨f, t1, m1, c1, c2, c3, c4, c5, c6⟩ := pu_lp (t := t) ho hr
      rw [g, pu_b1, pu_b1, if_neg pu_10, if_neg pu_10, c1, c2, pu_b1, pu_b1, pu_lt]
      obtain ⟨r, t', k1, k2⟩ := pu_visitss (x := x) (y := y) hN c6 N 0 t1 (1 <<< (t1.1 0 &&& 31)) (by omega) c4 c5 2000 1999 (by omega) (by omega)
      refine ⟨r, t', m1, k1, ?_, c3⟩
      show fd_X5_visits_L31 (1999 + 1) m1 (nI N) 0 (nI 0) = _
      rw [fd_X5_visits_L31, if_neg (nI_nlt (by omega) (by omega)), pu_ck 0 71 _ (by omega) (by omega), pu_cl (by omega), c6 0 (by omega), pu_lt, pu_lt, nI_1]
      rw [show t1.1 0 = pu_q f 0 0 from c5.1] at k2
      rw [Int32.zero_or]
      exact k2
