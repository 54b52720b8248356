/-- what a deed leaves: the route and the history of the reference are others -/
def pu_kd (m m' : ob_B) : Prop := (∀ s, s ≠ 18 → m'.1 s = m.1 s) ∧ ∀ s, s ≠ 12 → s ≠ 17 → m'.2 s = m.2 s
theorem pu_kd_rf {m : ob_B} : pu_kd m m := ⟨fun _ _ => rfl, fun _ _ _ => rfl⟩
theorem pu_hs12 {h : ob_H} {m : ob_B} {g : Nat → Int32} (hh : pu_hs h m) : pu_hs h (ob_A m 12 g) := hh
theorem pu_kd12 {m m' : ob_B} {g : Nat → Int32} (h1 : ∀ s, s ≠ 18 → m'.1 s = m.1 s) (h2 : ∀ s, s ≠ 17 → m'.2 s = m.2 s) : pu_kd m (ob_A m' 12 g) := ⟨h1, fun s h12 h17 => (pu_UN _ _ h12).trans (h2 s h17)⟩
theorem pu_hourss {x : ob_B} {n N : Nat} (hN : N ≤ 24) : ∀ (d k : Nat) (y m : ob_B) (h : ob_H), k + d = N → pu_ok (m.2 12) n → pu_rr y (m.2 12) n → pu_hs h m → ∀ fu1 fu5, d < fu1 → d < fu5 →
    ∃ r y' h' m', fd_X4_hours_L44 fu1 x y h (nI N) (nI k) = some (r, y', h') ∧ fd_X5_hours_L42 fu5 m (nI N) (nI k) = some (r, m') ∧ pu_ok (m'.2 12) n ∧ pu_rr y' (m'.2 12) n ∧ pu_hs h' m' ∧ pu_kd m m' := by
  intro d
  induction d with
  | zero =>
    intro k y m h hk ho hr hh fu1 fu5 h1 h5
    obtain ⟨fu1, rfl⟩ : ∃ x, fu1 = x + 1 := ⟨fu1 - 1, by omega⟩
    obtain ⟨fu5, rfl⟩ : ∃ x, fu5 = x + 1 := ⟨fu5 - 1, by omega⟩
    have hk' : k = N := by omega
    subst hk'
    rw [fd_X4_hours_L44, fd_X5_hours_L42, if_pos pu_le, if_pos pu_le, fd_X5_hours_L65, pu_c0, hr.1]
    exact ⟨_, _, _, _, rfl, rfl, ho, hr, hh, pu_kd_rf⟩
  | succ d ih =>
    intro k y m h hk ho hr hh fu1 fu5 h1 h5
    obtain ⟨fu1, rfl⟩ : ∃ x, fu1 = x + 1 := ⟨fu1 - 1, by omega⟩
    obtain ⟨fu5, rfl⟩ : ∃ x, fu5 = x + 1 := ⟨fu5 - 1, by omega⟩
    have hlt : ¬ nI N ≤ nI k := pu_nle (by omega) (by omega)
    obtain ⟨h', m1, e1, e2, e3, e4, e5⟩ := pu_rem ho hr hh
    have q12 : m1.2 12 = m.2 12 := e5 12 (by decide)
    obtain ⟨e, b1, f1, p1, p5, p3, p4, p6⟩ := pu_pass ho hr
    obtain ⟨r, y', h2, m', g1, g2, g3, g4, g5, g6⟩ := ih (k + 1) b1 (ob_A m1 12 f1) h' (by omega) p4 p3 (pu_hs12 e3) fu1 fu5 (by omega) (by omega)
    refine ⟨r, y', h2, m', ?_, ?_, g3, g4, g5, ⟨fun s hs => (g6.1 s hs).trans (e4 s hs), fun s h12 h17 => (g6.2 s h12 h17).trans ((pu_UN _ _ h12).trans (e5 s h17))⟩⟩
    · rw [fd_X4_hours_L44, if_neg hlt, e1, pu_b1, p1, pu_b2, pu_lt, nI_1]
      exact g1
    · rw [fd_X5_hours_L42, if_neg hlt, e2, pu_b1, q12, p5, pu_b2, pu_lt, pu_lt, nI_1]
      exact g2
