/-- it stays in each of the next ten hours -/
def pu_st (f : Nat → Int32) (h : Nat) : Prop := ∀ i, 1 ≤ i → i ≤ 10 → pu_q f (h + i) 0 = pu_q f h 0
theorem pu_rest5i {f : Nat → Int32} {b : ob_B} (K : ob_B → Int32 → Option (Int32 × ob_B)) (hp : ∀ h, h < 71 → b.2 22 h = pu_q f h 0) {h : Nat} (hh : h ≤ 60) : ∀ (d k : Nat) (z : Int32), k + d = 11 → 1 ≤ k → (z = 0 ∨ z = 1) → ∀ fu, d < fu →
    ∃ z', fd_X5_rest_L26 K fu b (nI h) z (nI k) = fd_X5_rest_L65 K b (nI h) z' ∧ ((z' = 0 ∧ ¬ (z = 1 ∧ ∀ i, k ≤ i → i ≤ 10 → pu_q f (h + i) 0 = pu_q f h 0)) ∨ (z' = 1 ∧ z = 1 ∧ ∀ i, k ≤ i → i ≤ 10 → pu_q f (h + i) 0 = pu_q f h 0)) := by
  intro d
  induction d with
  | zero =>
    intro k z hk hk1 hz fu h1
    obtain ⟨fu, rfl⟩ : ∃ x, fu = x + 1 := ⟨fu - 1, by omega⟩
    have hk' : k = 11 := by omega
    subst hk'
    rw [fd_X5_rest_L26, if_pos (by decide)]
    refine ⟨z, rfl, ?_⟩
    rcases hz with rfl | rfl
    · exact Or.inl ⟨rfl, fun q => absurd q.1 (by decide)⟩
    · exact Or.inr ⟨rfl, rfl, fun i h1 h2 => absurd h1 (by omega)⟩
  | succ d ih =>
    intro k z hk hk1 hz fu h1
    obtain ⟨fu, rfl⟩ : ∃ x, fu = x + 1 := ⟨fu - 1, by omega⟩
    have hlt : ¬ (10 : Int32) < nI k := nI_nlt (a := 10) (b := k) (by omega) (by omega)
    rw [fd_X5_rest_L26, if_neg hlt]
    simp only [pu_lt, nI_1, nI_add]
    rcases hz with rfl | rfl
    · rw [if_pos rfl]
      obtain ⟨z', g1, g2⟩ := ih (k + 1) 0 (by omega) (by omega) (Or.inl rfl) fu (by omega)
      refine ⟨z', g1, ?_⟩
      rcases g2 with ⟨g2, -⟩ | ⟨-, g2, -⟩
      · exact Or.inl ⟨g2, fun q => absurd q.1 (by decide)⟩
      · exact absurd g2 (by decide)
    · rw [if_neg pu_10, pu_ck (h + k) 71 _ (by omega) (by omega), pu_ck h 71 _ (by omega) (by omega), pu_cl (by omega), pu_cl (by omega), hp (h + k) (by omega), hp h (by omega)]
      by_cases he : pu_q f (h + k) 0 = pu_q f h 0
      · rw [if_pos he]
        obtain ⟨z', g1, g2⟩ := ih (k + 1) 1 (by omega) (by omega) (Or.inr rfl) fu (by omega)
        refine ⟨z', g1, ?_⟩
        rcases g2 with ⟨g2, g3⟩ | ⟨g2, g3, g4⟩
        · exact Or.inl ⟨g2, fun q => g3 ⟨rfl, fun i i1 i2 => q.2 i (by omega) i2⟩⟩
        · refine Or.inr ⟨g2, rfl, fun i i1 i2 => ?_⟩
          by_cases hi : i = k
          · subst hi; exact he
          · exact g4 i (by omega) i2
      · rw [if_neg he]
        obtain ⟨z', g1, g2⟩ := ih (k + 1) 0 (by omega) (by omega) (Or.inl rfl) fu (by omega)
        refine ⟨z', g1, ?_⟩
        rcases g2 with ⟨g2, -⟩ | ⟨-, g2, -⟩
        · exact Or.inl ⟨g2, fun q => he (q.2 k (by omega) (by omega))⟩
        · exact absurd g2 (by decide)
theorem pu_rest5s {f : Nat → Int32} {b : ob_B} (hp : ∀ h, h < 71 → b.2 22 h = pu_q f h 0) {h : Nat} (hh : h ≤ 60) (fu : Nat) : (pu_st f h ∧ fd_X5_rest_L16 (fu + 1) b (nI h) = some (nI h, b)) ∨ (¬ pu_st f h ∧ fd_X5_rest_L16 (fu + 1) b (nI h) = fd_X5_rest_L16 fu b (nI (h + 1))) := by
  have hlt : ¬ (60 : Int32) < nI h := nI_nlt (a := 60) (b := h) (by omega) (by omega)
  obtain ⟨z', g1, g2⟩ := pu_rest5i (fd_X5_rest_L16 fu) hp hh 10 1 1 (by omega) (by omega) (Or.inr rfl) 2000 (by omega)
  have e : fd_X5_rest_L16 (fu + 1) b (nI h) = fd_X5_rest_L65 (fd_X5_rest_L16 fu) b (nI h) z' := by
    rw [fd_X5_rest_L16, if_neg hlt]
    exact g1
  rw [e]
  unfold fd_X5_rest_L65
  rcases g2 with ⟨g2, g3⟩ | ⟨g2, -, g3⟩
  · refine Or.inr ⟨fun q => g3 ⟨rfl, q⟩, ?_⟩
    rw [if_pos g2, pu_lt, nI_1]
  · refine Or.inl ⟨g3, ?_⟩
    rw [g2, if_neg pu_10]
theorem pu_rest5 {f : Nat → Int32} {b : ob_B} (hp : ∀ h, h < 71 → b.2 22 h = pu_q f h 0) : (∀ s, s ≤ 60 → pu_st f s → (∀ h, h < s → ¬ pu_st f h) → fd_X5_rest_L16 2000 b 0 = some (nI s, b)) ∧ ((∀ h, h ≤ 60 → ¬ pu_st f h) → fd_X5_rest_L16 2000 b 0 = some (-1000000, b)) := by
  have skip : ∀ k, k ≤ 61 → (∀ h, h < k → ¬ pu_st f h) → fd_X5_rest_L16 2000 b 0 = fd_X5_rest_L16 (2000 - k) b (nI k) := by
    intro k
    induction k with
    | zero => intro _ _; rfl
    | succ k ih =>
      intro hk hn
      rw [ih (by omega) (fun h hh => hn h (by omega))]
      rcases pu_rest5s hp (show k ≤ 60 by omega) (2000 - (k + 1)) with ⟨q, -⟩ | ⟨-, q⟩
      · exact absurd q (hn k (by omega))
      · rw [show 2000 - k = 2000 - (k + 1) + 1 by omega]; exact q
  constructor
  · intro s hs hq hn
    rw [skip s (by omega) hn]
    rcases pu_rest5s hp hs (2000 - (s + 1)) with ⟨-, q⟩ | ⟨q, -⟩
    · rw [show 2000 - s = 2000 - (s + 1) + 1 by omega]; exact q
    · exact absurd hq q
  · intro hn
    rw [skip 61 (by omega) (fun h hh => hn h (by omega))]
    show fd_X5_rest_L16 (1938 + 1) b (nI 61) = _
    rw [fd_X5_rest_L16, if_pos (by decide)]
theorem pu_rest4 {x y : ob_B} {f : Nat → Int32} {n : Nat} : ∀ (d h s : Nat) (t : ob_B), h + d = 71 → 1 ≤ h → s < h → h ≤ s + 10 → pu_ok (pu_q f (h - 1)) n → pu_rr t (pu_q f (h - 1)) n → (∀ i, s ≤ i → i < h → pu_q f i 0 = pu_q f s 0) → (∀ h', h' < s → ¬ pu_st f h') → ∀ fu, d < fu →
    (∃ s' t', s' ≤ 60 ∧ pu_st f s' ∧ (∀ h', h' < s' → ¬ pu_st f h') ∧ fd_X4_rest_L25 fu x y t (nI s) (nI h) = some (nI s', t')) ∨ (∃ t', (∀ h', h' ≤ 60 → ¬ pu_st f h') ∧ fd_X4_rest_L25 fu x y t (nI s) (nI h) = some (-1000000, t')) := by
  intro d
  induction d with
  | zero =>
    intro h s t hk h1 hs hs10 ho hr hc hno fu hfu
    obtain ⟨fu, rfl⟩ : ∃ x, fu = x + 1 := ⟨fu - 1, by omega⟩
    have hk' : h = 71 := by omega
    subst hk'
    rw [fd_X4_rest_L25, if_pos (by decide)]
    exact Or.inr ⟨t, fun h' hh => hno h' (by omega), rfl⟩
  | succ d ih =>
    intro h s t hk h1 hs hs10 ho hr hc hno fu hfu
    obtain ⟨fu, rfl⟩ : ∃ x, fu = x + 1 := ⟨fu - 1, by omega⟩
    have hlt : ¬ (70 : Int32) < nI h := nI_nlt (a := 70) (b := h) (by omega) (by omega)
    obtain ⟨e, t1, p1, p5, p3, p4, p6⟩ := pu_step ho hr
    have hq : pu_P (pu_q f (h - 1)) = pu_q f h := by
      obtain ⟨g, rfl⟩ : ∃ g, h = g + 1 := ⟨h - 1, by omega⟩
      rfl
    rw [hq] at p3 p4
    have h0 : t1.1 0 = pu_q f h 0 := p3.1
    have h9 : t.1 0 = pu_q f s 0 := (show t.1 0 = pu_q f (h - 1) 0 from hr.1).trans (hc (h - 1) (by omega) (by omega))
    rw [fd_X4_rest_L25, if_neg hlt, pu_lt, p1, pu_b2, h0, h9]
    unfold fd_X4_rest_L60
    by_cases he : pu_q f h 0 = pu_q f s 0
    · rw [if_pos he, pk_sub (by omega)]
      by_cases h10 : h - s = 10
      · rw [if_pos (by rw [h10]; rfl)]
        refine Or.inl ⟨s, t1, by omega, fun i i1 i2 => ?_, hno, rfl⟩
        by_cases hi : i = 10
        · subst hi; rw [show s + 10 = h by omega]; exact he
        · exact hc (s + i) (by omega) (by omega)
      · rw [if_neg (show ¬ nI (h - s) = 10 from fun q => h10 ((nI_eq (a := h - s) (b := 10) (by omega) (by omega)).mp q)), pu_lt, nI_1]
        exact ih (h + 1) s t1 (by omega) (by omega) (by omega) (by omega) p4 p3 (fun i i1 i2 => by
          by_cases hi : i = h
          · subst hi; exact he
          · exact hc i i1 (by omega)) hno fu (by omega)
    · rw [if_neg he, pk_sub (by omega), Nat.sub_self, if_neg (show ¬ nI 0 = 10 by decide), pu_lt, nI_1]
      exact ih (h + 1) h t1 (by omega) (by omega) (by omega) (by omega) p4 p3 (fun i i1 i2 => by rw [show i = h by omega]) (fun h' hh => by
        by_cases hs' : h' < s
        · exact hno h' hs'
        · intro q
          have := q (h - h') (by omega) (by omega)
          rw [show h' + (h - h') = h by omega, hc h' (by omega) hh] at this
          exact he this) fu (by omega)
theorem pu_rest {m y x t : ob_B} {n : Nat} (ho : pu_ok (m.2 12) n) (hr : pu_rr y (m.2 12) n) : ∃ r t' m', fd_X4_rest x y t = some (r, t') ∧ fd_X5_rest m = some (r, m') ∧ pu_sm m m' := by
  unfold fd_X4_rest fd_X5_rest
  rcases pu_nor (x := x) ho hr with ⟨-, h1, h5⟩ | ⟨-, h1, h5⟩
  · rw [h1, h5, pu_b1, pu_b1, if_neg pu_10, if_pos rfl]
    exact ⟨_, _, _, rfl, rfl, pu_sm_rf⟩
  · obtain ⟨f, t1, m1, c1, c2, c3, c4, c5, c6⟩ := pu_lp (t := t) ho hr
    rw [h1, h5, pu_b1, pu_b1, if_pos rfl, if_neg pu_10, c1, c2, pu_b1, pu_b1]
    obtain ⟨q1, q2⟩ := pu_rest5 c6
    rcases pu_rest4 (x := x) (y := y) (f := f) (n := n) 70 1 0 t1 (by omega) (by omega) (by omega) (by omega) c4 c5 (fun i i1 i2 => by rw [show i = 0 by omega]) (fun h' hh => absurd hh (by omega)) 2000 (by omega) with ⟨s', t', k1, k2, k3, k4⟩ | ⟨t', k1, k2⟩
    · exact ⟨nI s', t', m1, k4, q1 s' k1 k2 k3, c3⟩
    · exact ⟨-1000000, t', m1, k2, q2 k1, c3⟩
