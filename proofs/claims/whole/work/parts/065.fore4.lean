theorem pu_tN : ∀ k, k < 7 → ∀ j, j < 7 → Nat.testBit (2 ^ k) j = decide (j = k) := by decide +kernel
theorem pu_holdss {x y : ob_B} {n N s : Nat} {there : Int32} (hN : N ≤ 60) (hs : s < 2 ^ n) : ∀ (d k : Nat) (t m : ob_B) (z : Int32), k + d = n → pu_ok (m.2 12) n → pu_rr y (m.2 12) n → (∀ j, j < n → (Nat.testBit s j = true ↔ m.2 12 (35 + j) = 0)) → ∀ fu1 fu5, d < fu1 → d < fu5 →
    ∃ r t' m', fd_X4_holds_L44 fu1 x y t (nI N) (nI s) there z (nI k) = some (r, t') ∧ fd_X5_holds_L38 fu5 m (nI N) there z (nI k) = some (r, m') ∧ pu_sm m m' := by
  intro d
  induction d with
  | zero =>
    intro k t m z hk ho hr hb fu1 fu5 h1 h5
    obtain ⟨fu1, rfl⟩ : ∃ x, fu1 = x + 1 := ⟨fu1 - 1, by omega⟩
    obtain ⟨fu5, rfl⟩ : ∃ x, fu5 = x + 1 := ⟨fu5 - 1, by omega⟩
    have hk' : k = n := by omega
    subst hk'
    rw [fd_X4_holds_L44, fd_X5_holds_L38, pu_c2, ho.2.1, show y.1 4 = nI k from hr.2.2.1.trans ho.2.1, if_pos pu_le, if_pos pu_le]
    exact ⟨_, _, _, rfl, rfl, pu_sm_rf⟩
  | succ d ih =>
    intro k t m z hk ho hr hb fu1 fu5 h1 h5
    obtain ⟨fu1, rfl⟩ : ∃ x, fu1 = x + 1 := ⟨fu1 - 1, by omega⟩
    obtain ⟨fu5, rfl⟩ : ∃ x, fu5 = x + 1 := ⟨fu5 - 1, by omega⟩
    have hn := ho.1
    have hpw := pu_pw hn
    have hlt : ¬ nI n ≤ nI k := pu_nle (by omega) (by omega)
    rw [fd_X4_holds_L44, fd_X5_holds_L38, pu_c2, ho.2.1, show y.1 4 = nI n from hr.2.2.1.trans ho.2.1, if_neg hlt, if_neg hlt]
    simp only [pu_lt, nI_1, pu_35, Int32.or_zero]
    rw [pu_ck (35 + k) 42 _ (by omega) (by omega), pu_cl (by omega)]
    by_cases h0 : m.2 12 (35 + k) = 0
    · have ht : Nat.testBit s k = true := (hb k (by omega)).mpr h0
      have hab : ¬ (nI s &&& (1 <<< (nI k &&& 31)) = 0) := fun q => by
        have := (pu_ab s (by omega) k (by omega)).mp q
        rw [ht] at this
        cases this
      obtain ⟨r, t1, m1, m2, c1, c2, c3, c4⟩ := pu_but (x := x) (t := t) ho hr hN (1 <<< (nI k &&& 31))
      have h12 : m2.2 12 = m.2 12 := c4.2 12 (by decide) (by decide) (by decide) (by decide)
      rw [if_neg hab, if_pos h0, c1, c2, pu_b2, pu_b1, c3, pu_b2]
      have go : ∀ z', ∃ r t' m', fd_X4_holds_L44 fu1 x y t1 (nI N) (nI s) there z' (nI (k + 1)) = some (r, t') ∧ fd_X5_holds_L38 fu5 m2 (nI N) there z' (nI (k + 1)) = some (r, m') ∧ pu_sm m m' := by
        intro z'
        obtain ⟨r, t', m', g1, g2, g3⟩ := ih (k + 1) t1 m2 z' (by omega) (by rw [h12]; exact ho) (by rw [h12]; exact hr) (by rw [h12]; exact hb) fu1 fu5 (by omega) (by omega)
        exact ⟨r, t', m', g1, g2, pu_sm_tr c4 g3⟩
      by_cases h3 : r = there
      · rw [if_pos h3, if_pos h3]; exact go z
      · rw [if_neg h3, if_neg h3]; exact go _
    · have ht : Nat.testBit s k = false := by
        cases hh : Nat.testBit s k with
        | false => rfl
        | true => exact absurd ((hb k (by omega)).mp hh) h0
      rw [if_pos ((pu_ab s (by omega) k (by omega)).mpr ht), if_neg h0]
      exact ih (k + 1) t m z (by omega) ho hr hb fu1 fu5 (by omega) (by omega)
theorem pu_holds {m y x t : ob_B} {n : Nat} (ho : pu_ok (m.2 12) n) (hr : pu_rr y (m.2 12) n) (a : Int32) : ∃ r t' m', fd_X4_holds x y t a = some (r, t') ∧ fd_X5_holds m a = some (r, m') ∧ pu_sm m m' := by
  have hn := ho.1
  unfold fd_X4_holds fd_X5_holds
  rw [pu_within]
  rcases pu_nor (x := x) ho hr with ⟨-, h1, h5⟩ | ⟨-, h1, h5⟩
  · rw [h1, h5, pu_b1, pu_b1, if_neg pu_10, if_pos rfl]
    exact ⟨_, _, _, rfl, rfl, pu_sm_rf⟩
  · rw [h1, h5, pu_b1, pu_b1, if_pos rfl, if_neg pu_10]
    rcases pu_in a 1 60 with g | ⟨g, g1, g2⟩
    · rw [g, pu_b1, pu_b1, if_pos rfl, if_pos rfl]
      exact ⟨_, _, _, rfl, rfl, pu_sm_rf⟩
    · obtain ⟨N, -, hN, rfl⟩ := pu_rng (lo := 1) (hi := 60) (by omega) (by omega) g1 g2
      obtain ⟨s, s1, s2, s3, s4⟩ := pu_open ho hr
      obtain ⟨t1, b1, b2⟩ := pu_become t y
      obtain ⟨m1, c1, c2, c3, c4, c5⟩ := pu_begin ho
      obtain ⟨t2, m2, d1, d2, d3, d4, d5, d6⟩ := pu_go hN c4 (c5 _ (b2 _ _ hn hr))
      have s5 : pu_sm m m2 := pu_sm_tr c2 d3
      have h12 : m2.2 12 = m.2 12 := s5.2 12 (by decide) (by decide) (by decide) (by decide)
      -- nothing bought off: as it is
      have hz : ∀ (d k : Nat) (t : ob_B), k + d = n → t.1 4 = nI n → ∀ fu, d < fu → fd_X4_placeIfBought_L13 fu x y t 0 (nI N) (nI k) = fd_X4_placeIfBought_L48 x y t (nI N) := by
        intro d
        induction d with
        | zero =>
          intro k t hk h4 fu h1
          obtain ⟨fu, rfl⟩ : ∃ x, fu = x + 1 := ⟨fu - 1, by omega⟩
          have hk' : k = n := by omega
          subst hk'
          rw [fd_X4_placeIfBought_L13, h4, if_pos pu_le]
        | succ d ih =>
          intro k t hk h4 fu h1
          obtain ⟨fu, rfl⟩ : ∃ x, fu = x + 1 := ⟨fu - 1, by omega⟩
          have h0 : ((0 : Int32) >>> (nI k &&& 31)) &&& 1 = 0 := by
            have := pu_hb 0 (by omega) k (by omega)
            rw [Nat.zero_testBit] at this
            exact this
          rw [fd_X4_placeIfBought_L13, h4, if_neg (pu_nle (by omega) (by omega)), if_pos h0, pu_lt, nI_1]
          exact ih (k + 1) t (by omega) h4 fu (by omega)
      have hp : fd_X4_placeIfBought x y t 0 (nI N) = some (m2.2 14 0, t2) := by
        rw [fd_X4_placeIfBought, b1, pu_b1]
        have h4 : t1.1 4 = nI n := ((b2 _ _ hn hr).2.2.1).trans ho.2.1
        have := hz n 0 t1 (by omega) h4 2000 (by omega)
        show fd_X4_placeIfBought_L13 2000 x y t1 0 (nI N) (nI 0) = _
        rw [this, fd_X4_placeIfBought_L48, d1, pu_b1, show t2.1 0 = m2.2 14 0 from d5.1]
      rw [g, pu_b1, pu_b1, if_neg pu_10, if_neg pu_10, s3, pu_b1, hp, pu_b2, c1, pu_b1, d2, pu_b2]
      obtain ⟨r, t', m', k1, k2, k3⟩ := pu_holdss (x := x) (y := y) (there := m2.2 14 0) hN s1 n 0 t2 m2 0 (by omega) (by rw [h12]; exact ho) (by rw [h12]; exact hr) (by rw [h12]; exact s2) 2000 2000 (by omega) (by omega)
      exact ⟨r, t', m', k1, k2, pu_sm_tr s5 k3⟩
/-! how many of a set -/
def pu_pc (s : Nat) : Nat := s % 2 + s / 2 % 2 + s / 4 % 2 + s / 8 % 2 + s / 16 % 2 + s / 32 % 2 + s / 64 % 2
theorem pu_bc : ∀ s, s < 128 → fd_J6_bitCount_0f7a4 (nI s) = some (nI (pu_pc s)) := by decide +kernel
theorem pu_bt : ∀ s, s < 128 → fd_X5_bits (nI s) = some (nI (pu_pc s)) := by decide +kernel
theorem pu_pc7 (s : Nat) : pu_pc s ≤ 7 := by unfold pu_pc; omega
theorem pu_sub : ∀ s, s < 128 → ∀ o, o < 128 → ((nI s &&& (nI o ^^^ (-1)) = 0) ↔ (nI s &&& nI o = nI s)) := by decide +kernel
def pu_fw : Option Nat → Int32
  | none => 8
  | some s => nI (pu_pc s)
theorem pu_buyOffs {x y : ob_B} {n N p o : Nat} (hN : N ≤ 24) (hp : p < 10) (w : Int32) (ho7 : o < 128) : ∀ (d k : Nat) (t m : ob_B) (c : Option Nat), k + d = o + 1 → pu_ok (m.2 12) n → pu_rr y (m.2 12) n → (∀ s, c = some s → s < 128) → ∀ fu1 fu5, d < fu1 → d < fu5 →
    ∃ c' t' m', (∀ s, c' = some s → s < 128) ∧ fd_X4_buyOff_L57 fu1 x y t (nI p) (nI N) w (nI o) (pu_e1 c) (pu_fw c) (nI k) = fd_X4_buyOff_L113 x y t' w (pu_e1 c') (pu_fw c') ∧ fd_X5_buyOff_L57 fu5 m (nI p) (nI N) w (nI o) (pu_e5 c) (nI k) = fd_X5_buyOff_L122 m' w (pu_e5 c') ∧ pu_sm m m' := by
  intro d
  induction d with
  | zero =>
    intro k t m c hk ho hr hc fu1 fu5 h1 h5
    obtain ⟨fu1, rfl⟩ : ∃ x, fu1 = x + 1 := ⟨fu1 - 1, by omega⟩
    obtain ⟨fu5, rfl⟩ : ∃ x, fu5 = x + 1 := ⟨fu5 - 1, by omega⟩
    have hlt : nI o < nI k := nI_lt (by omega) (by omega)
    refine ⟨c, t, m, hc, ?_, ?_, pu_sm_rf⟩
    · rw [fd_X4_buyOff_L57, if_pos hlt]
    · rw [fd_X5_buyOff_L57, if_pos hlt]
  | succ d ih =>
    intro k t m c hk ho hr hc fu1 fu5 h1 h5
    obtain ⟨fu1, rfl⟩ : ∃ x, fu1 = x + 1 := ⟨fu1 - 1, by omega⟩
    obtain ⟨fu5, rfl⟩ : ∃ x, fu5 = x + 1 := ⟨fu5 - 1, by omega⟩
    have hlt : ¬ nI o < nI k := nI_nlt (by omega) (by omega)
    have hk7 : k < 128 := by omega
    rw [fd_X4_buyOff_L57, fd_X5_buyOff_L57, if_neg hlt, if_neg hlt, pu_bc k hk7, pu_b1]
    simp only [pu_lt, nI_1]
    by_cases hsub : nI k &&& nI o = nI k
    · rw [if_pos hsub, if_pos ((pu_sub k hk7 o ho7).mpr hsub)]
      obtain ⟨r, t1, m1, m2, c1, c2, c3, c4⟩ := pu_but (x := x) (t := t) ho hr (show N ≤ 60 by omega) (nI k)
      have h12 : m2.2 12 = m.2 12 := c4.2 12 (by decide) (by decide) (by decide) (by decide)
      have go : ∀ (t1 : ob_B) (c2 : Option Nat), (∀ s, c2 = some s → s < 128) → ∃ c' t' m', (∀ s, c' = some s → s < 128) ∧ fd_X4_buyOff_L57 fu1 x y t1 (nI p) (nI N) w (nI o) (pu_e1 c2) (pu_fw c2) (nI (k + 1)) = fd_X4_buyOff_L113 x y t' w (pu_e1 c') (pu_fw c') ∧ fd_X5_buyOff_L57 fu5 m2 (nI p) (nI N) w (nI o) (pu_e5 c2) (nI (k + 1)) = fd_X5_buyOff_L122 m' w (pu_e5 c') ∧ pu_sm m m' := by
        intro t1 c2 hc2
        obtain ⟨c', t', m', g0, g1, g2, g3⟩ := ih (k + 1) t1 m2 c2 (by omega) (by rw [h12]; exact ho) (by rw [h12]; exact hr) hc2 fu1 fu5 (by omega) (by omega)
        exact ⟨c', t', m', g0, g1, g2, pu_sm_tr c4 g3⟩
      rw [c2, pu_b1, c3, pu_b2, c1, pu_b2]
      cases c with
      | none =>
        have h8 : ¬ (8 : Int32) ≤ nI (pu_pc k) := pu_nle (n := 8) (by have := pu_pc7 k; omega) (by omega)
        rw [show pu_fw none = 8 from rfl, if_neg h8]
        by_cases hrp : r = nI p
        · rw [if_pos hrp, if_pos hrp, if_pos (show pu_e5 none < 0 by decide)]
          exact go t1 (some k) (fun s hs => by cases hs; exact hk7)
        · rw [if_neg hrp, if_neg hrp]
          exact go t1 none (fun s hs => by cases hs)
      | some s =>
        have hs7 := hc s rfl
        have hsp := pu_pc7 s
        have hkp := pu_pc7 k
        have hneg : ¬ pu_e5 (some s) < 0 := nI_pos (by omega)
        have hbs : fd_X5_bits (pu_e5 (some s)) = some (nI (pu_pc s)) := pu_bt s hs7
        rw [show pu_fw (some s) = nI (pu_pc s) from rfl]
        by_cases hle : pu_pc s ≤ pu_pc k
        · rw [if_pos ((nI_leI (by omega) (by omega)).mpr hle)]
          by_cases hrp : r = nI p
          · rw [if_pos hrp, if_neg hneg, pu_bt k hk7, pu_b1, hbs, pu_b1, if_pos ((nI_leI (by omega) (by omega)).mpr hle)]
            exact go t (some s) hc
          · rw [if_neg hrp]
            exact go t (some s) hc
        · have hle' : ¬ nI (pu_pc s) ≤ nI (pu_pc k) := fun q => hle ((nI_leI (by omega) (by omega)).mp q)
          rw [if_neg hle']
          by_cases hrp : r = nI p
          · rw [if_pos hrp, if_pos hrp, if_neg hneg, pu_bt k hk7, pu_b1, hbs, pu_b1, if_neg hle']
            exact go t1 (some k) (fun s hs => by cases hs; exact hk7)
          · rw [if_neg hrp, if_neg hrp]
            exact go t1 (some s) hc
    · rw [if_neg hsub, if_neg (fun q => hsub ((pu_sub k hk7 o ho7).mp q))]
      exact ih (k + 1) t m c (by omega) ho hr hc fu1 fu5 (by omega) (by omega)
theorem pu_either (x : Int32) : (fd_X4_isEither x = some 0 ∧ fd_X5_in x 0 1 = some 0) ∨ ((x = 0 ∨ x = 1) ∧ fd_X4_isEither x = some 1 ∧ fd_X5_in x 0 1 = some 1) := by
  unfold fd_X4_isEither
  rcases pu_in x 0 1 with g | ⟨g, g1, g2⟩
  · have h0 : ¬ x = 0 := fun q => by rw [q] at g; exact absurd g (by decide)
    have h1 : ¬ x = 1 := fun q => by rw [q] at g; exact absurd g (by decide)
    rw [if_neg h0, if_neg h1]
    exact Or.inl ⟨rfl, g⟩
  · obtain ⟨p, -, hp, rfl⟩ := pu_rng (lo := 0) (hi := 1) (by omega) (by omega) g1 g2
    have : p = 0 ∨ p = 1 := by omega
    rcases this with rfl | rfl
    · exact Or.inr ⟨Or.inl rfl, rfl, g⟩
    · exact Or.inr ⟨Or.inr rfl, rfl, g⟩
theorem pu_buyOff {m y x t : ob_B} {n : Nat} (ho : pu_ok (m.2 12) n) (hr : pu_rr y (m.2 12) n) (a c e : Int32) : ∃ r t' m', fd_X4_buyOff x y t a c e = some (r, t') ∧ fd_X5_buyOff m a c e = some (r, m') ∧ pu_sm m m' := by
  have hn := ho.1
  unfold fd_X4_buyOff fd_X5_buyOff
  rw [pu_within]
  rcases pu_nor (x := x) ho hr with ⟨-, h1, h5⟩ | ⟨-, h1, h5⟩
  · rw [h1, h5, pu_b1, pu_b1, if_neg pu_10, if_pos rfl]
    exact ⟨_, _, _, rfl, rfl, pu_sm_rf⟩
  · rw [h1, h5, pu_b1, pu_b1, if_pos rfl, if_neg pu_10]
    rcases pu_isPlace a with ⟨g1, g5⟩ | ⟨p, hp, rfl, g1, g5⟩
    · rw [g1, g5, pu_b1, pu_b1, if_pos rfl, if_pos rfl]
      exact ⟨_, _, _, rfl, rfl, pu_sm_rf⟩
    · rw [g1, g5, pu_b1, pu_b1, if_neg pu_10, if_neg pu_10]
      rcases pu_in c 1 24 with g | ⟨g, k1, k2⟩
      · rw [g, pu_b1, pu_b1, if_pos rfl, if_pos rfl]
        exact ⟨_, _, _, rfl, rfl, pu_sm_rf⟩
      · obtain ⟨N, -, hN, rfl⟩ := pu_rng (lo := 1) (hi := 24) (by omega) (by omega) k1 k2
        rw [g, pu_b1, pu_b1, if_neg pu_10, if_neg pu_10]
        rcases pu_either e with ⟨e1, e5⟩ | ⟨he, e1, e5⟩
        · rw [e1, e5, pu_b1, pu_b1, if_pos rfl, if_pos rfl]
          exact ⟨_, _, _, rfl, rfl, pu_sm_rf⟩
        · obtain ⟨s, s1, s2, s3, s4⟩ := pu_open ho hr
          have hpw := pu_pw hn
          rw [e1, e5, pu_b1, pu_b1, if_neg pu_10, if_neg pu_10, s3, s4, pu_b1, pu_b1]
          obtain ⟨c', t', m', q0, q1, q2, q3⟩ := pu_buyOffs (x := x) (y := y) hN hp e (show s < 128 by omega) (s + 1) 0 t m none (by omega) ho hr (fun _ q => by cases q) 2000 2000 (by omega) (by omega)
          have e4 : fd_X4_buyOff_L57 2000 x y t (nI p) (nI N) e (nI s) (-1000000) 8 0 = fd_X4_buyOff_L113 x y t' e (pu_e1 c') (pu_fw c') := q1
          have e6 : fd_X5_buyOff_L57 2000 m (nI p) (nI N) e (nI s) (-1) 0 = fd_X5_buyOff_L122 m' e (pu_e5 c') := q2
          rw [e4, e6]
          unfold fd_X4_buyOff_L113 fd_X5_buyOff_L122
          cases c' with
          | none =>
            refine ⟨-1000000, t', m', ?_, ?_, q3⟩
            · rcases he with rfl | rfl
              · rw [if_neg (show ¬ (0 : Int32) = 1 by decide), if_pos (show pu_e1 none = -1000000 from rfl)]; rfl
              · rw [if_pos rfl]; rfl
            · rw [if_neg (show ¬ (0 : Int32) ≤ pu_e5 none by decide)]
          | some u =>
            have hu := q0 u rfl
            have hnn : ¬ pu_e1 (some u) = -1000000 := fun q => by
              have h : (nI u).toInt = (-1000000 : Int32).toInt := congrArg Int32.toInt q
              rw [nI_toInt (by omega)] at h
              have h2 : ((-1000000 : Int32)).toInt = -1000000 := by decide
              omega
            have hpos : (0 : Int32) ≤ pu_e5 (some u) := nI_pos' (by omega)
            have hbu : fd_X5_bits (pu_e5 (some u)) = some (nI (pu_pc u)) := pu_bt u hu
            rw [if_pos hpos, hbu, pu_b1]
            rcases he with rfl | rfl
            · rw [if_neg (show ¬ (0 : Int32) = 1 by decide), if_neg hnn, if_pos rfl]
              exact ⟨_, _, _, rfl, rfl, q3⟩
            · rw [if_pos rfl, if_neg pu_10]
              exact ⟨_, _, _, rfl, rfl, q3⟩
