theorem pu_kind {m y x : ob_B} {n : Nat} (ho : pu_ok (m.2 12) n) (hr : pu_rr y (m.2 12) n) (a : Int32) : ∃ r, fd_X4_kind x y a = some r ∧ fd_X5_kind m a = some r := by
  have hn := ho.1
  unfold fd_X4_kind fd_X5_kind
  rcases pu_one (x := x) ho hr a with ⟨h1, h5⟩ | ⟨j, hj, rfl, h1, h5⟩
  · rw [h1, h5, pu_b1, pu_b1, if_pos rfl, if_pos rfl]
    exact ⟨_, rfl, rfl⟩
  · rw [h1, h5, pu_b1, pu_b1, if_neg pu_10, if_neg pu_10, pu_7, pu_ck j 7 _ (by omega) (by omega), pu_ck (7 + j) 42 _ (by omega) (by omega), pu_cl (by omega), pu_cl (by omega), (hr.2.2.2.2.2.2.2 j hj).1]
    exact ⟨_, rfl, rfl⟩
theorem pu_oath {m y x : ob_B} {n : Nat} (ho : pu_ok (m.2 12) n) (hr : pu_rr y (m.2 12) n) (a c : Int32) : ∃ r, fd_X4_oath x y a c = some r ∧ fd_X5_oath m a c = some r := by
  have hn := ho.1
  unfold fd_X4_oath fd_X5_oath
  rcases pu_one (x := x) ho hr a with ⟨h1, h5⟩ | ⟨j, hj, rfl, h1, h5⟩
  · rw [h1, h5, pu_b1, pu_b1, if_pos rfl, if_pos rfl]
    exact ⟨_, rfl, rfl⟩
  · rw [h1, h5, pu_b1, pu_b1, if_neg pu_10, if_neg pu_10]
    obtain ⟨a7, a8, a9, a10, a11⟩ := hr.2.2.2.2.2.2.2 j hj
    rcases pu_in c 0 4 with g | ⟨g, k1, k2⟩
    · have h0 : ¬ c = 0 := fun q => by rw [q] at g; exact absurd g (by decide)
      have h1 : ¬ c = 1 := fun q => by rw [q] at g; exact absurd g (by decide)
      have h2 : ¬ c = 2 := fun q => by rw [q] at g; exact absurd g (by decide)
      have h3 : ¬ c = 3 := fun q => by rw [q] at g; exact absurd g (by decide)
      have h4 : ¬ c = 4 := fun q => by rw [q] at g; exact absurd g (by decide)
      rw [g, pu_b1, if_pos rfl, if_neg h0, if_neg h1, if_neg h2, if_neg h3, if_neg h4]
      exact ⟨_, rfl, rfl⟩
    · obtain ⟨w, -, hw, rfl⟩ := pu_rng (lo := 0) (hi := 4) (by omega) (by omega) k1 k2
      rw [g, pu_b1, if_neg pu_10]
      have e : w < 4 → (14 : Int32) + 7 * nI w + nI j = nI (14 + 7 * w + j) := fun _ => by
        rw [show (7 : Int32) * nI w = nI (7 * w) from pk_mul 7 w, pu_14, nI_add]
      have : w = 0 ∨ w = 1 ∨ w = 2 ∨ w = 3 ∨ w = 4 := by omega
      rcases this with rfl | rfl | rfl | rfl | rfl
      · rw [e (by omega), if_pos (show nI 0 = 0 from rfl), if_neg (show ¬ nI 0 = 4 by decide), pu_ck j 7 _ (by omega) (by omega), pu_ck (14 + 7 * 0 + j) 42 _ (by omega) (by omega), pu_cl (by omega), pu_cl (by omega), a8]
        exact ⟨_, rfl, rfl⟩
      · rw [e (by omega), if_neg (show ¬ nI 1 = 0 by decide), if_pos (show nI 1 = 1 from rfl), if_neg (show ¬ nI 1 = 4 by decide), pu_ck j 7 _ (by omega) (by omega), pu_ck (14 + 7 * 1 + j) 42 _ (by omega) (by omega), pu_cl (by omega), pu_cl (by omega), a9]
        exact ⟨_, rfl, rfl⟩
      · rw [e (by omega), if_neg (show ¬ nI 2 = 0 by decide), if_neg (show ¬ nI 2 = 1 by decide), if_pos (show nI 2 = 2 from rfl), if_neg (show ¬ nI 2 = 4 by decide), pu_ck j 7 _ (by omega) (by omega), pu_ck (14 + 7 * 2 + j) 42 _ (by omega) (by omega), pu_cl (by omega), pu_cl (by omega), a10]
        exact ⟨_, rfl, rfl⟩
      · rw [e (by omega), if_neg (show ¬ nI 3 = 0 by decide), if_neg (show ¬ nI 3 = 1 by decide), if_neg (show ¬ nI 3 = 2 by decide), if_pos (show nI 3 = 3 from rfl), if_neg (show ¬ nI 3 = 4 by decide), pu_ck j 7 _ (by omega) (by omega), pu_ck (14 + 7 * 3 + j) 42 _ (by omega) (by omega), pu_cl (by omega), pu_cl (by omega), a11]
        exact ⟨_, rfl, rfl⟩
      · obtain ⟨v, v1, v5⟩ := pu_pull ho hr hj
        rw [if_neg (show ¬ nI 4 = 0 by decide), if_neg (show ¬ nI 4 = 1 by decide), if_neg (show ¬ nI 4 = 2 by decide), if_neg (show ¬ nI 4 = 3 by decide), if_pos (show nI 4 = 4 from rfl), if_pos (show nI 4 = 4 from rfl), v1, v5]
        simp only [pu_b1]
        exact ⟨_, rfl, rfl⟩
theorem pu_coach {m y x : ob_B} {n : Nat} (ho : pu_ok (m.2 12) n) (hr : pu_rr y (m.2 12) n) (a : Int32) : ∃ r, fd_X4_coach x y a = some r ∧ fd_X5_coach m a = some r := by
  unfold fd_X4_coach fd_X5_coach
  rcases pu_nor (x := x) ho hr with ⟨-, h1, h5⟩ | ⟨-, h1, h5⟩
  · rw [h1, h5, pu_b1, pu_b1, if_neg pu_10, if_pos rfl]
    exact ⟨_, rfl, rfl⟩
  · have hn := ho.1
    obtain ⟨s, s1, s2, s3, s4⟩ := pu_open ho hr
    obtain ⟨o, o1, o2, o3⟩ := pu_puller ho hr 0
    obtain ⟨r0, r1, r4, r2, r3, r5, r6, ra⟩ := hr
    rw [h1, h5, pu_b1, pu_b1, if_pos rfl, if_neg pu_10, pu_c0, pu_c4, pu_c1, r0, r3, r1, s3, s4, o2, o3]
    simp only [pu_b1]
    by_cases c0 : a = 0
    · rw [if_pos c0, if_pos c0]; exact ⟨_, rfl, rfl⟩
    · rw [if_neg c0, if_neg c0]
      by_cases c1 : a = 1
      · rw [if_pos c1, if_pos c1]
        cases o with
        | none => rw [if_neg (show ¬ (0 : Int32) ≤ pu_e5 none by decide)]; exact ⟨_, rfl, rfl⟩
        | some j =>
          have hj := o1 j rfl
          rw [if_pos (show (0 : Int32) ≤ pu_e5 (some j) from nI_pos' (by omega))]
          exact ⟨_, rfl, rfl⟩
      · rw [if_neg c1, if_neg c1]
        by_cases c2 : a = 2
        · rw [if_pos c2]; exact ⟨_, rfl, rfl⟩
        · rw [if_neg c2]
          by_cases c3 : a = 3
          · rw [if_pos c3]; exact ⟨_, rfl, rfl⟩
          · rw [if_neg c3]
            by_cases c4 : a = 4
            · rw [if_pos c4]; exact ⟨_, rfl, rfl⟩
            · rw [if_neg c4]; exact ⟨_, rfl, rfl⟩
theorem pu_lates {m y x : ob_B} {n : Nat} (ho : pu_ok (m.2 12) n) (hr : pu_rr y (m.2 12) n) (a : Int32) : ∀ (d k : Nat) (w z : Int32), k + d = n → 0 ≤ z → ∀ fu1 fu5, d < fu1 → d < fu5 →
    ∃ w' z', fd_X4_late_L28 fu1 x y a w z (nI k) = fd_X4_late_L91 x y a w' z' ∧ fd_X5_late_L30 fu5 m a z w (nI k) = fd_X5_late_L109 m a z' w' := by
  have hn := ho.1
  have h2 := ho.2.1
  have r4 : y.1 4 = m.2 12 2 := hr.2.2.1
  have r2 : y.1 2 = m.2 12 3 := hr.2.2.2.1
  intro d
  induction d with
  | zero =>
    intro k w z hk hz fu1 fu5 h1 h5
    obtain ⟨fu1, rfl⟩ : ∃ x, fu1 = x + 1 := ⟨fu1 - 1, by omega⟩
    obtain ⟨fu5, rfl⟩ : ∃ x, fu5 = x + 1 := ⟨fu5 - 1, by omega⟩
    have hk' : k = n := by omega
    subst hk'
    rw [fd_X4_late_L28, fd_X5_late_L30, pu_c2, r4, h2, if_pos pu_le, if_pos pu_le]
    exact ⟨w, z, rfl, rfl⟩
  | succ d ih =>
    intro k w z hk hz fu1 fu5 h1 h5
    obtain ⟨fu1, rfl⟩ : ∃ x, fu1 = x + 1 := ⟨fu1 - 1, by omega⟩
    obtain ⟨fu5, rfl⟩ : ∃ x, fu5 = x + 1 := ⟨fu5 - 1, by omega⟩
    have hlt : ¬ nI n ≤ nI k := pu_nle (by omega) (by omega)
    obtain ⟨a7, a8, a9, a10, a11⟩ := hr.2.2.2.2.2.2.2 k (by omega)
    obtain ⟨q0, q7, q14, q21, q28, q35, c0, c7, c14, c21, c28, c35, l0, l7, l14, l21, l28, l35⟩ := pu_ixs (show k < 7 by omega)
    rw [fd_X4_late_L28, fd_X5_late_L30, pu_c2, r4, h2, if_neg hlt, if_neg hlt]
    unfold fd_X5_late_L75 fd_X5_late_L89
    simp only [pu_28, pu_35, c0, c28, c35, q0, q28, q35, l0, l28, l35, or_self, if_false, pu_c3, pu_lt, a10, a11, r2, nI_1]
    by_cases t1 : m.2 12 (35 + k) = 0
    · simp only [if_pos t1]
      by_cases t2 : m.2 12 3 - m.2 12 (28 + k) ≤ z
      · simp only [if_pos t2]
        exact ih (k + 1) w z (by omega) hz fu1 fu5 (by omega) (by omega)
      · simp only [if_neg t2]
        exact ih (k + 1) (nI k) _ (by omega) (Int32.le_of_lt (Int32.lt_of_le_of_lt hz (Int32.not_le.mp t2))) fu1 fu5 (by omega) (by omega)
    · simp only [if_neg t1, if_pos hz]
      exact ih (k + 1) w z (by omega) hz fu1 fu5 (by omega) (by omega)
theorem pu_late {m y x : ob_B} {n : Nat} (ho : pu_ok (m.2 12) n) (hr : pu_rr y (m.2 12) n) (a : Int32) : ∃ r, fd_X4_late x y a = some r ∧ fd_X5_late m a = some r := by
  have hn := ho.1
  unfold fd_X4_late fd_X5_late
  rcases pu_nor (x := x) ho hr with ⟨-, h1, h5⟩ | ⟨-, h1, h5⟩
  · rw [h1, h5, pu_b1, pu_b1, if_neg pu_10, if_pos rfl]
    exact ⟨_, rfl, rfl⟩
  · rw [h1, h5, pu_b1, pu_b1, if_pos rfl, if_neg pu_10]
    rcases pu_either a with ⟨e1, e5⟩ | ⟨he, e1, e5⟩
    · rw [e1, e5, pu_b1, pu_b1, if_pos rfl, if_pos rfl]
      exact ⟨_, rfl, rfl⟩
    · rw [e1, e5, pu_b1, pu_b1, if_neg pu_10, if_neg pu_10]
      obtain ⟨w, z, g1, g2⟩ := pu_lates (x := x) ho hr a n 0 (-1000000) 0 (by omega) (Int32.le_refl _) 2000 2000 (by omega) (by omega)
      have g1' : fd_X4_late_L28 2000 x y a (-1000000) 0 0 = fd_X4_late_L91 x y a w z := g1
      have g2' : fd_X5_late_L30 2000 m a 0 (-1000000) 0 = fd_X5_late_L109 m a z w := g2
      rw [g1', g2', fd_X4_late_L91, fd_X5_late_L109]
      by_cases hw : w = -1000000
      · refine ⟨w, ?_, by rw [if_pos hw]⟩
        by_cases h3 : a = 1
        · rw [if_pos h3]
        · rw [if_neg h3, if_pos hw]
      · by_cases h3 : a = 1
        · exact ⟨w, by rw [if_pos h3], by rw [if_neg hw, if_pos h3]⟩
        · exact ⟨z, by rw [if_neg h3, if_neg hw], by rw [if_neg hw, if_neg h3]⟩
/-! weeks by draws -/
theorem pu_lT {a : Nat} (h : a < 9223372036854775808) : (lN a).toInt = (a : Int) := pk_lT h
theorem pu_cmp0 {a : Nat} (h : a < 9223372036854775808) : ¬ lg_cmp (lN a) 0 < 0 := by
  have : (0 : Int32) ≤ lg_cmp (lN a) 0 := (lg_cmp_ge _ _).mpr ((pk_lLE (a := 0) (b := a) (by omega) h).mpr (Nat.zero_le a))
  exact Int32.not_lt.mpr this
theorem pu_lrem {a d : Nat} (ha : a < 9223372036854775808) (h0 : 0 < d) (hd : d < 9223372036854775808) : lN a - lN a / lN d * lN d = lN (a % d) := pk_lRem ha h0 hd
theorem pu_draw {t m : ob_B} {n Y : Nat} (hY : Y < 2147483648) (hn0 : 0 < n) (ho : pu_ok (m.2 14) n) (hr : pu_rr t (m.2 14) n) : ∃ t' p, p < 10 ∧ fd_X1_openByDraw t (lN Y) = some t' ∧ Int64.toInt32 (lN Y - lN Y / Int32.toInt64 (nI n) * Int32.toInt64 (nI n)) = nI (Y % n) ∧ Int64.toInt32 (lN Y - lN Y / 10 * 10) = nI p ∧ pu_rr t' (upd (upd (m.2 14) (14 + Y % n) (nI p)) (35 + Y % n) 0) n ∧ pu_ok (upd (upd (m.2 14) (14 + Y % n) (nI p)) (35 + Y % n) 0) n := by
  have hn := ho.1
  have hj : Y % n < n := Nat.mod_lt _ hn0
  have e1 : Int64.toInt32 (lN Y - lN Y / Int32.toInt64 (nI n) * Int32.toInt64 (nI n)) = nI (Y % n) := by
    rw [nI_l (by omega), pu_lrem (by omega) hn0 (by omega), lN_i]
  have e2 : Int64.toInt32 (lN Y - lN Y / 10 * 10) = nI (Y % 10) := by
    have := pu_lrem (a := Y) (d := 10) (by omega) (by omega) (by omega)
    rw [show (10 : Int64) = lN 10 from rfl, this, lN_i]
  have r4 : t.1 4 = nI n := hr.2.2.1.trans ho.2.1
  obtain ⟨-, -, ⟨w, w1, w2, ew⟩⟩ := ho.2.2.2 (Y % n) hj
  have a9 := (hr.2.2.2.2.2.2.2 (Y % n) hj).2.2.1
  obtain ⟨t', g1, g2, g3⟩ := pu_openTo (p := Y % 10) (w := w) ho hr hj (by omega) w1 w2
  have hsame : upd (upd (m.2 14) (14 + Y % n) (nI (Y % 10))) (21 + Y % n) (nI w) = upd (m.2 14) (14 + Y % n) (nI (Y % 10)) := by
    have : nI w = upd (m.2 14) (14 + Y % n) (nI (Y % 10)) (21 + Y % n) := by rw [pu_un _ _ (by omega)]; exact ew.symm
    rw [this, pu_usf]
  rw [hsame] at g2 g3
  refine ⟨t', Y % 10, by omega, ?_, e1, e2, g2, g3⟩
  have hz : ¬ Int32.toInt64 (nI n) = 0 := by
    rw [nI_l (by omega)]
    intro q
    have := (pk_lEQ (a := n) (b := 0) (by omega) (by omega)).mp q
    omega
  rw [fd_X1_openByDraw, r4, if_neg (nI_nle hn0 (by omega)), if_neg (pu_cmp0 (by omega)), if_neg hz, pu_lt, e1, e2, pu_ck (Y % n) 7 _ (by omega) (by omega), pu_cl (by omega), a9, ew, g1, pu_b1]
theorem pu_drawns {x y : ob_B} {n N : Nat} (hN : N ≤ 60) (hn0 : 0 < n) (w : Int32) : ∀ (d k : Nat) (t m : ob_B) (Z : Nat), k + d = N → Z < 2147483648 → m.2 12 2 = nI n → pu_ok (m.2 14) n → pu_rr t (m.2 14) n → ∀ fu1 fu5, d < fu1 → d < fu5 →
    ∃ t' m', fd_X4_drawn_L58 fu1 x y t (nI N) w (lN Z) (nI k) = fd_X4_drawn_L110 x y t' w ∧ fd_X5_drawn_L53 fu5 m (nI N) w (lN Z) (nI k) = fd_X5_drawn_L137 m' w ∧ pu_sm m m' ∧ pu_ok (m'.2 14) n ∧ pu_rr t' (m'.2 14) n := by
  intro d
  induction d with
  | zero =>
    intro k t m Z hk hZ h12 ho hr fu1 fu5 h1 h5
    obtain ⟨fu1, rfl⟩ : ∃ x, fu1 = x + 1 := ⟨fu1 - 1, by omega⟩
    obtain ⟨fu5, rfl⟩ : ∃ x, fu5 = x + 1 := ⟨fu5 - 1, by omega⟩
    have hk' : k = N := by omega
    subst hk'
    rw [fd_X4_drawn_L58, fd_X5_drawn_L53, if_pos pu_le, if_pos pu_le]
    exact ⟨t, m, rfl, rfl, pu_sm_rf, ho, hr⟩
  | succ d ih =>
    intro k t m Z hk hZ h12 ho hr fu1 fu5 h1 h5
    obtain ⟨fu1, rfl⟩ : ∃ x, fu1 = x + 1 := ⟨fu1 - 1, by omega⟩
    obtain ⟨fu5, rfl⟩ : ∃ x, fu5 = x + 1 := ⟨fu5 - 1, by omega⟩
    have hn := ho.1
    have hlt : ¬ nI N ≤ nI k := pu_nle (by omega) (by omega)
    have ez : lN Z * 16807 - lN Z * 16807 / 2147483647 * 2147483647 = lN (Z * 16807 % 2147483647) := by
      rw [show (16807 : Int64) = lN 16807 from rfl, show (2147483647 : Int64) = lN 2147483647 from rfl, lN_mul]
      exact pu_lrem (by omega) (by omega) (by omega)
    have hY : Z * 16807 % 2147483647 < 2147483648 := by omega
    generalize Z * 16807 % 2147483647 = Y at ez hY
    rw [fd_X4_drawn_L58, fd_X5_drawn_L53, if_neg hlt, if_neg hlt, ez, pu_lt, pu_lt]
    have go : ∀ (t1 m1 : ob_B), pu_sm m m1 → m1.2 12 2 = nI n → pu_ok (m1.2 14) n → pu_rr t1 (m1.2 14) n → ∃ t' m', fd_X4_drawn_L96 (fd_X4_drawn_L58 fu1) x y t1 (nI N) w (lN Y) (nI k) = fd_X4_drawn_L110 x y t' w ∧ fd_X5_drawn_L123 (fd_X5_drawn_L53 fu5) m1 (nI N) w (lN Y) (nI k) = fd_X5_drawn_L137 m' w ∧ pu_sm m m' ∧ pu_ok (m'.2 14) n ∧ pu_rr t' (m'.2 14) n := by
      intro t1 m1 s1 g12 o1 r1
      obtain ⟨e, t2, f2, p1, p5, p3, p4, p6⟩ := pu_pass o1 r1
      obtain ⟨t', m', q1, q2, q3, q4, q5⟩ := ih (k + 1) t2 (ob_A m1 14 f2) Y (by omega) hY g12 p4 p3 fu1 fu5 (by omega) (by omega)
      refine ⟨t', m', ?_, ?_, pu_sm_tr (pu_sm_tr s1 (pu_sm14 m1 f2)) q3, q4, q5⟩
      · rw [fd_X4_drawn_L96, p1, pu_b2, pu_lt, nI_1]; exact q1
      · rw [fd_X5_drawn_L123, p5, pu_b2, pu_lt, pu_lt, nI_1]; exact q2
    by_cases hc : lg_cmp (lN Y - lN Y / 3 * 3) 0 = 0
    · obtain ⟨t1, p, hp, g1, g2, g3, g4, g5⟩ := pu_draw hY hn0 ho hr
      have hz : ¬ Int32.toInt64 (nI n) = 0 := by
        rw [nI_l (by omega)]
        intro q
        have := (pk_lEQ (a := n) (b := 0) (by omega) (by omega)).mp q
        omega
      have hj : Y % n < n := Nat.mod_lt _ hn0
      rw [if_pos hc, if_pos hc, g1, pu_b1, pu_c2, h12, if_neg hz, pu_lt, pu_lt, g2, g3, pu_14, pu_ck (14 + Y % n) 42 _ (by omega) (by omega), pu_lt, pu_35, pu_ck (35 + Y % n) 42 _ (by omega) (by omega), pu_lt, pu_cl (by omega), pu_cl (by omega)]
      exact go t1 _ (pu_sm_tr (pu_sm14 m _) (pu_sm14 _ _)) h12 g5 g4
    · rw [if_neg hc, if_neg hc]
      exact go t m pu_sm_rf h12 ho hr
theorem pu_drawn {m y x t : ob_B} {n : Nat} (ho : pu_ok (m.2 12) n) (hr : pu_rr y (m.2 12) n) (a c e : Int32) : ∃ r t' m', fd_X4_drawn x y t a c e = some (r, t') ∧ fd_X5_drawn m a c e = some (r, m') ∧ pu_sm m m' := by
  have hn := ho.1
  unfold fd_X4_drawn fd_X5_drawn
  rw [pu_within, pu_within]
  rcases pu_nor (x := x) ho hr with ⟨-, h1, h5⟩ | ⟨hn0, h1, h5⟩
  · rw [h1, h5, pu_b1, pu_b1, if_neg pu_10, if_pos rfl]
    exact ⟨_, _, _, rfl, rfl, pu_sm_rf⟩
  · rw [h1, h5, pu_b1, pu_b1, if_pos rfl, if_neg pu_10]
    rcases pu_in a 0 60 with g | ⟨g, g1, g2⟩
    · rw [g, pu_b1, pu_b1, if_pos rfl, if_pos rfl]
      exact ⟨_, _, _, rfl, rfl, pu_sm_rf⟩
    · obtain ⟨N, -, hN, rfl⟩ := pu_rng (lo := 0) (hi := 60) (by omega) (by omega) g1 g2
      rw [g, pu_b1, pu_b1, if_neg pu_10, if_neg pu_10]
      rcases pu_in c 1 999999 with g' | ⟨g', k1, k2⟩
      · rw [g', pu_b1, pu_b1, if_pos rfl, if_pos rfl]
        exact ⟨_, _, _, rfl, rfl, pu_sm_rf⟩
      · obtain ⟨Z, -, hZ, rfl⟩ := pu_rng (lo := 1) (hi := 999999) (by omega) (by omega) k1 k2
        rw [g', pu_b1, pu_b1, if_neg pu_10, if_neg pu_10]
        rcases pu_either e with ⟨e1, e5⟩ | ⟨he, e1, e5⟩
        · rw [e1, e5, pu_b1, pu_b1, if_pos rfl, if_pos rfl]
          exact ⟨_, _, _, rfl, rfl, pu_sm_rf⟩
        · obtain ⟨t1, b1, b2⟩ := pu_become t y
          obtain ⟨m1, c1, c2, c3, c4, c5⟩ := pu_begin ho
          rw [e1, e5, pu_b1, pu_b1, if_neg pu_10, if_neg pu_10, b1, c1, pu_b1, pu_b1, pu_lt, pu_lt, nI_l (by omega)]
          obtain ⟨t2, m2, q1, q2, q3, q4, q5⟩ := pu_drawns (x := x) (y := y) hN hn0 e N 0 t1 m1 Z (by omega) (by omega) (by rw [c2.2 12 (by decide) (by decide) (by decide) (by decide)]; exact ho.2.1) c4 (c5 _ (b2 _ _ hn hr)) 2000 2000 (by omega) (by omega)
          have q1' : fd_X4_drawn_L58 2000 x y t1 (nI N) e (lN Z) 0 = fd_X4_drawn_L110 x y t2 e := q1
          have q2' : fd_X5_drawn_L53 2000 m1 (nI N) e (lN Z) 0 = fd_X5_drawn_L137 m2 e := q2
          rw [q1', q2', fd_X4_drawn_L110, fd_X5_drawn_L137]
          obtain ⟨s, s1, s2, s3, s4⟩ := pu_open q4 q5
          have hpw := pu_pw hn
          by_cases h0 : e = 0
          · rw [if_pos h0, if_pos h0, pu_c0, show t2.1 0 = m2.2 14 0 from q5.1]
            exact ⟨_, _, _, rfl, rfl, pu_sm_tr c2 q3⟩
          · rw [if_neg h0, if_neg h0, s3, s4, pu_b1, pu_b1, pu_bc s (by omega), pu_bt s (by omega), pu_b1, pu_b1]
            exact ⟨_, _, _, rfl, rfl, pu_sm_tr c2 q3⟩
