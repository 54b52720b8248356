def pu_cn (s : Nat) : Nat → Nat → Nat
  | _, 0 => 0
  | k, d + 1 => (if Nat.testBit s k then 1 else 0) + pu_cn s (k + 1) d
theorem pu_cnp : ∀ n, n < 8 → ∀ s, s < 128 → s < 2 ^ n → pu_cn s 0 n = pu_pc s := by decide +kernel
theorem pu_orderi {m : ob_B} {n s : Nat} (K : ob_B → Int32 → Int32 → Option (Int32 × ob_B)) (z : Int32) (hs : s < 128) (hn : n ≤ 7) (h12 : m.2 12 2 = nI n) : ∀ (d k L : Nat), k + d = n → L < 2147483648 → ∀ fu5 fu1, d < fu5 → d + 1 < fu1 →
    (pu_cn s k d ≤ L ∧ fd_X5_order_L43 K fu5 m (nI L) z (nI s) (nI k) = K m (nI (L - pu_cn s k d)) (z + 1)) ∨ (L < pu_cn s k d ∧ ∃ o, fd_X5_order_L43 K fu5 m (nI L) z (nI s) (nI k) = some (nI o, m) ∧ fd_X4_bitAt_L4 fu1 (nI s) (nI L) (nI k) = some (nI o)) := by
  intro d
  induction d with
  | zero =>
    intro k L hk hL fu5 fu1 h5 h1
    obtain ⟨fu5, rfl⟩ : ∃ x, fu5 = x + 1 := ⟨fu5 - 1, by omega⟩
    have hk' : k = n := by omega
    subst hk'
    refine Or.inl ⟨Nat.zero_le _, ?_⟩
    rw [fd_X5_order_L43, pu_c2, h12, if_pos pu_le, pu_lt]
    rfl
  | succ d ih =>
    intro k L hk hL fu5 fu1 h5 h1
    obtain ⟨fu5, rfl⟩ : ∃ x, fu5 = x + 1 := ⟨fu5 - 1, by omega⟩
    obtain ⟨fu1, rfl⟩ : ∃ x, fu1 = x + 1 := ⟨fu1 - 1, by omega⟩
    have hb := pu_hb s hs k (by omega)
    have h7 : ¬ (7 : Int32) ≤ nI k := pu_nle (n := 7) (by omega) (by omega)
    rw [fd_X5_order_L43, pu_c2, h12, if_neg (pu_nle (by omega) (by omega)), fd_X4_bitAt_L4, if_neg h7, fd_X5_has, hb]
    simp only [pu_lt, nI_1]
    have hcn : pu_cn s k (d + 1) = (if Nat.testBit s k then 1 else 0) + pu_cn s (k + 1) d := rfl
    rw [hcn]
    cases ht : Nat.testBit s k with
    | false =>
      simp only [Bool.false_eq_true, if_false]
      rw [if_neg (show ¬ (0 : Int32) = 1 by decide), pu_b1, if_pos rfl, if_pos trivial, Nat.zero_add]
      exact ih (k + 1) L (by omega) hL fu5 fu1 (by omega) (by omega)
    | true =>
      simp only [if_true]
      rw [pu_b1, if_neg pu_10, if_neg pu_10]
      by_cases hL0 : L = 0
      · subst hL0
        refine Or.inr ⟨by omega, k, ?_, ?_⟩
        · rw [if_pos (show nI 0 = 0 from rfl)]
        · rw [if_pos (show nI 0 = 0 from rfl)]
      · obtain ⟨L', rfl⟩ : ∃ x, L = x + 1 := ⟨L - 1, by omega⟩
        have hne : ¬ nI (L' + 1) = 0 := nI_ne0 (by omega) hL
        rw [if_neg hne, if_neg hne, pk_m1]
        rcases ih (k + 1) L' (by omega) (by omega) fu5 fu1 (by omega) (by omega) with ⟨g1, g2⟩ | ⟨g1, g2⟩
        · refine Or.inl ⟨by omega, ?_⟩
          rw [g2, show L' + 1 - (1 + pu_cn s (k + 1) d) = L' - pu_cn s (k + 1) d by omega]
        · exact Or.inr ⟨by omega, g2⟩
theorem pu_orders {x y : ob_B} {n : Nat} : ∀ (d k : Nat) (t m : ob_B) (L : Nat), k + d = 60 → L < 2147483648 → m.2 12 2 = nI n → pu_ok (m.2 14) n → pu_rr t (m.2 14) n → ∀ fu1 fu5, d < fu1 → d < fu5 →
    ∃ r t' m', fd_X4_order_L32 fu1 x y t (nI L) (nI k) = some (r, t') ∧ fd_X5_order_L25 fu5 m (nI L) (nI k) = some (r, m') ∧ pu_sm m m' := by
  intro d
  induction d with
  | zero =>
    intro k t m L hk hL h12 ho hr fu1 fu5 h1 h5
    obtain ⟨fu1, rfl⟩ : ∃ x, fu1 = x + 1 := ⟨fu1 - 1, by omega⟩
    obtain ⟨fu5, rfl⟩ : ∃ x, fu5 = x + 1 := ⟨fu5 - 1, by omega⟩
    have hk' : k = 60 := by omega
    subst hk'
    rw [fd_X4_order_L32, fd_X5_order_L25, if_pos (by decide), if_pos (by decide)]
    exact ⟨_, _, _, rfl, rfl, pu_sm_rf⟩
  | succ d ih =>
    intro k t m L hk hL h12 ho hr fu1 fu5 h1 h5
    obtain ⟨fu1, rfl⟩ : ∃ x, fu1 = x + 1 := ⟨fu1 - 1, by omega⟩
    obtain ⟨fu5, rfl⟩ : ∃ x, fu5 = x + 1 := ⟨fu5 - 1, by omega⟩
    have hn := ho.1
    have hpw := pu_pw hn
    have hlt : ¬ (60 : Int32) ≤ nI k := pu_nle (n := 60) (by omega) (by omega)
    obtain ⟨s, t1, f1, p1, p5, p3, p4, p6, p7⟩ := pu_passS ho hr
    have hs : s < 128 := by omega
    have hcnp := pu_cnp n (by omega) s hs p7
    have hp7 := pu_pc7 s
    rw [fd_X4_order_L32, fd_X5_order_L25, if_neg hlt, if_neg hlt, p1, p5, pu_b2, pu_b2, pu_bc s hs, pu_b1]
    simp only [pu_lt, nI_1]
    rcases pu_orderi (m := ob_A m 14 f1) (fd_X5_order_L25 fu5) (nI k) hs hn h12 n 0 L (by omega) hL 2000 2000 (by omega) (by omega) with ⟨g1, g2⟩ | ⟨g1, o, g2, g3⟩
    · rw [hcnp] at g1 g2
      rw [if_pos ((nI_leI (by omega) hL).mpr g1), pk_sub g1]
      have g2' : fd_X5_order_L43 (fd_X5_order_L25 fu5) 2000 (ob_A m 14 f1) (nI L) (nI k) (nI s) 0 = fd_X5_order_L25 fu5 (ob_A m 14 f1) (nI (L - pu_pc s)) (nI (k + 1)) := by rw [← nI_1]; exact g2
      rw [g2']
      obtain ⟨r, t', m', q1, q2, q3⟩ := ih (k + 1) t1 (ob_A m 14 f1) (L - pu_pc s) (by omega) (by omega) h12 p4 p3 fu1 fu5 (by omega) (by omega)
      exact ⟨r, t', m', q1, q2, pu_sm_tr (pu_sm14 m f1) q3⟩
    · rw [hcnp] at g1
      have g2' : fd_X5_order_L43 (fd_X5_order_L25 fu5) 2000 (ob_A m 14 f1) (nI L) (nI k) (nI s) 0 = some (nI o, ob_A m 14 f1) := g2
      have g3' : fd_X4_bitAt (nI s) (nI L) = some (nI o) := g3
      rw [if_neg (fun q => absurd ((nI_leI (by omega) hL).mp q) (by omega)), g2', fd_X4_order_L60, g3', pu_b1]
      exact ⟨_, _, _, rfl, rfl, pu_sm14 m f1⟩
theorem pu_order {m y x t : ob_B} {n : Nat} (ho : pu_ok (m.2 12) n) (hr : pu_rr y (m.2 12) n) (a : Int32) : ∃ r t' m', fd_X4_order x y t a = some (r, t') ∧ fd_X5_order m a = some (r, m') ∧ pu_sm m m' := by
  unfold fd_X4_order fd_X5_order
  rcases pu_nor (x := x) ho hr with ⟨-, h1, h5⟩ | ⟨-, h1, h5⟩
  · rw [h1, h5, pu_b1, pu_b1, if_neg pu_10, if_pos rfl]
    exact ⟨_, _, _, rfl, rfl, pu_sm_rf⟩
  · rw [h1, h5, pu_b1, pu_b1, if_pos rfl, if_neg pu_10]
    by_cases h0 : 0 ≤ a
    · have h0' : ¬ a < 0 := Int32.not_lt.mpr h0
      obtain ⟨L, hL, rfl⟩ := nI_of h0'
      obtain ⟨t1, b1, b2⟩ := pu_become t y
      obtain ⟨m1, c1, c2, c3, c4, c5⟩ := pu_begin ho
      rw [if_pos h0, if_pos h0, b1, c1, pu_b1, pu_b1]
      obtain ⟨r, t', m', q1, q2, q3⟩ := pu_orders (x := x) (y := y) (n := n) 60 0 t1 m1 L (by omega) hL (by rw [c2.2 12 (by decide) (by decide) (by decide) (by decide)]; exact ho.2.1) c4 (c5 _ (b2 _ _ ho.1 hr)) 2000 2000 (by omega) (by omega)
      exact ⟨r, t', m', q1, q2, pu_sm_tr c2 q3⟩
    · rw [if_neg h0, if_neg h0]
      exact ⟨_, _, _, rfl, rfl, pu_sm_rf⟩
