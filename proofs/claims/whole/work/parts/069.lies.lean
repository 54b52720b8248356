theorem pu_pows {b e : Nat} (hb : b < 2147483648) (he : e < 1000) : ∀ (d k A : Nat), k + d = e → ∀ fu, d < fu → fd_X4_power_L5 fu (nI b) (nI e) (lN A) (nI k) = some (lN (A * b ^ d)) := by
  intro d
  induction d with
  | zero =>
    intro k A hk fu h1
    obtain ⟨fu, rfl⟩ : ∃ x, fu = x + 1 := ⟨fu - 1, by omega⟩
    have hk' : k = e := by omega
    subst hk'
    rw [fd_X4_power_L5, if_pos pu_le, Nat.pow_zero, Nat.mul_one]
  | succ d ih =>
    intro k A hk fu h1
    obtain ⟨fu, rfl⟩ : ∃ x, fu = x + 1 := ⟨fu - 1, by omega⟩
    rw [fd_X4_power_L5, if_neg (pu_nle (by omega) (by omega)), pu_lt, pu_lt, nI_1, nI_l hb, lN_mul, ih (k + 1) (A * b) (by omega) fu (by omega), Nat.pow_succ, Nat.mul_assoc, Nat.mul_comm b]
theorem pu_pow {b e : Nat} (hb : b < 2147483648) (he : e < 1000) : fd_X4_power (nI b) (nI e) = some (lN (b ^ e)) := by
  have := pu_pows hb he e 0 1 (by omega) 2000 (by omega)
  rw [Nat.one_mul] at this
  exact this
theorem pu_cmpE {a : Nat} (h : a < 9223372036854775808) : (lg_cmp (lN a) 0 = 0) ↔ a = 0 := by
  unfold lg_cmp
  by_cases h0 : a = 0
  · subst h0; exact ⟨fun _ => rfl, fun _ => by decide⟩
  · rw [if_pos (show lN a > 0 from (pk_lLT (a := 0) (b := a) (by omega) h).mpr (by omega))]
    exact ⟨fun q => absurd q (by decide), fun q => absurd q h0⟩
theorem pu_cmpL {a : Nat} (h : a < 9223372036854775808) : (lg_cmp (lN a) 0 ≤ 0) ↔ a = 0 := by
  unfold lg_cmp
  by_cases h0 : a = 0
  · subst h0; exact ⟨fun _ => rfl, fun _ => by decide⟩
  · rw [if_pos (show lN a > 0 from (pk_lLT (a := 0) (b := a) (by omega) h).mpr (by omega))]
    exact ⟨fun q => absurd q (by decide), fun q => absurd q h0⟩
theorem pu_lne {a : Nat} (h0 : 0 < a) (h : a < 9223372036854775808) : ¬ lN a = 0 := fun q => by
  have := (pk_lEQ (a := a) (b := 0) h (by omega)).mp q
  omega
theorem pu_half {b r : Nat} (h0 : 0 < r) (h : r < b) {k : Nat} (hk : b < 2 ^ (k + 1)) : b % r < 2 ^ k := by
  rw [Nat.pow_succ] at hk
  have h1 : b % r < r := Nat.mod_lt _ h0
  by_cases h2 : r ≤ 2 ^ k
  · omega
  · have h3 : b % r = (b - r) % r := (Nat.mod_eq_sub_mod (by omega))
    have h4 : (b - r) % r = b - r := Nat.mod_eq_of_lt (by omega)
    omega
theorem pu_100 (j : Nat) (h : j < 100) : ¬ (100 : Int32) ≤ nI j := pu_nle (n := 100) h (by omega)
theorem pu_gcd4 : ∀ (k a b j : Nat), a < 9223372036854775808 → b < 9223372036854775808 → b < 2 ^ k → j + 2 * k + 1 ≤ 100 → ∀ fu, 2 * k + 1 < fu → fd_X4_commonDivisor_L9 fu (lN a) (lN b) (nI j) = some (lN (Nat.gcd a b)) := by
  intro k
  induction k with
  | zero =>
    intro a b j ha hb hk hj fu hfu
    obtain ⟨fu, rfl⟩ : ∃ x, fu = x + 1 := ⟨fu - 1, by omega⟩
    have h0 : b = 0 := by simpa using hk
    subst h0
    rw [fd_X4_commonDivisor_L9, if_neg (pu_100 (j) (by omega)), if_pos ((pu_cmpE hb).mpr rfl), Nat.gcd_zero_right]
  | succ k ih =>
    intro a b j ha hb hk hj fu hfu
    obtain ⟨fu, rfl⟩ : ∃ x, fu = x + 1 + 1 := ⟨fu - 2, by omega⟩
    by_cases h0 : b = 0
    · subst h0
      rw [fd_X4_commonDivisor_L9, if_neg (pu_100 (j) (by omega)), if_pos ((pu_cmpE hb).mpr rfl), Nat.gcd_zero_right]
    · have hr : a % b < b := Nat.mod_lt _ (by omega)
      rw [fd_X4_commonDivisor_L9, if_neg (pu_100 (j) (by omega)), if_neg (fun q => h0 ((pu_cmpE hb).mp q)), if_neg (pu_lne (by omega) hb), pu_lt, pu_lt, pu_lrem ha (by omega) hb, nI_1]
      have e1 : Nat.gcd a b = Nat.gcd b (a % b) := by rw [Nat.gcd_comm a b, Nat.gcd_rec b a, Nat.gcd_comm]
      by_cases h2 : a % b = 0
      · rw [fd_X4_commonDivisor_L9, if_neg (pu_100 (j + 1) (by omega)), if_pos ((pu_cmpE (by omega)).mpr h2), e1, h2, Nat.gcd_zero_right]
      · rw [fd_X4_commonDivisor_L9, if_neg (pu_100 (j + 1) (by omega)), if_neg (fun q => h2 ((pu_cmpE (by omega)).mp q)), if_neg (pu_lne (by omega) (by omega)), pu_lt, pu_lt, pu_lrem hb (by omega) (by omega), nI_1]
        have hm : b % (a % b) < a % b := Nat.mod_lt _ (by omega)
        have e2 : Nat.gcd b (a % b) = Nat.gcd (a % b) (b % (a % b)) := by rw [Nat.gcd_comm b (a % b), Nat.gcd_rec (a % b) b, Nat.gcd_comm]
        rw [ih (a % b) (b % (a % b)) (j + 1 + 1) (by omega) (by omega) (pu_half (by omega) hr hk) (by omega) fu (by omega), e1, e2]
theorem pu_gcd5 {m : ob_B} {w : Int32} {u v : Int64} : ∀ (k a b : Nat), a < 9223372036854775808 → b < 9223372036854775808 → b < 2 ^ k → ∀ fu, 2 * k + 1 < fu → fd_X5_lies_L213 fu m w u v (lN a) (lN b) = fd_X5_lies_L238 m w u v (lN (Nat.gcd a b)) := by
  intro k
  induction k with
  | zero =>
    intro a b ha hb hk fu hfu
    obtain ⟨fu, rfl⟩ : ∃ x, fu = x + 1 := ⟨fu - 1, by omega⟩
    have h0 : b = 0 := by simpa using hk
    subst h0
    rw [fd_X5_lies_L213, if_pos ((pu_cmpL hb).mpr rfl), Nat.gcd_zero_right]
  | succ k ih =>
    intro a b ha hb hk fu hfu
    obtain ⟨fu, rfl⟩ : ∃ x, fu = x + 1 + 1 := ⟨fu - 2, by omega⟩
    by_cases h0 : b = 0
    · subst h0
      rw [fd_X5_lies_L213, if_pos ((pu_cmpL hb).mpr rfl), Nat.gcd_zero_right]
    · have hr : a % b < b := Nat.mod_lt _ (by omega)
      rw [fd_X5_lies_L213, if_neg (fun q => h0 ((pu_cmpL hb).mp q)), if_neg (pu_lne (by omega) hb), pu_lt, pu_lrem ha (by omega) hb]
      have e1 : Nat.gcd a b = Nat.gcd b (a % b) := by rw [Nat.gcd_comm a b, Nat.gcd_rec b a, Nat.gcd_comm]
      by_cases h2 : a % b = 0
      · rw [fd_X5_lies_L213, if_pos ((pu_cmpL (by omega)).mpr h2), e1, h2, Nat.gcd_zero_right]
      · rw [fd_X5_lies_L213, if_neg (fun q => h2 ((pu_cmpL (by omega)).mp q)), if_neg (pu_lne (by omega) (by omega)), pu_lt, pu_lrem hb (by omega) (by omega)]
        have hm : b % (a % b) < a % b := Nat.mod_lt _ (by omega)
        have e2 : Nat.gcd b (a % b) = Nat.gcd (a % b) (b % (a % b)) := by rw [Nat.gcd_comm b (a % b), Nat.gcd_rec (a % b) b, Nat.gcd_comm]
        rw [ih (a % b) (b % (a % b)) (by omega) (by omega) (pu_half (by omega) hr hk) fu (by omega), e1, e2]
/-- the odds of a set S of those that lie, out of s -/
def pu_pd (S s p : Nat) : Nat → Nat → Nat
  | _, 0 => 1
  | k, d + 1 => (if Nat.testBit S k then p else if Nat.testBit s k then 10 - p else 1) * pu_pd S s p (k + 1) d
theorem pu_sbs : ∀ S, S < 128 → ∀ s, s < 128 → (nI S &&& nI s = nI S) → ∀ k, k < 7 → Nat.testBit S k = true → Nat.testBit s k = true := by decide +kernel
theorem pu_pdp {S s p : Nat} (h : ∀ k, k < 7 → Nat.testBit S k = true → Nat.testBit s k = true) : ∀ d k, k + d ≤ 7 → pu_cn S k d ≤ pu_cn s k d ∧ pu_pd S s p k d = p ^ pu_cn S k d * (10 - p) ^ (pu_cn s k d - pu_cn S k d) := by
  intro d
  induction d with
  | zero => intro k hk; exact ⟨Nat.le_refl _, by simp [pu_pd, pu_cn]⟩
  | succ d ih =>
    intro k hk
    obtain ⟨g1, g2⟩ := ih (k + 1) (by omega)
    have hk7 := h k (by omega)
    show (if Nat.testBit S k then 1 else 0) + pu_cn S (k + 1) d ≤ (if Nat.testBit s k then 1 else 0) + pu_cn s (k + 1) d ∧ (if Nat.testBit S k then p else if Nat.testBit s k then 10 - p else 1) * pu_pd S s p (k + 1) d = p ^ ((if Nat.testBit S k then 1 else 0) + pu_cn S (k + 1) d) * (10 - p) ^ ((if Nat.testBit s k then 1 else 0) + pu_cn s (k + 1) d - ((if Nat.testBit S k then 1 else 0) + pu_cn S (k + 1) d))
    rw [g2]
    cases h1 : Nat.testBit S k with
    | true =>
      rw [hk7 h1]
      simp only [if_true]
      refine ⟨by omega, ?_⟩
      rw [show 1 + pu_cn s (k + 1) d - (1 + pu_cn S (k + 1) d) = pu_cn s (k + 1) d - pu_cn S (k + 1) d by omega, Nat.add_comm 1 (pu_cn S (k + 1) d), Nat.pow_succ, ← Nat.mul_assoc, Nat.mul_comm p]
    | false =>
      cases h2 : Nat.testBit s k with
      | true =>
        simp only [if_true, Bool.false_eq_true, if_false]
        refine ⟨by omega, ?_⟩
        rw [show 1 + pu_cn s (k + 1) d - (0 + pu_cn S (k + 1) d) = (pu_cn s (k + 1) d - pu_cn S (k + 1) d) + 1 by omega, Nat.zero_add, Nat.pow_succ, ← Nat.mul_assoc, Nat.mul_comm (10 - p), Nat.mul_assoc, Nat.mul_comm (10 - p), ← Nat.mul_assoc]
      | false =>
        simp only [Bool.false_eq_true, if_false]
        exact ⟨by omega, by rw [Nat.zero_add, Nat.zero_add, Nat.one_mul]⟩
theorem pu_odds {m : ob_B} {n S s p : Nat} {a w : Int32} {u v : Int64} (K : ob_B → Int32 → Int32 → Int32 → Int32 → Int64 → Int64 → Int32 → Option (Int64)) (hS : S < 128) (hs : s < 128) (hp : p ≤ 10) (hn : n ≤ 7) (h12 : m.2 12 2 = nI n) : ∀ (d k A : Nat), k + d = n → ∀ fu, d < fu →
    fd_X5_lies_L112 K fu m a (nI p) w (nI s) u v (nI S) (lN A) (nI k) = fd_X5_lies_L168 K m a (nI p) w (nI s) u v (nI S) (lN (A * pu_pd S s p k d)) := by
  intro d
  induction d with
  | zero =>
    intro k A hk fu h1
    obtain ⟨fu, rfl⟩ : ∃ x, fu = x + 1 := ⟨fu - 1, by omega⟩
    have hk' : k = n := by omega
    subst hk'
    rw [fd_X5_lies_L112, pu_c2, h12, if_pos pu_le]
    show _ = fd_X5_lies_L168 K m a (nI p) w (nI s) u v (nI S) (lN (A * 1))
    rw [Nat.mul_one]
  | succ d ih =>
    intro k A hk fu h1
    obtain ⟨fu, rfl⟩ : ∃ x, fu = x + 1 := ⟨fu - 1, by omega⟩
    have e10 : (10 : Int32) - nI p = nI (10 - p) := pk_sub (a := 10) (b := p) hp
    rw [fd_X5_lies_L112, pu_c2, h12, if_neg (pu_nle (by omega) (by omega)), fd_X5_has, fd_X5_has, pu_hb S hS k (by omega), pu_hb s hs k (by omega), e10, nI_l (by omega), nI_l (by omega)]
    simp only [pu_lt, nI_1, lN_mul]
    have hpd : pu_pd S s p k (d + 1) = (if Nat.testBit S k then p else if Nat.testBit s k then 10 - p else 1) * pu_pd S s p (k + 1) d := rfl
    rw [hpd]
    have h01 : ¬ ((0 : Int32) = 1) := by decide
    cases h1 : Nat.testBit S k with
    | true =>
      simp only [if_true]
      rw [pu_b1, if_neg pu_10, ih (k + 1) (A * p) (by omega) fu (by omega), Nat.mul_assoc]
    | false =>
      simp only [Bool.false_eq_true, if_false]
      rw [if_neg h01, pu_b1, if_pos rfl]
      cases h2 : Nat.testBit s k with
      | true =>
        simp only [if_true]
        rw [pu_b1, if_neg pu_10, ih (k + 1) (A * (10 - p)) (by omega) fu (by omega), Nat.mul_assoc]
      | false =>
        simp only [Bool.false_eq_true, if_false]
        rw [if_neg h01, pu_b1, if_pos rfl, show (1 : Int64) = lN 1 from rfl, lN_mul, ih (k + 1) (A * 1) (by omega) fu (by omega), Nat.mul_assoc]
theorem pu_pdle {S s p : Nat} (hp : p ≤ 10) : ∀ d k, pu_pd S s p k d ≤ 10 ^ d := by
  intro d
  induction d with
  | zero => intro k; exact Nat.le_refl _
  | succ d ih =>
    intro k
    show (if Nat.testBit S k then p else if Nat.testBit s k then 10 - p else 1) * pu_pd S s p (k + 1) d ≤ 10 ^ (d + 1)
    rw [Nat.pow_succ, Nat.mul_comm (10 ^ d)]
    refine Nat.mul_le_mul ?_ (ih (k + 1))
    split
    · exact hp
    · split
      · omega
      · omega
theorem pu_p7 {d : Nat} (h : d ≤ 7) : 10 ^ d ≤ 10000000 ∧ 1 ≤ 10 ^ d := by
  have : d = 0 ∨ d = 1 ∨ d = 2 ∨ d = 3 ∨ d = 4 ∨ d = 5 ∨ d = 6 ∨ d = 7 := by omega
  rcases this with rfl | rfl | rfl | rfl | rfl | rfl | rfl | rfl <;> decide
theorem pu_downs {m : ob_B} {s : Nat} {a b w : Int32} {u : Int64} (hs : s < 128) : ∀ (d k A : Nat), k + d = pu_pc s → ∀ fu, d < fu → fd_X5_lies_L62 fu m a b w (nI s) u (lN A) (nI k) = fd_X5_lies_L89 2000 m a b w (nI s) u (lN (A * 10 ^ d)) 0 := by
  have h7 := pu_pc7 s
  intro d
  induction d with
  | zero =>
    intro k A hk fu h1
    obtain ⟨fu, rfl⟩ : ∃ x, fu = x + 1 := ⟨fu - 1, by omega⟩
    rw [fd_X5_lies_L62, pu_bt s hs, pu_b1, if_pos (by rw [show k = pu_pc s by omega]; exact pu_le), Nat.pow_zero, Nat.mul_one]
  | succ d ih =>
    intro k A hk fu h1
    obtain ⟨fu, rfl⟩ : ∃ x, fu = x + 1 := ⟨fu - 1, by omega⟩
    rw [fd_X5_lies_L62, pu_bt s hs, pu_b1, if_neg (pu_nle (by omega) (by omega)), pu_lt, pu_lt, nI_1, show (10 : Int64) = lN 10 from rfl, lN_mul, ih (k + 1) (A * 10) (by omega) fu (by omega), Nat.pow_succ, Nat.mul_assoc, Nat.mul_comm 10]
theorem pu_liess {m y x : ob_B} {n s p P : Nat} {w : Int32} {V : Int64} (ho : pu_ok (m.2 12) n) (hr : pu_rr y (m.2 12) n) (hs : s < 2 ^ n) (hp : p ≤ 10) : ∀ (d k U : Nat), k + d = s + 1 → U ≤ k * 10000000 → ∀ fu1 fu5, d < fu1 → d < fu5 →
    ∃ U', U' ≤ 1280000000 ∧ fd_X4_lies_L61 fu1 x y (nI P) (nI p) w (nI s) (nI (pu_pc s)) (lN U) (nI k) = fd_X4_lies_L128 x y w (nI (pu_pc s)) (lN U') ∧ fd_X5_lies_L89 fu5 m (nI P) (nI p) w (nI s) (lN U) V (nI k) = fd_X5_lies_L205 m w (lN U') V := by
  have hn := ho.1
  have hpw := pu_pw hn
  have hs7 : s < 128 := by omega
  have hcs := pu_cnp n (by omega) s hs7 hs
  have hc7 := pu_pc7 s
  intro d
  induction d with
  | zero =>
    intro k U hk hU fu1 fu5 h1 h5
    obtain ⟨fu1, rfl⟩ : ∃ x, fu1 = x + 1 := ⟨fu1 - 1, by omega⟩
    obtain ⟨fu5, rfl⟩ : ∃ x, fu5 = x + 1 := ⟨fu5 - 1, by omega⟩
    have hlt : nI s < nI k := nI_lt (by omega) (by omega)
    refine ⟨U, by omega, ?_, ?_⟩
    · rw [fd_X4_lies_L61, if_pos hlt]
    · rw [fd_X5_lies_L89, if_pos hlt]
  | succ d ih =>
    intro k U hk hU fu1 fu5 h1 h5
    obtain ⟨fu1, rfl⟩ : ∃ x, fu1 = x + 1 := ⟨fu1 - 1, by omega⟩
    obtain ⟨fu5, rfl⟩ : ∃ x, fu5 = x + 1 := ⟨fu5 - 1, by omega⟩
    have hlt : ¬ nI s < nI k := nI_nlt (by omega) (by omega)
    have hk7 : k < 128 := by omega
    have hck := pu_cnp n (by omega) k hk7 (by omega)
    rw [fd_X4_lies_L61, fd_X5_lies_L89, if_neg hlt, if_neg hlt]
    by_cases hsub : nI k &&& nI s = nI k
    · obtain ⟨g1, g2⟩ := pu_pdp (p := p) (pu_sbs k hk7 s hs7 hsub) n 0 (by omega)
      rw [hcs, hck] at g1 g2
      have hle := pu_pdle (S := k) (s := s) hp n 0
      have h10 := pu_p7 hn
      obtain ⟨o, q, hq, e1, e2, e3⟩ := pu_next ho hr (nI k)
      have hod := pu_odds (a := nI P) (w := w) (u := lN U) (v := V) (fd_X5_lies_L89 fu5) hk7 hs7 hp hn ho.2.1 n 0 1 (by omega) 2000 (by omega)
      have hod' : fd_X5_lies_L112 (fd_X5_lies_L89 fu5) 2000 m (nI P) (nI p) w (nI s) (lN U) V (nI k) 1 0 = fd_X5_lies_L168 (fd_X5_lies_L89 fu5) m (nI P) (nI p) w (nI s) (lN U) V (nI k) (lN (pu_pd k s p 0 n)) := by rw [Nat.one_mul] at hod; exact hod
      have e10 : (10 : Int32) - nI p = nI (10 - p) := pk_sub (a := 10) (b := p) hp
      rw [if_pos hsub, if_pos ((pu_sub k hk7 s hs7).mpr hsub), e1, pu_b1, hod', fd_X5_lies_L168, e2, pu_b1, e3, pu_b1]
      simp only [pu_lt, nI_1]
      by_cases hqp : nI q = nI P
      · have hk7' := pu_pc7 k
        rw [if_pos hqp, if_pos hqp, pu_bc k hk7, pu_b1, pu_pow (by omega) (by omega), pu_b1, e10, pk_sub g1, pu_pow (by omega) (by omega), pu_b1, lN_mul, ← g2, lN_add]
        exact ih (k + 1) (U + pu_pd k s p 0 n) (by omega) (by omega) fu1 fu5 (by omega) (by omega)
      · rw [if_neg hqp, if_neg hqp, Int64.add_zero]
        exact ih (k + 1) U (by omega) (Nat.le_trans hU (Nat.mul_le_mul_right _ (Nat.le_succ k))) fu1 fu5 (by omega) (by omega)
    · rw [if_neg hsub, if_neg (fun q => hsub ((pu_sub k hk7 s hs7).mp q)), pu_lt, pu_lt, nI_1]
      exact ih (k + 1) U (by omega) (Nat.le_trans hU (Nat.mul_le_mul_right _ (Nat.le_succ k))) fu1 fu5 (by omega) (by omega)
theorem pu_lies {m y x : ob_B} {n : Nat} (ho : pu_ok (m.2 12) n) (hr : pu_rr y (m.2 12) n) (a c e : Int32) : ∃ r, fd_X4_lies x y a c e = some r ∧ fd_X5_lies m a c e = some r := by
  have hn := ho.1
  unfold fd_X4_lies fd_X5_lies
  rw [pu_within]
  rcases pu_nor (x := x) ho hr with ⟨-, h1, h5⟩ | ⟨-, h1, h5⟩
  · rw [h1, h5, pu_b1, pu_b1, if_neg pu_10, if_pos rfl]
    exact ⟨_, rfl, rfl⟩
  · rw [h1, h5, pu_b1, pu_b1, if_pos rfl, if_neg pu_10]
    rcases pu_isPlace a with ⟨g1, g5⟩ | ⟨P, hP, rfl, g1, g5⟩
    · rw [g1, g5, pu_b1, pu_b1, if_pos rfl, if_pos rfl]
      exact ⟨_, rfl, rfl⟩
    · rw [g1, g5, pu_b1, pu_b1, if_neg pu_10, if_neg pu_10]
      rcases pu_in c 0 10 with g | ⟨g, k1, k2⟩
      · rw [g, pu_b1, pu_b1, if_pos rfl, if_pos rfl]
        exact ⟨_, rfl, rfl⟩
      · obtain ⟨p, -, hp, rfl⟩ := pu_rng (lo := 0) (hi := 10) (by omega) (by omega) k1 k2
        rw [g, pu_b1, pu_b1, if_neg pu_10, if_neg pu_10]
        rcases pu_either e with ⟨e1, e5⟩ | ⟨he, e1, e5⟩
        · rw [e1, e5, pu_b1, pu_b1, if_pos rfl, if_pos rfl]
          exact ⟨_, rfl, rfl⟩
        · obtain ⟨s, s1, s2, s3, s4⟩ := pu_open ho hr
          have hpw := pu_pw hn
          have hs7 : s < 128 := by omega
          have hc7 := pu_pc7 s
          have h10 := pu_p7 hc7
          rw [e1, e5, pu_b1, pu_b1, if_neg pu_10, if_neg pu_10, s3, s4, pu_b1, pu_b1, pu_bc s hs7, pu_b1]
          have hd := pu_downs (m := m) (a := nI P) (b := nI p) (w := e) (u := lN 0) hs7 (pu_pc s) 0 1 (by omega) 2000 (by omega)
          rw [Nat.one_mul] at hd
          have hd' : fd_X5_lies_L62 2000 m (nI P) (nI p) e (nI s) 0 1 0 = fd_X5_lies_L89 2000 m (nI P) (nI p) e (nI s) (lN 0) (lN (10 ^ pu_pc s)) (nI 0) := hd
          obtain ⟨U, hU, q1, q2⟩ := pu_liess (x := x) (P := P) (w := e) (V := lN (10 ^ pu_pc s)) ho hr s1 hp (s + 1) 0 0 (by omega) (by omega) 2000 2000 (by omega) (by omega)
          have q1' : fd_X4_lies_L61 2000 x y (nI P) (nI p) e (nI s) (nI (pu_pc s)) 0 0 = fd_X4_lies_L128 x y e (nI (pu_pc s)) (lN U) := q1
          have e10 : fd_X4_power 10 (nI (pu_pc s)) = some (lN (10 ^ pu_pc s)) := pu_pow (b := 10) (by omega) (by omega)
          have t31 : (2 : Nat) ^ 31 = 2147483648 := by decide
          have t24 : (2 : Nat) ^ 24 = 16777216 := by decide
          have h31 : U < 2 ^ 31 := by omega
          have h24 : 10 ^ pu_pc s < 2 ^ 24 := by omega
          have hg4 : fd_X4_commonDivisor (lN (10 ^ pu_pc s)) (lN U) = some (lN (Nat.gcd (10 ^ pu_pc s) U)) := pu_gcd4 31 (10 ^ pu_pc s) U 0 (by omega) (by omega) h31 (by omega) 2000 (by omega)
          have hg5 := pu_gcd5 (m := m) (w := e) (u := lN U) (v := lN (10 ^ pu_pc s)) 24 U (10 ^ pu_pc s) (by omega) (by omega) h24 2000 (by omega)
          have hgp : 0 < Nat.gcd (10 ^ pu_pc s) U := Nat.gcd_pos_of_pos_left _ (by omega)
          have hgl : Nat.gcd (10 ^ pu_pc s) U ≤ 10 ^ pu_pc s := Nat.gcd_le_left _ (by omega)
          rw [q1', hd', q2, fd_X4_lies_L128, e10, pu_b1, hg4, pu_b1, fd_X5_lies_L205, hg5, fd_X5_lies_L238, Nat.gcd_comm U]
          have hge : (0 : Int32) ≤ lg_cmp (lN (Nat.gcd (10 ^ pu_pc s) U)) 1 := (lg_cmp_ge _ _).mpr ((pk_lLE (a := 1) (by omega) (by omega)).mpr (by omega))
          rw [if_pos hge, if_neg (pu_lne hgp (by omega)), if_neg (pu_lne hgp (by omega))]
          rcases he with rfl | rfl
          · rw [if_pos rfl]; exact ⟨_, rfl, rfl⟩
          · rw [if_neg pu_10]; exact ⟨_, rfl, rfl⟩
