theorem pu_cp {α : Type} {f g : Nat → α} {j : Nat} (h : j < 7) : va_cpy f g (Int32.toNatClampNeg 0) (Int32.toNatClampNeg 0) (Int32.toNatClampNeg 7) j = f j := by
  have := pk_cpy_in (f := f) (g := g) (sp := 0) (dp := 0) (n := 7) (j := j) (by omega) (by omega)
  rw [show 0 + (j - 0) = j by omega] at this
  exact this
theorem pu_become (t y : ob_B) : ∃ t', fd_X1_become t y = some t' ∧ ∀ f n, n ≤ 7 → pu_rr y f n → pu_rr t' f n := by
  refine ⟨_, rfl, ?_⟩
  intro f n hn hr
  obtain ⟨r0, r1, r4, r2, r3, r5, r6, ra⟩ := hr
  refine ⟨r0, r1, r4, r2, r3, r5, r6, fun j hj => ?_⟩
  obtain ⟨a7, a8, a9, a10, a11⟩ := ra j hj
  exact ⟨(pu_cp (by omega)).trans a7, (pu_cp (by omega)).trans a8, (pu_cp (by omega)).trans a9, (pu_cp (by omega)).trans a10, (pu_cp (by omega)).trans a11⟩
/-- what lay does -/
def pu_ly (f h : Nat → Int32) (a c k : Nat) : Nat → Int32 := fun i => if c ≤ i ∧ i < c + k then f (a + (i - c)) else h i
theorem pu_ly0 (f h : Nat → Int32) (a c : Nat) : pu_ly f h a c 0 = h := by
  funext i
  unfold pu_ly
  rw [if_neg (by omega)]
theorem pu_lys (f h : Nat → Int32) (a c k : Nat) : upd (pu_ly f h a c k) (c + k) (f (a + k)) = pu_ly f h a c (k + 1) := by
  funext i
  unfold upd pu_ly
  by_cases h1 : i = c + k
  · rw [if_pos h1, if_pos (by omega), h1, show c + k - c = k by omega]
  · rw [if_neg h1]
    by_cases h2 : c ≤ i ∧ i < c + k
    · rw [if_pos h2, if_pos (by omega)]
    · rw [if_neg h2, if_neg (by omega)]
theorem pu_lays (nf nh : Nat) (f h : Nat → Int32) (a c : Nat) (hf : a + 42 ≤ nf) (hh : c + 42 ≤ nh) (hnf : nf < 2147483648) (hnh : nh < 2147483648) : ∀ d k, k + d = 42 → ∀ fu, d < fu → fd_X5_lay_L3 nf nh fu f (pu_ly f h a c k) (nI a) (nI c) (nI k) = some (pu_ly f h a c 42) := by
  intro d
  induction d with
  | zero =>
    intro k hk fu hfu
    obtain ⟨fu, rfl⟩ : ∃ x, fu = x + 1 := ⟨fu - 1, by omega⟩
    have hk' : k = 42 := by omega
    subst hk'
    rw [fd_X5_lay_L3, if_pos (by decide)]
  | succ d ih =>
    intro k hk fu hfu
    obtain ⟨fu, rfl⟩ : ∃ x, fu = x + 1 := ⟨fu - 1, by omega⟩
    have hlt : ¬ (42 : Int32) ≤ nI k := pu_nle (n := 42) (by omega) (by omega)
    rw [fd_X5_lay_L3, if_neg hlt, nI_add, nI_add, pu_ck (a + k) nf _ (by omega) (by omega), pu_lt, pu_ck (c + k) nh _ (by omega) (by omega), pu_lt, pu_lt, pu_cl (by omega), pu_cl (by omega), nI_1, pu_lys]
    exact ih (k + 1) (by omega) fu (by omega)
theorem pu_lay (nf nh : Nat) (f h : Nat → Int32) (a c : Nat) (hf : a + 42 ≤ nf) (hh : c + 42 ≤ nh) (hnf : nf < 2147483648) (hnh : nh < 2147483648) : fd_X5_lay nf nh f h (nI a) (nI c) = some (pu_ly f h a c 42) := by
  have := pu_lays nf nh f h a c hf hh hnf hnh 42 0 (by omega) 2000 (by omega)
  rw [pu_ly0] at this
  exact this
theorem pu_ly_in {f h : Nat → Int32} {a c i : Nat} (hi : i < 42) : pu_ly f h a c 42 (c + i) = f (a + i) := by
  unfold pu_ly
  rw [if_pos (by omega), show c + i - c = i by omega]
theorem pu_ok_cg {f g : Nat → Int32} {n : Nat} (h : pu_ok f n) (e : ∀ i, i < 42 → g i = f i) : pu_ok g n := by
  obtain ⟨a, b, c, d⟩ := h
  refine ⟨a, by rw [e 2 (by omega)]; exact b, by rw [e 0 (by omega)]; exact c, fun j hj => ?_⟩
  rw [e (7 + j) (by omega), e (14 + j) (by omega), e (21 + j) (by omega)]
  exact d j hj
theorem pu_rr_cg {b : ob_B} {f g : Nat → Int32} {n : Nat} (hn : n ≤ 7) (h : pu_rr b f n) (e : ∀ i, i < 42 → g i = f i) : pu_rr b g n := by
  obtain ⟨r0, r1, r4, r2, r3, r5, r6, ra⟩ := h
  refine ⟨by rw [e 0 (by omega)]; exact r0, by rw [e 1 (by omega)]; exact r1, by rw [e 2 (by omega)]; exact r4, by rw [e 3 (by omega)]; exact r2, by rw [e 4 (by omega)]; exact r3, by rw [e 5 (by omega)]; exact r5, by rw [e 6 (by omega)]; exact r6, fun j hj => ?_⟩
  rw [e (7 + j) (by omega), e (14 + j) (by omega), e (21 + j) (by omega), e (28 + j) (by omega), e (35 + j) (by omega)]
  exact ra j hj
/-- the reference's state but for what it only writes on -/
def pu_sm (m m' : ob_B) : Prop := m'.1 = m.1 ∧ ∀ k, k ≠ 13 → k ≠ 14 → k ≠ 21 → k ≠ 22 → m'.2 k = m.2 k
theorem pu_sm_rf {m : ob_B} : pu_sm m m := ⟨rfl, fun _ _ _ _ _ => rfl⟩
theorem pu_sm_tr {a b c : ob_B} (h : pu_sm a b) (g : pu_sm b c) : pu_sm a c := ⟨g.1.trans h.1, fun k h1 h2 h3 h4 => (g.2 k h1 h2 h3 h4).trans (h.2 k h1 h2 h3 h4)⟩
theorem pu_UA (f : Nat → Nat → Int32) (k : Nat) (g : Nat → Int32) : ob_U f k g k = g := by unfold ob_U; rw [if_pos rfl]
theorem pu_UN (f : Nat → Nat → Int32) {k j : Nat} (g : Nat → Int32) (h : j ≠ k) : ob_U f k g j = f j := by unfold ob_U; rw [if_neg h]
theorem pu_sm14 (m : ob_B) (g : Nat → Int32) : pu_sm m (ob_A m 14 g) := ⟨rfl, fun k _ h _ _ => pu_UN _ _ h⟩
theorem pu_sm22 (m : ob_B) (g : Nat → Int32) : pu_sm m (ob_A m 22 g) := ⟨rfl, fun k _ _ _ h => pu_UN _ _ h⟩
theorem pu_sm21 (m : ob_B) (g : Nat → Int32) : pu_sm m (ob_A m 21 g) := ⟨rfl, fun k _ _ h _ => pu_UN _ _ h⟩
theorem pu_begin {m : ob_B} {n : Nat} (ho : pu_ok (m.2 12) n) : ∃ m', fd_X5_begin m = some m' ∧ pu_sm m m' ∧ (∀ i, i < 42 → m'.2 14 i = m.2 12 i) ∧ pu_ok (m'.2 14) n ∧ ∀ b, pu_rr b (m.2 12) n → pu_rr b (m'.2 14) n := by
  have h1 := pu_lay 42 42 (m.2 12) (m.2 14) 0 0 (by omega) (by omega) (by omega) (by omega)
  have e : ∀ i, i < 42 → (ob_A m 14 (pu_ly (m.2 12) (m.2 14) 0 0 42)).2 14 i = m.2 12 i := fun i hi => by
    have := pu_ly_in (f := m.2 12) (h := m.2 14) (a := 0) (c := 0) hi
    rw [Nat.zero_add] at this
    exact this
  refine ⟨ob_A m 14 (pu_ly (m.2 12) (m.2 14) 0 0 42), ?_, pu_sm14 _ _, e, pu_ok_cg ho e, fun b hb => pu_rr_cg ho.1 hb e⟩
  rw [fd_X5_begin]
  show ob_b1 (fd_X5_lay 42 42 (m.2 12) (m.2 14) (nI 0) (nI 0)) _ = _
  rw [h1, pu_b1, pu_lt]
theorem pu_gos {N n : Nat} (hN : N < 2147483648) : ∀ (d k : Nat) (b m : ob_B), k + d = N → pu_ok (m.2 14) n → pu_rr b (m.2 14) n → ∀ fu1 fu5, d < fu1 → d < fu5 →
    ∃ b' m', fd_X1_passHours_L2 fu1 b (nI N) (nI k) = some b' ∧ fd_X5_goOn_L2 fu5 m (nI N) (nI k) = some (m'.2 14 0, m') ∧ pu_sm m m' ∧ pu_ok (m'.2 14) n ∧ pu_rr b' (m'.2 14) n ∧ m'.2 14 1 = m.2 14 1 := by
  intro d
  induction d with
  | zero =>
    intro k b m hk ho hr fu1 fu5 h1 h5
    obtain ⟨fu1, rfl⟩ : ∃ x, fu1 = x + 1 := ⟨fu1 - 1, by omega⟩
    obtain ⟨fu5, rfl⟩ : ∃ x, fu5 = x + 1 := ⟨fu5 - 1, by omega⟩
    have hk' : k = N := by omega
    subst hk'
    refine ⟨b, m, ?_, ?_, pu_sm_rf, ho, hr, rfl⟩
    · rw [fd_X1_passHours_L2, if_pos pu_le]
    · rw [fd_X5_goOn_L2, if_pos pu_le, fd_X5_goOn_L21, pu_c0]
  | succ d ih =>
    intro k b m hk ho hr fu1 fu5 h1 h5
    obtain ⟨fu1, rfl⟩ : ∃ x, fu1 = x + 1 := ⟨fu1 - 1, by omega⟩
    obtain ⟨fu5, rfl⟩ : ∃ x, fu5 = x + 1 := ⟨fu5 - 1, by omega⟩
    have hlt : ¬ nI N ≤ nI k := pu_nle (by omega) hN
    obtain ⟨e, b1, f1, p1, p5, p3, p4, p6⟩ := pu_pass ho hr
    obtain ⟨b', m', g1, g2, g3, g4, g5, g6⟩ := ih (k + 1) b1 (ob_A m 14 f1) (by omega) p4 p3 fu1 fu5 (by omega) (by omega)
    refine ⟨b', m', ?_, ?_, pu_sm_tr (pu_sm14 m f1) g3, g4, g5, g6.trans p6⟩
    · rw [fd_X1_passHours_L2, if_neg hlt, p1, pu_b2, pu_lt, nI_1]
      exact g1
    · rw [fd_X5_goOn_L2, if_neg hlt, p5, pu_b2, pu_lt, pu_lt, nI_1]
      exact g2
theorem pu_go {N n : Nat} (hN : N ≤ 60) {b m : ob_B} (ho : pu_ok (m.2 14) n) (hr : pu_rr b (m.2 14) n) : ∃ b' m', fd_X1_passHours b (nI N) = some b' ∧ fd_X5_goOn m (nI N) = some (m'.2 14 0, m') ∧ pu_sm m m' ∧ pu_ok (m'.2 14) n ∧ pu_rr b' (m'.2 14) n ∧ m'.2 14 1 = m.2 14 1 :=
  pu_gos (by omega) N 0 b m (by omega) ho hr 2000 2000 (by omega) (by omega)
/-- a number's two bounds -/
theorem pu_in (x a c : Int32) : fd_X5_in x a c = some 0 ∨ (fd_X5_in x a c = some 1 ∧ ¬ x < a ∧ ¬ c < x) := by
  unfold fd_X5_in
  by_cases h1 : x < a
  · rw [if_pos h1]; exact Or.inl rfl
  · rw [if_neg h1]
    by_cases h2 : c < x
    · rw [if_pos h2]; exact Or.inl rfl
    · rw [if_neg h2]; exact Or.inr ⟨rfl, h1, h2⟩
theorem pu_within (x a c : Int32) : fd_X4_isWithin x a c = fd_X5_in x a c := rfl
theorem pu_rng {x : Int32} {lo hi : Nat} (hlo : lo ≤ hi) (hhi : hi < 2147483648) (h1 : ¬ x < nI lo) (h2 : ¬ nI hi < x) : ∃ j, lo ≤ j ∧ j ≤ hi ∧ x = nI j := by
  have g1 : (nI lo).toInt ≤ x.toInt := by
    rcases Int.lt_or_le x.toInt (nI lo).toInt with h | h
    · exact absurd (Int32.lt_iff_toInt_lt.mpr h) h1
    · exact h
  have g2 : x.toInt ≤ (nI hi).toInt := by
    rcases Int.lt_or_le (nI hi).toInt x.toInt with h | h
    · exact absurd (Int32.lt_iff_toInt_lt.mpr h) h2
    · exact h
  rw [nI_toInt hhi] at g2
  rw [nI_toInt (by omega)] at g1
  refine ⟨x.toInt.toNat, by omega, by omega, Int32.toInt_inj.mp ?_⟩
  rw [nI_toInt (by omega)]
  omega
/-- is there a route -/
theorem pu_nor {m y x : ob_B} {n : Nat} (ho : pu_ok (m.2 12) n) (hr : pu_rr y (m.2 12) n) : (n = 0 ∧ fd_X4_noRoute x y = some 1 ∧ fd_X5_isRoute m = some 0) ∨ (0 < n ∧ fd_X4_noRoute x y = some 0 ∧ fd_X5_isRoute m = some 1) := by
  have h2 := ho.2.1
  have hn := ho.1
  have r4 : y.1 4 = m.2 12 2 := hr.2.2.1
  unfold fd_X4_noRoute fd_X5_isRoute
  rw [pu_c2, r4, h2]
  by_cases h : n = 0
  · subst h
    exact Or.inl ⟨rfl, rfl, rfl⟩
  · exact Or.inr ⟨by omega, by rw [if_neg (nI_ne0 (by omega) (by omega))], by rw [if_neg (nI_nle (by omega) (by omega))]⟩
/-- is it an oath -/
theorem pu_one {m y x : ob_B} {n : Nat} (ho : pu_ok (m.2 12) n) (hr : pu_rr y (m.2 12) n) (a : Int32) : (fd_X4_isOath x y a = some 0 ∧ fd_X5_isOne m a = some 0) ∨ (∃ j, j < n ∧ a = nI j ∧ fd_X4_isOath x y a = some 1 ∧ fd_X5_isOne m a = some 1) := by
  have h2 := ho.2.1
  have hn := ho.1
  have r4 : y.1 4 = m.2 12 2 := hr.2.2.1
  have z0 : ¬ ¬ ((0 : Int32) &&& 1 = 0) := by decide
  have z1 : ¬ ¬ ((1 : Int32) &&& 1 = 1) := by decide
  unfold fd_X4_isOath fd_X5_isOne fd_X5_in
  rw [pu_c2, r4, h2]
  by_cases h : a < 0
  · rw [if_pos h, if_pos h, pu_b1, if_neg z0]
    exact Or.inl ⟨rfl, rfl⟩
  · rw [if_neg h, if_neg h]
    obtain ⟨j, hj, rfl⟩ := nI_of h
    have e : (nI n - 1 < nI j) ↔ n ≤ j := by
      rw [Int32.lt_iff_toInt_lt]
      have : (nI n - 1).toInt = (n : Int) - 1 := pk_sub_toInt (a := n) (b := 1) (by omega) (by omega)
      rw [this, nI_toInt hj]
      omega
    by_cases h3 : n ≤ j
    · rw [if_pos ((nI_leI (by omega) hj).mpr h3), if_pos (e.mpr h3), pu_b1, if_neg z0]
      exact Or.inl ⟨rfl, rfl⟩
    · rw [if_neg (fun q => h3 ((nI_leI (by omega) hj).mp q)), if_neg (fun q => h3 (e.mp q)), pu_b1, if_neg z1]
      exact Or.inr ⟨j, by omega, rfl, rfl, rfl⟩
theorem pu_10 : ¬ (1 : Int32) = 0 := by decide
theorem pu_ahead {m y x t : ob_B} {n : Nat} (ho : pu_ok (m.2 12) n) (hr : pu_rr y (m.2 12) n) (a : Int32) : ∃ r t' m', fd_X4_ahead x y t a = some (r, t') ∧ fd_X5_ahead m a = some (r, m') ∧ pu_sm m m' := by
  unfold fd_X4_ahead fd_X5_ahead
  rw [pu_within]
  rcases pu_nor (x := x) ho hr with ⟨-, h1, h5⟩ | ⟨-, h1, h5⟩
  · rw [h1, h5, pu_b1, pu_b1, if_neg pu_10, if_pos rfl]
    exact ⟨_, _, _, rfl, rfl, pu_sm_rf⟩
  · rw [h1, h5, pu_b1, pu_b1, if_pos rfl, if_neg pu_10]
    rcases pu_in a 0 60 with g | ⟨g, g1, g2⟩
    · rw [g, pu_b1, pu_b1, if_pos rfl, if_pos rfl]
      exact ⟨_, _, _, rfl, rfl, pu_sm_rf⟩
    · obtain ⟨N, -, hN, rfl⟩ := pu_rng (lo := 0) (hi := 60) (by omega) (by omega) g1 g2
      obtain ⟨t1, b1, b2⟩ := pu_become t y
      obtain ⟨m1, c1, c2, c3, c4, c5⟩ := pu_begin ho
      obtain ⟨t2, m2, d1, d2, d3, d4, d5, d6⟩ := pu_go hN c4 (c5 _ (b2 _ _ ho.1 hr))
      rw [g, pu_b1, pu_b1, if_neg pu_10, if_neg pu_10, b1, c1, pu_b1, pu_b1, d1, d2, pu_b1, pu_b2]
      exact ⟨_, _, _, by rw [show t2.1 0 = m2.2 14 0 from d5.1], rfl, pu_sm_tr c2 d3⟩
theorem pu_comesTo {m y x t : ob_B} {n : Nat} (ho : pu_ok (m.2 12) n) (hr : pu_rr y (m.2 12) n) (a c : Int32) : ∃ r t' m', fd_X4_comesTo x y t a c = some (r, t') ∧ fd_X5_comesTo m a c = some (r, m') ∧ pu_sm m m' := by
  have hn := ho.1
  unfold fd_X4_comesTo fd_X5_comesTo
  rw [pu_within]
  rcases pu_one (x := x) ho hr a with ⟨h1, h5⟩ | ⟨j, hj, rfl, h1, h5⟩
  · rw [h1, h5, pu_b1, pu_b1, if_pos rfl, if_pos rfl]
    exact ⟨_, _, _, rfl, rfl, pu_sm_rf⟩
  · rw [h1, h5, pu_b1, pu_b1, if_neg pu_10, if_neg pu_10]
    rcases pu_in c 0 60 with g | ⟨g, g1, g2⟩
    · rw [g, pu_b1, pu_b1, if_pos rfl, if_pos rfl]
      exact ⟨_, _, _, rfl, rfl, pu_sm_rf⟩
    · obtain ⟨N, -, hN, rfl⟩ := pu_rng (lo := 0) (hi := 60) (by omega) (by omega) g1 g2
      obtain ⟨t1, b1, b2⟩ := pu_become t y
      obtain ⟨m1, c1, c2, c3, c4, c5⟩ := pu_begin ho
      obtain ⟨t2, m2, d1, d2, d3, d4, d5, d6⟩ := pu_go hN c4 (c5 _ (b2 _ _ ho.1 hr))
      rw [g, pu_b1, pu_b1, if_neg pu_10, if_neg pu_10, b1, c1, pu_b1, pu_b1, d1, d2, pu_b1, pu_b2]
      rw [pu_35, pu_ck j 7 _ (by omega) (by omega), pu_ck (35 + j) 42 _ (by omega) (by omega), pu_cl (by omega), pu_cl (by omega)]
      exact ⟨_, _, _, by rw [(d5.2.2.2.2.2.2.2 j hj).2.2.2.2], rfl, pu_sm_tr c2 d3⟩
theorem pu_kepts {x y : ob_B} {n j : Nat} (hj : j < n) : ∀ (d k : Nat) (t m : ob_B), k + d = 61 → pu_ok (m.2 14) n → pu_rr t (m.2 14) n → ∀ fu1 fu5, d < fu1 → d < fu5 →
    ∃ r t' m', fd_X4_kept_L24 fu1 x y t (nI j) (nI k) = some (r, t') ∧ fd_X5_kept_L17 fu5 m (nI j) (nI k) = some (r, m') ∧ pu_sm m m' := by
  intro d
  induction d with
  | zero =>
    intro k t m hk ho hr fu1 fu5 h1 h5
    obtain ⟨fu1, rfl⟩ : ∃ x, fu1 = x + 1 := ⟨fu1 - 1, by omega⟩
    obtain ⟨fu5, rfl⟩ : ∃ x, fu5 = x + 1 := ⟨fu5 - 1, by omega⟩
    have hk' : k = 61 := by omega
    subst hk'
    rw [fd_X4_kept_L24, fd_X5_kept_L17, if_pos (by decide), if_pos (by decide)]
    exact ⟨_, _, _, rfl, rfl, pu_sm_rf⟩
  | succ d ih =>
    intro k t m hk ho hr fu1 fu5 h1 h5
    obtain ⟨fu1, rfl⟩ : ∃ x, fu1 = x + 1 := ⟨fu1 - 1, by omega⟩
    obtain ⟨fu5, rfl⟩ : ∃ x, fu5 = x + 1 := ⟨fu5 - 1, by omega⟩
    have hn := ho.1
    have hlt : ¬ (60 : Int32) < nI k := nI_nlt (a := 60) (b := k) (by omega) (by omega)
    rw [fd_X4_kept_L24, fd_X5_kept_L17, if_neg hlt, if_neg hlt]
    rw [pu_35, pu_ck j 7 _ (by omega) (by omega), pu_ck (35 + j) 42 _ (by omega) (by omega), pu_cl (by omega), pu_cl (by omega), (hr.2.2.2.2.2.2.2 j hj).2.2.2.2]
    by_cases h0 : m.2 14 (35 + j) = 0
    · obtain ⟨e, b1, f1, p1, p5, p3, p4, p6⟩ := pu_pass ho hr
      rw [if_pos h0, if_pos h0, p1, p5, pu_b2, pu_b2, pu_lt, pu_lt, pu_lt, nI_1]
      obtain ⟨r, t', m', g1, g2, g3⟩ := ih (k + 1) b1 (ob_A m 14 f1) (by omega) p4 p3 fu1 fu5 (by omega) (by omega)
      exact ⟨r, t', m', g1, g2, pu_sm_tr (pu_sm14 m f1) g3⟩
    · rw [if_neg h0, if_neg h0]
      exact ⟨_, _, _, rfl, rfl, pu_sm_rf⟩
theorem pu_kept {m y x t : ob_B} {n : Nat} (ho : pu_ok (m.2 12) n) (hr : pu_rr y (m.2 12) n) (a : Int32) : ∃ r t' m', fd_X4_kept x y t a = some (r, t') ∧ fd_X5_kept m a = some (r, m') ∧ pu_sm m m' := by
  unfold fd_X4_kept fd_X5_kept
  rcases pu_one (x := x) ho hr a with ⟨h1, h5⟩ | ⟨j, hj, rfl, h1, h5⟩
  · rw [h1, h5, pu_b1, pu_b1, if_pos rfl, if_pos rfl]
    exact ⟨_, _, _, rfl, rfl, pu_sm_rf⟩
  · obtain ⟨t1, b1, b2⟩ := pu_become t y
    obtain ⟨m1, c1, c2, c3, c4, c5⟩ := pu_begin ho
    rw [h1, h5, pu_b1, pu_b1, if_neg pu_10, if_neg pu_10, b1, c1, pu_b1, pu_b1]
    obtain ⟨r, t', m', g1, g2, g3⟩ := pu_kepts (x := x) (y := y) hj 61 0 t1 m1 (by omega) c4 (c5 _ (b2 _ _ ho.1 hr)) 2000 2000 (by omega) (by omega)
    exact ⟨r, t', m', g1, g2, pu_sm_tr c2 g3⟩
