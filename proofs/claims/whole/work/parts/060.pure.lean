/-! pure facts -/
theorem pu_ck {γ : Type} (k N : Nat) (x : Option γ) (h : k < N) (hN : N < 2147483648) : (if nI k < 0 ∨ N ≤ Int32.toNatClampNeg (nI k) then none else x) = x := if_neg (vp_in_nI h hN)
theorem pu_ck2 {γ : Type} (k N : Nat) (x : Option γ) (h : k < N) (hN : N < 2147483648) : (if nI k < 0 ∨ N ≤ k then none else x) = x := if_neg (fun q => q.elim (nI_pos (by omega)) (by omega))
theorem pu_cl {k : Nat} (h : k < 2147483648) : Int32.toNatClampNeg (nI k) = k := nI_clamp h
theorem pu_7 (j : Nat) : (7 : Int32) + nI j = nI (7 + j) := nI_add 7 j
theorem pu_14 (j : Nat) : (14 : Int32) + nI j = nI (14 + j) := nI_add 14 j
theorem pu_21 (j : Nat) : (21 : Int32) + nI j = nI (21 + j) := nI_add 21 j
theorem pu_28 (j : Nat) : (28 : Int32) + nI j = nI (28 + j) := nI_add 28 j
theorem pu_35 (j : Nat) : (35 : Int32) + nI j = nI (35 + j) := nI_add 35 j
theorem pu_c0 : Int32.toNatClampNeg 0 = 0 := rfl
theorem pu_c1 : Int32.toNatClampNeg 1 = 1 := rfl
theorem pu_c2 : Int32.toNatClampNeg 2 = 2 := rfl
theorem pu_c3 : Int32.toNatClampNeg 3 = 3 := rfl
theorem pu_c4 : Int32.toNatClampNeg 4 = 4 := rfl
theorem pu_c5 : Int32.toNatClampNeg 5 = 5 := rfl
theorem pu_c6 : Int32.toNatClampNeg 6 = 6 := rfl
theorem pu_b1 {α γ : Type} (x : α) (f : α → Option γ) : ob_b1 (some x) f = f x := rfl
theorem pu_b2 {α β γ : Type} (x : α) (y : β) (f : α → β → Option γ) : ob_b2 (some (x, y)) f = f x y := rfl
theorem pu_b3 {α β δ γ : Type} (x : α) (y : β) (z : δ) (f : α → β → δ → Option γ) : ob_b3 (some (x, y, z)) f = f x y z := rfl
theorem pu_lt {α β : Type} (x : α) (f : α → β) : ob_lt x f = f x := rfl
theorem pu_us (f : Nat → Int32) (k : Nat) (x : Int32) : upd f k x k = x := by unfold upd; rw [if_pos rfl]
theorem pu_un (f : Nat → Int32) {k j : Nat} (x : Int32) (h : j ≠ k) : upd f k x j = f j := by unfold upd; rw [if_neg h]
theorem pu_bit (x : Int32) : x &&& 1 = 0 ∨ x &&& 1 = 1 := by
  obtain ⟨j, hj, e⟩ := pk_andE x (m := 1) 1 (by decide)
  have : j = 0 ∨ j = 1 := by omega
  rcases this with rfl | rfl
  · exact Or.inl e
  · exact Or.inr e
/-- the reference's 42 ints are those of a route with n oaths -/
def pu_ok (f : Nat → Int32) (n : Nat) : Prop := n ≤ 7 ∧ f 2 = nI n ∧ (∃ a, a < 10 ∧ f 0 = nI a) ∧ ∀ j, j < n → (∃ k, 1 ≤ k ∧ k ≤ 5 ∧ f (7 + j) = nI k) ∧ (∃ p, p < 10 ∧ f (14 + j) = nI p) ∧ (∃ w, 1 ≤ w ∧ w ≤ 20 ∧ f (21 + j) = nI w)
/-- a Route holds the same as the reference's 42 ints -/
def pu_rr (b : ob_B) (f : Nat → Int32) (n : Nat) : Prop := b.1 0 = f 0 ∧ b.1 1 = f 1 ∧ b.1 4 = f 2 ∧ b.1 2 = f 3 ∧ b.1 3 = f 4 ∧ b.1 5 = f 5 ∧ b.1 6 = f 6 ∧ ∀ j, j < n → b.2 7 j = f (7 + j) ∧ b.2 8 j = f (14 + j) ∧ b.2 9 j = f (21 + j) ∧ b.2 10 j = f (28 + j) ∧ b.2 11 j = f (35 + j)
theorem pu_pull {b : ob_B} {f : Nat → Int32} {n : Nat} (ho : pu_ok f n) (hr : pu_rr b f n) {j : Nat} (hj : j < n) : ∃ v, fd_X1_pullOf b (nI j) = some v ∧ fd_X5_pullOf f (nI j) = some v := by
  obtain ⟨hn, h2, -, hk⟩ := ho
  obtain ⟨⟨k, k1, k5, ek⟩, -, -⟩ := hk j hj
  obtain ⟨r0, r1, r4, r2, r3, r5, r6, ra⟩ := hr
  obtain ⟨a7, a8, a9, a10, a11⟩ := ra j hj
  have q0 : ¬ nI j < 0 := nI_pos (by omega)
  have q7 : ¬ nI (7 + j) < 0 := nI_pos (by omega)
  have q14 : ¬ nI (14 + j) < 0 := nI_pos (by omega)
  have q21 : ¬ nI (21 + j) < 0 := nI_pos (by omega)
  have q28 : ¬ nI (28 + j) < 0 := nI_pos (by omega)
  have q35 : ¬ nI (35 + j) < 0 := nI_pos (by omega)
  have c0 : Int32.toNatClampNeg (nI j) = j := pu_cl (by omega)
  have c7 : Int32.toNatClampNeg (nI (7 + j)) = 7 + j := pu_cl (by omega)
  have c14 : Int32.toNatClampNeg (nI (14 + j)) = 14 + j := pu_cl (by omega)
  have c21 : Int32.toNatClampNeg (nI (21 + j)) = 21 + j := pu_cl (by omega)
  have c28 : Int32.toNatClampNeg (nI (28 + j)) = 28 + j := pu_cl (by omega)
  have c35 : Int32.toNatClampNeg (nI (35 + j)) = 35 + j := pu_cl (by omega)
  have l0 : ¬ 7 ≤ j := by omega
  have l7 : ¬ 42 ≤ 7 + j := by omega
  have l14 : ¬ 42 ≤ 14 + j := by omega
  have l21 : ¬ 42 ≤ 21 + j := by omega
  have l28 : ¬ 42 ≤ 28 + j := by omega
  have l35 : ¬ 42 ≤ 35 + j := by omega
  unfold fd_X1_pullOf fd_X5_pullOf fd_X1_pullOf_L46 fd_X5_pullOf_L25 fd_X5_has
  simp only [pu_7, pu_14, pu_21, pu_28, pu_35, c0, c7, c14, c21, c28, c35, q0, q7, q14, q21, q28, q35, l0, l7, l14, l21, l28, l35, or_self, if_false, pu_c3, pu_c4, pu_lt, a7, a8, a9, a10, a11, r2, r3]
  by_cases h1 : f (35 + j) = 0
  · rcases pu_bit (f 4 >>> (f (14 + j) &&& 31)) with hb | hb
    · have hk' : k = 1 ∨ k = 2 ∨ k = 3 ∨ k = 4 ∨ k = 5 := by omega
      rcases hk' with rfl | rfl | rfl | rfl | rfl <;> by_cases h3 : f 3 < f (28 + j) <;> by_cases h4 : f 3 - f 3 / 2 * 2 = 0 <;> simp [h1, hb, h3, h4, ek, pu_b1, show nI 1 = 1 from rfl, show nI 2 = 2 from rfl, show nI 3 = 3 from rfl, show nI 4 = 4 from rfl, show nI 5 = 5 from rfl]
    · by_cases h3 : f 3 < f (28 + j) <;> simp [h1, hb, h3, pu_b1]
  · by_cases h3 : f 3 < f (28 + j) <;> simp [h1, h3]
def pu_e1 : Option Nat → Int32
  | none => -1000000
  | some j => nI j
def pu_e5 : Option Nat → Int32
  | none => -1
  | some j => nI j
theorem pu_nle {n k : Nat} (h : k < n) (hn : n < 2147483648) : ¬ nI n ≤ nI k := nI_ge h hn
theorem pu_le {n : Nat} : nI n ≤ nI n := Int32.le_refl _
theorem pu_pulls {b : ob_B} {f : Nat → Int32} {n : Nat} (ho : pu_ok f n) (hr : pu_rr b f n) (m : Int32) : ∀ (d k : Nat) (o : Option Nat) (most : Int32), k + d = n → (∀ j, o = some j → j < n) → ∀ fu1 fu5, d < fu1 → d < fu5 →
    ∃ o', (∀ j, o' = some j → j < n) ∧ fd_X1_puller_L8 fu1 b m (pu_e1 o) most (nI k) = some (pu_e1 o') ∧ fd_X5_pullerOf_L7 fu5 f m (pu_e5 o) most (nI k) = some (pu_e5 o') := by
  have hn := ho.1
  have h2 := ho.2.1
  have r4 : b.1 4 = f 2 := hr.2.2.1
  intro d
  induction d with
  | zero =>
    intro k o most hk hb fu1 fu5 h1 h5
    obtain ⟨fu1, rfl⟩ : ∃ x, fu1 = x + 1 := ⟨fu1 - 1, by omega⟩
    obtain ⟨fu5, rfl⟩ : ∃ x, fu5 = x + 1 := ⟨fu5 - 1, by omega⟩
    have hk' : k = n := by omega
    subst hk'
    refine ⟨o, hb, ?_, ?_⟩
    · rw [fd_X1_puller_L8, r4, h2, if_pos pu_le]
    · rw [fd_X5_pullerOf_L7, pu_c2, h2, if_pos pu_le]
  | succ d ih =>
    intro k o most hk hb fu1 fu5 h1 h5
    obtain ⟨fu1, rfl⟩ : ∃ x, fu1 = x + 1 := ⟨fu1 - 1, by omega⟩
    obtain ⟨fu5, rfl⟩ : ∃ x, fu5 = x + 1 := ⟨fu5 - 1, by omega⟩
    have hlt : ¬ nI n ≤ nI k := pu_nle (by omega) (by omega)
    rw [fd_X1_puller_L8, fd_X5_pullerOf_L7, pu_c2, r4, h2, if_neg hlt, if_neg hlt]
    have step : ∀ v, ∃ o', (∀ j, o' = some j → j < n) ∧ fd_X1_puller_L36 (fd_X1_puller_L8 fu1) b m (pu_e1 o) most (nI k) v = some (pu_e1 o') ∧ fd_X5_pullerOf_L34 (fd_X5_pullerOf_L7 fu5) f m (pu_e5 o) most (nI k) v = some (pu_e5 o') := by
      intro v
      unfold fd_X1_puller_L36 fd_X5_pullerOf_L34 fd_X5_pullerOf_L48
      by_cases hv : v ≤ most
      · simp only [if_pos hv, pu_lt, nI_1]
        exact ih (k + 1) o most (by omega) hb fu1 fu5 (by omega) (by omega)
      · simp only [if_neg hv, pu_lt, nI_1]
        exact ih (k + 1) (some k) v (by omega) (fun j hj => by cases hj; omega) fu1 fu5 (by omega) (by omega)
    rcases pu_bit (m >>> (nI k &&& 31)) with hbit | hbit
    · obtain ⟨v, hv1, hv5⟩ := pu_pull ho hr (j := k) (by omega)
      have h01 : ¬ ((0 : Int32) = 1) := by decide
      rw [if_pos hbit, fd_X5_has, hbit, if_neg h01, pu_b1, if_pos rfl, hv1, hv5, pu_b1, pu_b1]
      exact step v
    · have h10 : ¬ ((1 : Int32) = 0) := by decide
      rw [hbit, if_neg h10, fd_X5_has, hbit, if_pos rfl, pu_b1, if_neg h10]
      exact step 0
theorem pu_puller {b : ob_B} {f : Nat → Int32} {n : Nat} (ho : pu_ok f n) (hr : pu_rr b f n) (m : Int32) : ∃ o, (∀ j, o = some j → j < n) ∧ fd_X1_puller b m = some (pu_e1 o) ∧ fd_X5_pullerOf f m = some (pu_e5 o) := by
  have hn := ho.1
  obtain ⟨o, h0, h1, h5⟩ := pu_pulls ho hr m n 0 none 0 (by omega) (fun j hj => by cases hj) 2000 2000 (by omega) (by omega)
  exact ⟨o, h0, h1, h5⟩
theorem pu_sg : ∀ p, p < 10 → ∀ a, a < 10 → fd_J6_signum_0f7a4 (nI p - nI a) = some (if p = a then 0 else if p ≤ a then -1 else 1) := by decide +kernel
theorem pu_next {b : ob_B} {f : Nat → Int32} {n : Nat} (ho : pu_ok f n) (hr : pu_rr b f n) (m : Int32) : ∃ o a, a < 10 ∧ fd_X1_placeNext b m = some (nI a) ∧ fd_X5_pullerOf f m = some o ∧ fd_X5_towards f o = some (nI a) := by
  obtain ⟨o, hb, h1, h5⟩ := pu_puller ho hr m
  obtain ⟨hn, h2, ⟨a, ha, ea⟩, hk⟩ := ho
  obtain ⟨r0, r1, r4, r2, r3, r5, r6, ra⟩ := hr
  cases o with
  | none =>
    refine ⟨_, a, ha, ?_, h5, ?_⟩
    · rw [fd_X1_placeNext, h1, pu_b1, if_neg (show ¬ (0 : Int32) ≤ pu_e1 none by decide), r0, ea]
    · rw [fd_X5_towards, pu_lt, if_pos (show pu_e5 none < 0 by decide), pu_c0, ea]
  | some j =>
    have hj := hb j rfl
    obtain ⟨-, ⟨p, hp, ep⟩, -⟩ := hk j hj
    obtain ⟨a7, a8, a9, a10, a11⟩ := ra j hj
    have hs := pu_sg p hp a ha
    have hpos : (0 : Int32) ≤ nI j := nI_pos' (by omega)
    have hneg : ¬ nI j < 0 := nI_pos (by omega)
    refine ⟨_, if p = a then a else if p ≤ a then a - 1 else a + 1, ?_, ?_, h5, ?_⟩
    · split
      · exact ha
      · split <;> omega
    · rw [fd_X1_placeNext, h1, pu_b1]
      show (if (0 : Int32) ≤ nI j then _ else _) = _
      rw [if_pos hpos]
      show (if nI j < 0 ∨ 7 ≤ Int32.toNatClampNeg (nI j) then none else _) = _
      rw [pu_ck j 7 _ (by omega) (by omega)]
      show ob_b1 (fd_J6_signum_0f7a4 (b.2 8 (Int32.toNatClampNeg (nI j)) - b.1 0)) _ = _
      rw [pu_cl (by omega), a8, ep, r0, ea, hs, pu_b1]
      by_cases h3 : p = a
      · rw [if_pos h3, if_pos h3]
        exact congrArg some (Int32.add_zero _)
      · rw [if_neg h3, if_neg h3]
        by_cases h4 : p ≤ a
        · rw [if_pos h4, if_pos h4]
          obtain ⟨x, rfl⟩ : ∃ x, a = x + 1 := ⟨a - 1, by omega⟩
          exact congrArg some (pk_m1 x)
        · rw [if_neg h4, if_neg h4]
          exact congrArg some (nI_1 a)
    · rw [fd_X5_towards, pu_lt]
      show (if nI j < 0 then _ else _) = _
      rw [if_neg hneg]
      show (if 14 + nI j < 0 ∨ 42 ≤ Int32.toNatClampNeg (14 + nI j) then none else (if f (Int32.toNatClampNeg (14 + nI j)) = f (Int32.toNatClampNeg 0) then some (f (Int32.toNatClampNeg 0)) else (if 14 + nI j < 0 ∨ 42 ≤ Int32.toNatClampNeg (14 + nI j) then none else (if f (Int32.toNatClampNeg (14 + nI j)) ≤ f (Int32.toNatClampNeg 0) then some (f (Int32.toNatClampNeg 0) - 1) else some (f (Int32.toNatClampNeg 0) + 1))))) = _
      rw [pu_14, pu_ck (14 + j) 42 _ (by omega) (by omega), pu_ck (14 + j) 42 _ (by omega) (by omega), pu_cl (by omega), pu_c0, ep, ea]
      by_cases h3 : p = a
      · rw [if_pos (by rw [h3]), if_pos h3]
      · rw [if_neg (fun q => h3 ((nI_eq (by omega) (by omega)).mp q)), if_neg h3]
        by_cases h4 : p ≤ a
        · rw [if_pos ((nI_leI (by omega) (by omega)).mpr h4), if_pos h4]
          obtain ⟨x, rfl⟩ : ∃ x, a = x + 1 := ⟨a - 1, by omega⟩
          exact congrArg some (nI_pred x)
        · rw [if_neg (fun q => h4 ((nI_leI (by omega) (by omega)).mp q)), if_neg h4]
          exact congrArg some (nI_1 a)
theorem pu_usf (f : Nat → Int32) (k : Nat) : upd f k (f k) = f := by
  funext j
  by_cases h : j = k
  · subst h; rw [pu_us]
  · rw [pu_un _ _ h]
theorem pu_okc {f : Nat → Int32} {n i : Nat} {v : Int32} (h : pu_ok f n) (h2 : i ≠ 2) (h0 : i ≠ 0) (h1 : ∀ j, j < n → i ≠ 7 + j ∧ i ≠ 14 + j ∧ i ≠ 21 + j) : pu_ok (upd f i v) n := by
  obtain ⟨a, b, c, d⟩ := h
  refine ⟨a, by rw [pu_un _ _ h2.symm]; exact b, by rw [pu_un _ _ h0.symm]; exact c, fun j hj => ?_⟩
  obtain ⟨e1, e2, e3⟩ := h1 j hj
  rw [pu_un _ _ e1.symm, pu_un _ _ e2.symm, pu_un _ _ e3.symm]
  exact d j hj
theorem pu_ok0 {f : Nat → Int32} {n a : Nat} (h : pu_ok f n) (ha : a < 10) : pu_ok (upd f 0 (nI a)) n := by
  obtain ⟨x, b, c, d⟩ := h
  refine ⟨x, by rw [pu_un _ _ (by decide)]; exact b, ⟨a, ha, pu_us _ _ _⟩, fun j hj => ?_⟩
  rw [pu_un _ _ (by omega), pu_un _ _ (by omega), pu_un _ _ (by omega)]
  exact d j hj
theorem pu_rrI {b : ob_B} {f : Nat → Int32} {n : Nat} (hr : pu_rr b f n) (hn : n ≤ 7) (i k : Nat) (hik : (i = 0 ∧ k = 0) ∨ (i = 2 ∧ k = 3) ∨ (i = 3 ∧ k = 4) ∨ (i = 5 ∧ k = 5) ∨ (i = 6 ∧ k = 6)) (x : Int32) : pu_rr (ob_I b i x) (upd f k x) n := by
  obtain ⟨r0, r1, r4, r2, r3, r5, r6, ra⟩ := hr
  rcases hik with ⟨rfl, rfl⟩ | ⟨rfl, rfl⟩ | ⟨rfl, rfl⟩ | ⟨rfl, rfl⟩ | ⟨rfl, rfl⟩ <;>
  · refine ⟨?_, ?_, ?_, ?_, ?_, ?_, ?_, fun j hj => ?_⟩
    iterate 7 first | assumption | rfl
    obtain ⟨a7, a8, a9, a10, a11⟩ := ra j hj
    rw [pu_un _ _ (by omega), pu_un _ _ (by omega), pu_un _ _ (by omega), pu_un _ _ (by omega), pu_un _ _ (by omega)]
    exact ⟨a7, a8, a9, a10, a11⟩
theorem pu_rrA {b : ob_B} {f : Nat → Int32} {n : Nat} (hr : pu_rr b f n) (hn : n ≤ 7) (i s : Nat) (his : (i = 7 ∧ s = 7) ∨ (i = 8 ∧ s = 14) ∨ (i = 9 ∧ s = 21) ∨ (i = 10 ∧ s = 28) ∨ (i = 11 ∧ s = 35)) {k : Nat} (hk : k < n) (v : Int32) : pu_rr (ob_A b i (upd (b.2 i) k v)) (upd f (s + k) v) n := by
  obtain ⟨r0, r1, r4, r2, r3, r5, r6, ra⟩ := hr
  have hs : 7 ≤ s := by omega
  refine ⟨by rw [pu_un _ _ (by omega)]; exact r0, by rw [pu_un _ _ (by omega)]; exact r1, by rw [pu_un _ _ (by omega)]; exact r4, by rw [pu_un _ _ (by omega)]; exact r2, by rw [pu_un _ _ (by omega)]; exact r3, by rw [pu_un _ _ (by omega)]; exact r5, by rw [pu_un _ _ (by omega)]; exact r6, fun j hj => ?_⟩
  obtain ⟨a7, a8, a9, a10, a11⟩ := ra j hj
  rcases his with ⟨rfl, rfl⟩ | ⟨rfl, rfl⟩ | ⟨rfl, rfl⟩ | ⟨rfl, rfl⟩ | ⟨rfl, rfl⟩ <;>
  · by_cases hjk : j = k
    · subst hjk
      refine ⟨?_, ?_, ?_, ?_, ?_⟩ <;> first
        | (show upd _ j v j = upd _ (_ + j) v (_ + j); rw [pu_us, pu_us])
        | (rw [pu_un _ _ (by omega)]; assumption)
    · refine ⟨?_, ?_, ?_, ?_, ?_⟩ <;> first
        | (rw [pu_un f _ (by omega)]; assumption)
        | (show upd _ k v j = upd _ (_ + k) v (_ + j); rw [pu_un _ _ hjk, pu_un _ _ (by omega)]; assumption)
