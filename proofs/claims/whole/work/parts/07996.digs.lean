/-! the reading of a route -/
def pu_ty (q m : ob_B) (k : Nat) : Prop := k ≤ 100 ∧ q.1 1 = nI k ∧ m.1 4 = nI k ∧ ∀ j, j < k → q.2 0 j = m.2 5 j ∧ ∃ v, v < 256 ∧ m.2 5 j = nI v
def pu_fg (f : Nat → Int32) (k z : Nat) : Prop := z < k ∧ ∃ v, 48 ≤ v ∧ v ≤ 57 ∧ f z = nI v
theorem pu_fig : ∀ v, v < 256 → fd_X3_isFigure (nI v) = some (if 48 ≤ v ∧ v ≤ 57 then 1 else 0) := by decide +kernel
theorem pu_fi5 (x : Int32) : fd_X5_in x 48 57 = fd_X3_isFigure x := rfl
theorem pu_In (b : ob_B) {k j : Nat} (v : Int32) (h : j ≠ k) : (ob_I b k v).1 j = b.1 j := pu_un _ _ h
theorem pu_min (N : Nat) (h : N < 2000) : (if (100 : Int32) < nI N then (100 : Int32) else nI N) = nI (min N 100) := by
  by_cases h1 : 100 < N
  · rw [if_pos (show (100 : Int32) < nI N from (pu_ltI (a := 100) (by omega) (by omega)).mpr h1), Nat.min_eq_right (by omega)]
    rfl
  · rw [if_neg (show ¬ (100 : Int32) < nI N from fun q => h1 ((pu_ltI (a := 100) (by omega) (by omega)).mp q)), Nat.min_eq_left (by omega)]
theorem pu_II2 (m : ob_B) (a c : Int32) : (ob_I (ob_I m 9 a) 6 c).1 6 = c ∧ (ob_I (ob_I m 9 a) 6 c).1 9 = a ∧ (ob_I (ob_I m 9 a) 6 c).2 = m.2 ∧ ∀ s, s ≠ 6 → s ≠ 9 → (ob_I (ob_I m 9 a) 6 c).1 s = m.1 s :=
  ⟨pu_II _ _ _, (pu_In _ _ (by decide)).trans (pu_II _ _ _), rfl, fun s h6 h9 => (pu_un _ _ h6).trans (pu_un _ _ h9)⟩
theorem pu_digs {q : ob_B} {k p : Nat} (lo hi : Int32) : ∀ (d z n n' : Nat) (m : ob_B), z + d = k → p ≤ z → pu_ty q m k → m.1 6 = nI z → m.1 7 = nI p → m.1 9 = nI n' → n ≤ 100 → n' ≤ 99 → (z - p ≤ 2 → n = n') → (z - p ≤ 1 → n ≤ 9) → (z - p = 0 → n = 0) → ∀ fu1 fu5, d < fu1 → d < fu5 →
    ∃ e n1 n2 m', z ≤ e ∧ e ≤ k ∧ (pu_fg (m.2 5) k z → z < e) ∧ (¬ pu_fg (m.2 5) k z → e = z) ∧ fd_X3_readNumber_L17 fu1 q lo hi (nI z) (nI n) = fd_X3_readNumber_L65 q lo hi (nI e) (nI n1) ∧ fd_X5_nextToken_L52 fu5 m = fd_X5_nextToken_L139 m' ∧ m'.2 = m.2 ∧ (∀ s, s ≠ 6 → s ≠ 9 → m'.1 s = m.1 s) ∧ m'.1 6 = nI e ∧ m'.1 9 = nI n2 ∧ n1 ≤ 100 ∧ (e - p ≤ 2 → n1 = n2 ∧ n1 ≤ 99) := by
  intro d
  induction d with
  | zero =>
    intro z n n' m hz hpz ht m6 m7 m9 hn hn' e2 e1 e0 fu1 fu5 h1 h5
    obtain ⟨fu1, rfl⟩ : ∃ x, fu1 = x + 1 := ⟨fu1 - 1, by omega⟩
    obtain ⟨fu5, rfl⟩ : ∃ x, fu5 = x + 1 := ⟨fu5 - 1, by omega⟩
    have hzk : z = k := by omega
    subst hzk
    obtain ⟨hk, q1, m4, hb⟩ := ht
    refine ⟨z, n, n', m, Nat.le_refl _, Nat.le_refl _, fun h => absurd h.1 (Nat.lt_irrefl _), fun _ => rfl, ?_, ?_, rfl, fun _ _ _ => rfl, m6, m9, hn, fun h => ⟨e2 h, by rw [e2 h]; exact hn'⟩⟩
    · rw [fd_X3_readNumber_L17, q1, if_pos pu_le]
    · rw [fd_X5_nextToken_L52, m4, m6, if_pos pu_le]
  | succ d ih =>
    intro z n n' m hz hpz ht m6 m7 m9 hn hn' e2 e1 e0 fu1 fu5 h1 h5
    obtain ⟨fu1, rfl⟩ : ∃ x, fu1 = x + 1 := ⟨fu1 - 1, by omega⟩
    obtain ⟨fu5, rfl⟩ : ∃ x, fu5 = x + 1 := ⟨fu5 - 1, by omega⟩
    obtain ⟨hk, q1, m4, hb⟩ := id ht
    obtain ⟨bq, v, hv, bv⟩ := hb z (by omega)
    have hlt : ¬ nI k ≤ nI z := pu_nle (by omega) (by omega)
    rw [fd_X3_readNumber_L17, fd_X5_nextToken_L52, q1, m4, m6, if_neg hlt, if_neg hlt, pu_ck z 100 _ (by omega) (by omega), pu_ck z 100 _ (by omega) (by omega), pu_cl (by omega), bq, bv, pu_fi5, pu_fig v hv, pu_b1, pu_b1]
    by_cases hf : 48 ≤ v ∧ v ≤ 57
    · rw [if_pos hf, if_neg pu_10, if_neg pu_10]
      have hfg : pu_fg (m.2 5) k z := ⟨by omega, v, hf.1, hf.2, bv⟩
      have ev : nI n * 10 + nI v - 48 = nI (n * 10 + v - 48) := by
        rw [show nI n * 10 = nI (n * 10) from pk_mul n 10, nI_add]
        exact pk_sub (a := n * 10 + v) (b := 48) (by omega)
      have ev5 : 10 * nI n' + nI v - 48 = nI (10 * n' + v - 48) := by
        rw [show 10 * nI n' = nI (10 * n') from pk_mul 10 n', nI_add]
        exact pk_sub (a := 10 * n' + v) (b := 48) (by omega)
      rw [pu_ck2 z 100 _ (by omega) (by omega), ev, pu_min _ (by omega), pu_lt, pu_lt, nI_1, m7, pk_sub hpz, m9, ev5]
      have go : ∀ w : Nat, w ≤ 99 → (z - p ≤ 1 → w = 10 * n' + v - 48) → ∃ e n1 n2 m', z ≤ e ∧ e ≤ k ∧ (pu_fg (m.2 5) k z → z < e) ∧ (¬ pu_fg (m.2 5) k z → e = z) ∧ fd_X3_readNumber_L17 fu1 q lo hi (nI (z + 1)) (nI (min (n * 10 + v - 48) 100)) = fd_X3_readNumber_L65 q lo hi (nI e) (nI n1) ∧ fd_X5_nextToken_L123 (fd_X5_nextToken_L52 fu5) m (nI w) = fd_X5_nextToken_L139 m' ∧ m'.2 = m.2 ∧ (∀ s, s ≠ 6 → s ≠ 9 → m'.1 s = m.1 s) ∧ m'.1 6 = nI e ∧ m'.1 9 = nI n2 ∧ n1 ≤ 100 ∧ (e - p ≤ 2 → n1 = n2 ∧ n1 ≤ 99) := by
        intro w hw hw1
        have hm1 : fd_X5_nextToken_L123 (fd_X5_nextToken_L52 fu5) m (nI w) = fd_X5_nextToken_L52 fu5 (ob_I (ob_I m 9 (nI w)) 6 (nI (z + 1))) := by
          unfold fd_X5_nextToken_L123
          rw [pu_lt, pu_lt, pu_lt, show (ob_I m 9 (nI w)).1 6 = m.1 6 from pu_In _ _ (by decide), m6, nI_1]
        obtain ⟨i6, i9, i2, is⟩ := pu_II2 m (nI w) (nI (z + 1))
        have hn1 : z - p ≤ 1 → n ≤ 9 ∧ n = n' := fun h => ⟨e1 h, e2 (by omega)⟩
        obtain ⟨e, n1, n2, m', g1, g2, -, -, g3, g4, g5, g6, g7, g8, g9, g10⟩ := ih (z + 1) (min (n * 10 + v - 48) 100) w (ob_I (ob_I m 9 (nI w)) 6 (nI (z + 1))) (by omega) (by omega) ⟨hk, q1, (is 4 (by decide) (by decide)).trans m4, hb⟩ i6 ((is 7 (by decide) (by decide)).trans m7) i9 (Nat.min_le_right _ _) hw
          (fun h => by obtain ⟨a, b⟩ := hn1 (by omega); rw [hw1 (by omega)]; omega)
          (fun h => by have := e0 (by omega); omega)
          (fun h => by omega) fu1 fu5 (by omega) (by omega)
        exact ⟨e, n1, n2, m', by omega, g2, fun _ => by omega, fun h => absurd hfg h, g3, hm1.trans g4, g5.trans i2, fun s h6 h9 => (g6 s h6 h9).trans (is s h6 h9), g7, g8, g9, g10⟩
      by_cases h2 : 2 ≤ z - p
      · rw [if_pos (show (2 : Int32) ≤ nI (z - p) from (nI_leI (a := 2) (by omega) (by omega)).mpr h2)]
        exact go n' hn' (fun h => by omega)
      · rw [if_neg (show ¬ (2 : Int32) ≤ nI (z - p) from fun x => h2 ((nI_leI (a := 2) (by omega) (by omega)).mp x)), pu_ck2 z 100 _ (by omega) (by omega)]
        exact go (10 * n' + v - 48) (by have := e1 (by omega); have := e2 (by omega); omega) (fun _ => rfl)
    · rw [if_neg hf, if_pos rfl, if_pos rfl, pu_ck2 z 100 _ (by omega) (by omega)]
      have hfg : ¬ pu_fg (m.2 5) k z := by
        rintro ⟨-, u, u1, u2, eu⟩
        have : v = u := (nI_eq (by omega) (by omega)).mp (bv.symm.trans eu)
        omega
      exact ⟨z, n, n', m, Nat.le_refl _, by omega, fun h => absurd h hfg, fun _ => rfl, rfl, rfl, rfl, fun _ _ _ => rfl, m6, m9, hn, fun h => ⟨e2 h, by rw [e2 h]; exact hn'⟩⟩
