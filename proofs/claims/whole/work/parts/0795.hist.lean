/-- the history against the reference's -/
def pu_hs (h : ob_H) (m : ob_B) : Prop := ∃ a o, a ≤ 24 ∧ o < 24 ∧ h.1.1 2 = nI a ∧ m.1 18 = nI a ∧ h.1.1 1 = nI o ∧ ∀ k, k < a → ∃ c n, h.2 ((o + k) % 24) = some c ∧ pu_ok (fun j => m.2 17 (42 * k + j)) n ∧ pu_rr c (fun j => m.2 17 (42 * k + j)) n
theorem pu_md : ∀ a, a < 49 → nI a - nI a / 24 * 24 = nI (a % 24) := by decide +kernel
theorem pu_sl {b : ob_B} {o a : Nat} (ho : o < 24) (ha : a ≤ 24) (h1 : b.1 1 = nI o) (h2 : b.1 2 = nI a) : ob_sl b = nI ((o + a) % 24) := by
  show ((b.1 1) + (b.1 2)) - ((b.1 1) + (b.1 2)) / 24 * 24 = _
  rw [h1, h2, nI_add, pu_md _ (by omega)]
def pu_hb' (b : ob_B) (o a : Nat) : ob_B := if a = 24 then ob_I b 1 (nI ((o + 1) % 24)) else ob_I b 2 (nI (a + 1))
theorem pu_remO {b w d : ob_B} {o a : Nat} (ho : o < 24) (ha : a ≤ 24) (h1 : b.1 1 = nI o) (h2 : b.1 2 = nI a) : ∃ w', fd_X0_remOld b w d = some (pu_hb' b o a, w') ∧ ∀ f n, n ≤ 7 → pu_rr d f n → pu_rr w' f n := by
  obtain ⟨t1, b1, b2⟩ := pu_become w d
  refine ⟨t1, ?_, b2⟩
  unfold fd_X0_remOld pu_hb'
  rw [h1, h2, nI_add, pu_md _ (by omega), pu_lt, pu_ck _ 24 _ (Nat.mod_lt _ (by omega)) (by omega), pu_ck _ 24 _ (Nat.mod_lt _ (by omega)) (by omega), b1, pu_b1]
  by_cases h : a = 24
  · rw [if_pos h, h, if_pos (show (24 : Int32) ≤ nI 24 by decide), nI_1, pu_md _ (by omega)]
    rfl
  · rw [if_neg h, if_neg (show ¬ (24 : Int32) ≤ nI a from pu_nle (n := 24) (by omega) (by omega)), nI_1]
    rfl
theorem pu_remN {b d : ob_B} {o a : Nat} (ho : o < 24) (ha : a ≤ 24) (h1 : b.1 1 = nI o) (h2 : b.1 2 = nI a) : ∃ w', fd_X0_remNew b d = some (pu_hb' b o a, w') ∧ ∀ f n, n ≤ 7 → pu_rr d f n → pu_rr w' f n := by
  obtain ⟨t1, b1, b2⟩ := pu_become ob_z d
  refine ⟨t1, ?_, b2⟩
  unfold fd_X0_remNew pu_hb'
  rw [h1, h2, nI_add, pu_md _ (by omega), pu_lt, pu_ck _ 24 _ (Nat.mod_lt _ (by omega)) (by omega), pu_ck _ 24 _ (Nat.mod_lt _ (by omega)) (by omega), pu_ck _ 24 _ (Nat.mod_lt _ (by omega)) (by omega), b1, pu_b1]
  by_cases h : a = 24
  · rw [if_pos h, h, if_pos (show (24 : Int32) ≤ nI 24 by decide), nI_1, pu_md _ (by omega)]
    rfl
  · rw [if_neg h, if_neg (show ¬ (24 : Int32) ≤ nI a from pu_nle (n := 24) (by omega) (by omega)), nI_1]
    rfl
theorem pu_remH {h : ob_H} {d : ob_B} {o a : Nat} (ho : o < 24) (ha : a ≤ 24) (h1 : h.1.1 1 = nI o) (h2 : h.1.1 2 = nI a) : ∃ w', fd_X0_rem h d = some (pu_hb' h.1 o a, va_up h.2 ((o + a) % 24) (some w')) ∧ ∀ f n, n ≤ 7 → pu_rr d f n → pu_rr w' f n := by
  have hm : (o + a) % 24 < 24 := Nat.mod_lt _ (by omega)
  unfold fd_X0_rem
  rw [pu_sl ho ha h1 h2, pu_ck _ 24 _ hm (by omega), pu_cl (by omega)]
  cases hs : h.2 ((o + a) % 24) with
  | none =>
    obtain ⟨w', e, e2⟩ := pu_remN (d := d) ho ha h1 h2
    refine ⟨w', ?_, e2⟩
    simp only [e]
  | some w =>
    obtain ⟨w', e, e2⟩ := pu_remO (w := w) (d := d) ho ha h1 h2
    refine ⟨w', ?_, e2⟩
    simp only [e]
