def pu_ci (m mk : ob_B) (f : Nat → Int32) : Prop := mk.1 = m.1 ∧ (∀ s, s ≠ 2 → mk.2 s = m.2 s) ∧ ∀ j, mk.2 2 j = f j
theorem pu_cst {i p t u v k : Nat} {q z : Int32} (K : ob_B → Int32 → Int32 → Int32 → Int32 → Int32 → Int32 → Int32 → Option (Int32 × ob_B)) (mk : ob_B) (h1 : 40 * i + p + v < 320) (h2 : 40 * t + u + v < 320) : fd_X5_copy_L144 K mk (nI i) (nI p) (nI t) (nI u) q z (nI k) (nI v) = K (ob_A mk 2 (upd (mk.2 2) (40 * t + u + v) (mk.2 2 (40 * i + p + v)))) (nI i) (nI p) (nI t) (nI u) q z (nI (k + 1)) := by
  unfold fd_X5_copy_L144
  rw [pu_40, nI_add, pu_ck (40 * i + p + v) 320 _ h1 (by omega), pu_lt, pu_40, nI_add, pu_ck (40 * t + u + v) 320 _ h2 (by omega), pu_lt, pu_lt, nI_1, pu_cl (by omega), pu_cl (by omega)]
theorem pu_cis {m mk : ob_B} {f g : Nat → Int32} {D : Nat} {v : Int32} (h : pu_ci m mk f) (hg : ∀ j, g j = if j = D then v else f j) : pu_ci m (ob_A mk 2 (upd (mk.2 2) D v)) g := by
  refine ⟨h.1, fun s hs => (pu_UN _ _ hs).trans (h.2.1 s hs), fun j => (pu_AA mk 2 _ j).trans ?_⟩
  rw [hg]
  by_cases hj : j = D
  · rw [if_pos hj, hj, pu_us]
  · rw [if_neg hj, pu_un _ _ hj, h.2.2]
theorem pu_cups {m : ob_B} {i p t u q : Nat} (h1 : 40 * i + p + q ≤ 320) (h2 : 40 * t + u + q ≤ 320) (hU : ∀ k, k < q → ¬ (40 * t + u ≤ 40 * i + p + k ∧ 40 * i + p + k < 40 * t + u + k)) : ∀ (d k : Nat) (mk : ob_B), k + d = q → pu_ci m mk (va_cpy (m.2 2) (m.2 2) (40 * i + p) (40 * t + u) k) → ∀ fu, d < fu → ∃ m', fd_X5_copy_L120 fu mk (nI i) (nI p) (nI t) (nI u) (nI q) 0 (nI k) = some (nI q, ob_I m' 3 0) ∧ pu_ci m m' (va_cpy (m.2 2) (m.2 2) (40 * i + p) (40 * t + u) q) := by
  intro d
  induction d with
  | zero =>
    intro k mk hk hc fu hf
    obtain ⟨fu, rfl⟩ : ∃ x, fu = x + 1 := ⟨fu - 1, by omega⟩
    have hk' : k = q := by omega
    subst hk'
    rw [fd_X5_copy_L120, if_pos pu_le]
    exact ⟨mk, rfl, hc⟩
  | succ d ih =>
    intro k mk hk hc fu hf
    obtain ⟨fu, rfl⟩ : ∃ x, fu = x + 1 := ⟨fu - 1, by omega⟩
    rw [fd_X5_copy_L120, if_neg (pu_nle (by omega) (by omega)), if_pos rfl, pu_cst _ _ (by omega) (by omega)]
    refine ih (k + 1) _ (by omega) (pu_cis hc (fun j => ?_)) fu (by omega)
    have hu := hU k (by omega)
    rw [hc.2.2]
    unfold va_cpy
    by_cases hj : j = 40 * t + u + k
    · rw [if_pos hj, if_pos (by omega), if_neg hu, show 40 * i + p + (j - (40 * t + u)) = 40 * i + p + k by omega]
    · rw [if_neg hj]
      by_cases g : 40 * t + u ≤ j ∧ j < 40 * t + u + k
      · rw [if_pos g, if_pos (by omega)]
      · rw [if_neg g, if_neg (by omega)]
theorem pu_cdns {m : ob_B} {i p t u q : Nat} (h1 : 40 * i + p + q ≤ 320) (h2 : 40 * t + u + q ≤ 320) (hU : 40 * i + p ≤ 40 * t + u) : ∀ (d k : Nat) (mk : ob_B), k + d = q → pu_ci m mk (va_cpy (m.2 2) (m.2 2) (40 * i + p + (q - k)) (40 * t + u + (q - k)) k) → ∀ fu, d < fu → ∃ m', fd_X5_copy_L120 fu mk (nI i) (nI p) (nI t) (nI u) (nI q) 1 (nI k) = some (nI q, ob_I m' 3 0) ∧ pu_ci m m' (va_cpy (m.2 2) (m.2 2) (40 * i + p) (40 * t + u) q) := by
  intro d
  induction d with
  | zero =>
    intro k mk hk hc fu hf
    obtain ⟨fu, rfl⟩ : ∃ x, fu = x + 1 := ⟨fu - 1, by omega⟩
    have hk' : k = q := by omega
    subst hk'
    rw [fd_X5_copy_L120, if_pos pu_le]
    rw [Nat.sub_self] at hc
    exact ⟨mk, rfl, hc⟩
  | succ d ih =>
    intro k mk hk hc fu hf
    obtain ⟨fu, rfl⟩ : ∃ x, fu = x + 1 := ⟨fu - 1, by omega⟩
    rw [fd_X5_copy_L120, if_neg (pu_nle (by omega) (by omega)), if_neg pu_10, show nI q - 1 = nI (q - 1) from pk_sub (a := q) (b := 1) (by omega), pk_sub (by omega), pu_cst _ _ (by omega) (by omega)]
    refine ih (k + 1) _ (by omega) (pu_cis hc (fun j => ?_)) fu (by omega)
    rw [hc.2.2]
    unfold va_cpy
    by_cases hj : j = 40 * t + u + (q - 1 - k)
    · rw [if_pos hj, if_pos (by omega), if_neg (by omega)]
      exact congrArg _ (by omega)
    · rw [if_neg hj]
      by_cases g : 40 * t + u + (q - k) ≤ j ∧ j < 40 * t + u + (q - k) + k
      · rw [if_pos g, if_pos (by omega)]
        exact congrArg _ (by omega)
      · rw [if_neg g, if_neg (by omega)]
theorem pu_ci0 {m : ob_B} {S D : Nat} : pu_ci m m (va_cpy (m.2 2) (m.2 2) S D 0) := ⟨rfl, fun _ _ => rfl, fun j => by unfold va_cpy; rw [if_neg (by omega)]⟩
theorem pu_copy {x m w v : ob_B} (a b c d e : Int32) (hx : x.1 9 = m.1 3) (hw : ∀ i, i < 8 → a = nI i → pu_w w m i) (hv : ∀ i, i < 8 → c = nI i → pu_w v m i) : ∃ r x' v' m', fd_X4_copyTwo x w v a b c d e = some (r, x', v') ∧ fd_X5_copy m a b c d e = some (r, m') ∧ pu_k c x m x' m' ∧ ∀ i, i < 8 → c = nI i → pu_w v' m' i := by
  unfold fd_X4_copyTwo fd_X5_copy
  rcases pu_isRow a with ⟨h4, h5, -⟩ | ⟨i, hi, rfl, h4, h5⟩
  · rw [h4, h5, pu_b1, pu_b1, if_pos rfl, if_pos rfl]
    exact ⟨_, _, _, _, rfl, rfl, pu_k0 hx, hv⟩
  rw [h4, h5, pu_b1, pu_b1, if_neg pu_10, if_neg pu_10]
  rcases pu_isRow c with ⟨h4, h5, -⟩ | ⟨t, ht, rfl, h4, h5⟩
  · rw [h4, h5, pu_b1, pu_b1, if_pos rfl, if_pos rfl]
    exact ⟨_, _, _, _, rfl, rfl, pu_k0 hx, hv⟩
  rw [h4, h5, pu_b1, pu_b1, if_neg pu_10, if_neg pu_10]
  simp only [pu_rj hi, pu_rj ht, if_false, show Int32.toNatClampNeg (nI i) = i from pu_cl (by omega), show Int32.toNatClampNeg (nI t) = t from pu_cl (by omega)]
  rcases hw i hi rfl with ⟨w0, n0⟩ | ⟨w0, ⟨l, hl, w1, n1⟩, ⟨s, hs, w2, n2⟩, w3⟩
  · rw [w0, n0, if_neg pu_10, if_pos (show (-1 : Int32) < 0 by decide)]
    exact ⟨_, _, _, _, rfl, rfl, pu_kf 1, hv⟩
  rw [w0, n1, if_pos rfl, if_neg (show ¬ nI l < 0 from nI_pos (by omega))]
  rcases hv t ht rfl with ⟨v0, k0⟩ | ⟨v0, ⟨l', hl', v1, k1⟩, ⟨s', hs', v2, k2⟩, v3⟩
  · rw [v0, k0, if_neg pu_10, if_neg (show ¬ (0 : Int32) ≤ -1 by decide)]
    exact ⟨_, _, _, _, rfl, rfl, pu_kf 1, hv⟩
  rw [v0, k1, if_pos rfl, if_pos (pu_0le (by omega)), w1, v1]
  by_cases hll : nI l = nI l'
  case neg =>
    rw [if_neg hll, if_neg hll]
    exact ⟨_, _, _, _, rfl, rfl, pu_kf 5, hv⟩
  rw [if_pos hll, if_pos hll, n2, k2]
  rcases pu_has hs w2 b e with ⟨g4, g5⟩ | ⟨p, q, rfl, rfl, hpq, g4, g5⟩
  · rw [g4, g5, pu_b1, pu_b1, if_pos rfl, if_pos rfl]
    exact ⟨_, _, _, _, rfl, rfl, pu_kf 2, hv⟩
  rw [g4, g5, pu_b1, pu_b1, if_neg pu_10, if_neg pu_10]
  rcases pu_has hs' v2 d (nI q) with ⟨g4, g5⟩ | ⟨u, q', rfl, hqq, huq, g4, g5⟩
  · rw [g4, g5, pu_b1, pu_b1, if_pos rfl, if_pos rfl]
    exact ⟨_, _, _, _, rfl, rfl, pu_kf 2, hv⟩
  have hq' : q = q' := by
    have := congrArg Int32.toNatClampNeg hqq
    rw [pu_cl (by omega), pu_cl (by omega)] at this
    exact this
  subst hq'
  rw [g4, g5, pu_b1, pu_b1, if_neg pu_10, if_neg pu_10, if_neg (nI_pos (by omega)), if_neg (nI_pos (by omega)), if_neg (nI_pos (by omega)), pu_cl (by omega), pu_cl (by omega), pu_cl (by omega), if_neg (by omega), if_neg (by omega), pu_lt]
  have hend : ∃ m', (if nI i = nI t then (if nI u ≤ nI p then (fd_X5_copy_L120 2000 m (nI i) (nI p) (nI t) (nI u) (nI q) 0 0) else (fd_X5_copy_L120 2000 m (nI i) (nI p) (nI t) (nI u) (nI q) 1 0)) else (fd_X5_copy_L120 2000 m (nI i) (nI p) (nI t) (nI u) (nI q) 0 0)) = some (nI q, ob_I m' 3 0) ∧ pu_ci m m' (va_cpy (m.2 2) (m.2 2) (40 * i + p) (40 * t + u) q) := by
    by_cases hit : nI i = nI t
    · have hit' : i = t := pu_nIj i hi t ht hit
      rw [if_pos hit]
      by_cases hup : nI u ≤ nI p
      · rw [if_pos hup]
        have hup' : u ≤ p := by
          have := Int32.le_iff_toInt_le.mp hup
          rw [nI_toInt (by omega), nI_toInt (by omega)] at this
          omega
        exact pu_cups (by omega) (by omega) (fun k hk => by omega) q 0 m (by omega) pu_ci0 2000 (by omega)
      · rw [if_neg hup]
        have hup' : p ≤ u := by
          rcases Nat.le_total p u with h | h
          · exact h
          · exact absurd (Int32.le_iff_toInt_le.mpr (by rw [nI_toInt (by omega), nI_toInt (by omega)]; omega)) hup
        exact pu_cdns (by omega) (by omega) (by omega) q 0 m (by omega) pu_ci0 2000 (by omega)
    · have hit' : i ≠ t := fun z => hit (by rw [z])
      rw [if_neg hit]
      exact pu_cups (by omega) (by omega) (fun k hk => by omega) q 0 m (by omega) pu_ci0 2000 (by omega)
  obtain ⟨m', e0, e1, e2, e3⟩ := hend
  rw [e0]
  refine ⟨_, _, _, _, rfl, rfl, pu_kv 0 (fun k _ => congrFun e1 k) (fun k hk _ _ _ _ => e2 k (by omega)) (fun o ho hne => ?_), fun o ho he => ?_⟩
  · have hti : o ≠ t := fun z => hne (by rw [z])
    refine ⟨congrFun (e2 0 (by decide)) o, congrFun (e2 1 (by decide)) o, fun j hj => (e3 _).trans ?_⟩
    unfold va_cpy
    rw [if_neg (by omega)]
  · have hti : t = o := pu_nIj t ht o ho he
    subst hti
    refine Or.inr ⟨v0, ⟨l', hl', v1, (congrFun (e2 0 (by decide)) t).trans k1⟩, ⟨s', hs', v2, (congrFun (e2 1 (by decide)) t).trans k2⟩, fun j hj => (pu_AA v 3 _ j).trans (Eq.trans ?_ (e3 _).symm)⟩
    unfold va_cpy
    by_cases g : u ≤ j ∧ j < u + q
    · rw [if_pos g, if_pos (by omega), w3 _ (by omega)]
      exact congrArg _ (by omega)
    · rw [if_neg g, if_neg (by omega), v3 j hj]
theorem pu_copyOne (x w : ob_B) (a b c d e : Int32) : fd_X4_copyOne x w a b c d e = fd_X4_copyTwo x w w a b c d e := rfl
