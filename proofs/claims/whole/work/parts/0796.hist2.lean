theorem pu_rem {h : ob_H} {m y : ob_B} {n : Nat} (ho : pu_ok (m.2 12) n) (hr : pu_rr y (m.2 12) n) (hh : pu_hs h m) : ∃ h' m', fd_X0_rem h y = some h' ∧ fd_X5_note m = some m' ∧ pu_hs h' m' ∧ (∀ s, s ≠ 18 → m'.1 s = m.1 s) ∧ ∀ s, s ≠ 17 → m'.2 s = m.2 s := by
  have hn := ho.1
  obtain ⟨a, o, ha, hoo, h2, m18, h1, hk⟩ := hh
  obtain ⟨w', e1, e2⟩ := pu_remH (h := h) (d := y) hoo ha h1 h2
  obtain ⟨m', g, f1, f2, f3, f4, f5, f6⟩ := pu_note5 ha m18
  refine ⟨_, m', e1, f1, ?_, f2, f3⟩
  unfold pu_hb'
  by_cases h24 : a = 24
  · obtain ⟨q1, q2, q3⟩ := f6 h24
    rw [if_pos h24]
    refine ⟨24, (o + 1) % 24, by omega, Nat.mod_lt _ (by omega), ?_, q1, pu_II _ _ _, fun k hk' => ?_⟩
    · exact (pu_un h.1.1 (k := 1) (j := 2) (nI ((o + 1) % 24)) (by decide)).trans (h2.trans (by rw [h24]))
    · rw [f4]
      by_cases hk23 : k = 23
      · refine ⟨w', n, ?_, pu_ok_cg ho (fun i hi => ?_), pu_rr_cg hn (e2 _ _ hn hr) (fun i hi => ?_)⟩
        · show va_up h.2 ((o + a) % 24) (some w') (((o + 1) % 24 + k) % 24) = some w'
          rw [show ((o + 1) % 24 + k) % 24 = (o + a) % 24 by omega]
          exact va_up_self _ _ _
        · rw [hk23]; exact q3 i hi
        · rw [hk23]; exact q3 i hi
      · obtain ⟨c, n', c1, c2, c3⟩ := hk (k + 1) (by omega)
        have e : ∀ i, i < 42 → g (42 * k + i) = m.2 17 (42 * (k + 1) + i) := fun i hi => by
          rw [q2 _ (by omega)]
          exact congrArg _ (by omega)
        refine ⟨c, n', ?_, pu_ok_cg c2 e, pu_rr_cg c2.1 c3 e⟩
        show va_up h.2 ((o + a) % 24) (some w') (((o + 1) % 24 + k) % 24) = some c
        rw [va_up_ne _ _ (by omega), ← c1]
        exact congrArg _ (by omega)
  · obtain ⟨q1, q2, q3⟩ := f5 (by omega)
    rw [if_neg h24]
    refine ⟨a + 1, o, by omega, hoo, pu_II _ _ _, q1, (pu_un h.1.1 (k := 2) (j := 1) (nI (a + 1)) (by decide)).trans h1, fun k hk' => ?_⟩
    rw [f4]
    by_cases hka : k = a
    · refine ⟨w', n, ?_, pu_ok_cg ho (fun i hi => ?_), pu_rr_cg hn (e2 _ _ hn hr) (fun i hi => ?_)⟩
      · show va_up h.2 ((o + a) % 24) (some w') ((o + k) % 24) = some w'
        rw [hka]
        exact va_up_self _ _ _
      · rw [hka]; exact q3 i hi
      · rw [hka]; exact q3 i hi
    · obtain ⟨c, n', c1, c2, c3⟩ := hk k (by omega)
      have e : ∀ i, i < 42 → g (42 * k + i) = m.2 17 (42 * k + i) := fun i hi => q2 _ (by omega)
      refine ⟨c, n', ?_, pu_ok_cg c2 e, pu_rr_cg c2.1 c3 e⟩
      show va_up h.2 ((o + a) % 24) (some w') ((o + k) % 24) = some c
      rw [va_up_ne _ _ (by omega), ← c1]
