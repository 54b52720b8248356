theorem pu_if10 (p : Prop) [Decidable p] (f : Int32 → Option Int32) : (if p then f 1 else f 0) = f (if p then 1 else 0) := by
  by_cases h : p
  · rw [if_pos h, if_pos h]
  · rw [if_neg h, if_neg h]
def pu_cw (w : Nat → ob_B) (i : Nat) : Int32 := if (w i).1 0 = 0 then 1 else 0
theorem pu_crow (x : ob_B) (w : Nat → ob_B) : fd_X4_countRows x (w 0) (w 1) (w 2) (w 3) (w 4) (w 5) (w 6) (w 7) = some (0 + pu_cw w 0 + pu_cw w 1 + pu_cw w 2 + pu_cw w 3 + pu_cw w 4 + pu_cw w 5 + pu_cw w 6 + pu_cw w 7) := by
  refine (pu_if10 ((w 0).1 0 = 0) (fun v => fd_X4_countRows_L28_0 x (w 0) (w 1) (w 2) (w 3) (w 4) (w 5) (w 6) (w 7) v 0)).trans ?_
  refine (pu_if10 ((w 1).1 0 = 0) (fun v => fd_X4_countRows_L28_1 x (w 0) (w 1) (w 2) (w 3) (w 4) (w 5) (w 6) (w 7) v (0 + pu_cw w 0))).trans ?_
  refine (pu_if10 ((w 2).1 0 = 0) (fun v => fd_X4_countRows_L28_2 x (w 0) (w 1) (w 2) (w 3) (w 4) (w 5) (w 6) (w 7) v (0 + pu_cw w 0 + pu_cw w 1))).trans ?_
  refine (pu_if10 ((w 3).1 0 = 0) (fun v => fd_X4_countRows_L28_3 x (w 0) (w 1) (w 2) (w 3) (w 4) (w 5) (w 6) (w 7) v (0 + pu_cw w 0 + pu_cw w 1 + pu_cw w 2))).trans ?_
  refine (pu_if10 ((w 4).1 0 = 0) (fun v => fd_X4_countRows_L28_4 x (w 0) (w 1) (w 2) (w 3) (w 4) (w 5) (w 6) (w 7) v (0 + pu_cw w 0 + pu_cw w 1 + pu_cw w 2 + pu_cw w 3))).trans ?_
  refine (pu_if10 ((w 5).1 0 = 0) (fun v => fd_X4_countRows_L28_5 x (w 0) (w 1) (w 2) (w 3) (w 4) (w 5) (w 6) (w 7) v (0 + pu_cw w 0 + pu_cw w 1 + pu_cw w 2 + pu_cw w 3 + pu_cw w 4))).trans ?_
  refine (pu_if10 ((w 6).1 0 = 0) (fun v => fd_X4_countRows_L28_6 x (w 0) (w 1) (w 2) (w 3) (w 4) (w 5) (w 6) (w 7) v (0 + pu_cw w 0 + pu_cw w 1 + pu_cw w 2 + pu_cw w 3 + pu_cw w 4 + pu_cw w 5))).trans ?_
  refine (pu_if10 ((w 7).1 0 = 0) (fun v => fd_X4_countRows_L28_7 x (w 0) (w 1) (w 2) (w 3) (w 4) (w 5) (w 6) (w 7) v (0 + pu_cw w 0 + pu_cw w 1 + pu_cw w 2 + pu_cw w 3 + pu_cw w 4 + pu_cw w 5 + pu_cw w 6))).trans ?_
  rfl
theorem pu_c5st {w : Nat → ob_B} {m : ob_B} (hw : ∀ i, i < 8 → pu_w (w i) m i) (a z : Int32) (fu i : Nat) (hi : i < 8) : fd_X5_count_L4 (fu + 1) m a z (nI i) = fd_X5_count_L4 fu m a (z + pu_cw w i) (nI (i + 1)) := by
  rw [fd_X5_count_L4, if_neg (show ¬ (8 : Int32) ≤ nI i from pu_nle (n := 8) (by omega) (by omega)), pu_ck i 8 _ (by omega) (by omega), pu_cl (by omega), pu_lt, pu_lt, pu_lt, pu_lt, nI_1]
  unfold pu_cw
  rcases hw i hi with ⟨w0, n0⟩ | ⟨w0, ⟨l, hl, w1, n1⟩, -⟩
  · rw [w0, n0, if_neg (show ¬ (0 : Int32) ≤ -1 by decide), if_neg pu_10]
  · rw [w0, n1, if_pos (pu_0le (by omega)), if_pos rfl]
theorem pu_cn5 {w : Nat → ob_B} {m : ob_B} (hw : ∀ i, i < 8 → pu_w (w i) m i) (a : Int32) : fd_X5_count m a = fd_X5_count_L33 m a (0 + pu_cw w 0 + pu_cw w 1 + pu_cw w 2 + pu_cw w 3 + pu_cw w 4 + pu_cw w 5 + pu_cw w 6 + pu_cw w 7) := by
  unfold fd_X5_count
  refine (pu_c5st hw a 0 1999 0 (by omega)).trans ?_
  refine (pu_c5st hw a _ 1998 1 (by omega)).trans ?_
  refine (pu_c5st hw a _ 1997 2 (by omega)).trans ?_
  refine (pu_c5st hw a _ 1996 3 (by omega)).trans ?_
  refine (pu_c5st hw a _ 1995 4 (by omega)).trans ?_
  refine (pu_c5st hw a _ 1994 5 (by omega)).trans ?_
  refine (pu_c5st hw a _ 1993 6 (by omega)).trans ?_
  refine (pu_c5st hw a _ 1992 7 (by omega)).trans ?_
  rw [fd_X5_count_L4, if_pos (by decide)]
theorem pu_count0 {x m : ob_B} (w : Nat → ob_B) (hw : ∀ i, i < 8 → pu_w (w i) m i) : ∃ r, fd_X4_countR x (w 0) (w 1) (w 2) (w 3) (w 4) (w 5) (w 6) (w 7) 0 = some r ∧ fd_X5_count m 0 = some r := by
  refine ⟨0 + pu_cw w 0 + pu_cw w 1 + pu_cw w 2 + pu_cw w 3 + pu_cw w 4 + pu_cw w 5 + pu_cw w 6 + pu_cw w 7, ?_, ?_⟩
  · unfold fd_X4_countR
    rw [if_pos rfl, pu_crow, pu_b1]
  · rw [pu_cn5 hw]
    unfold fd_X5_count_L33
    rw [if_pos rfl]
theorem pu_countN {x y q m : ob_B} {h : ob_H} {n : Nat} (w : Nat → ob_B) (hw : ∀ i, i < 8 → pu_w (w i) m i) (ho : pu_ok (m.2 12) n) (hr : pu_rr y (m.2 12) n) (hh : pu_hs h m) (ht : pu_tp q m) {a : Int32} (ha : a ≠ 0) : ∃ r, fd_X4_countN x y q h.1 a = some r ∧ fd_X5_count m a = some r := by
  rw [pu_cn5 hw]
  unfold fd_X4_countN fd_X5_count_L33
  obtain ⟨s, s1, s2, s3, s4⟩ := pu_open ho hr
  obtain ⟨r0, r1, r4, r2, r3, r5, r6, ra⟩ := hr
  obtain ⟨b, o, hb, hoo, h2, m18, h1, hk⟩ := hh
  obtain ⟨k, hk', q1, m4, -⟩ := ht
  rw [if_neg ha, if_neg ha, r4, r2, r5, r6, s3, s4, h2, m18, q1, m4, pu_c2, pu_c3, pu_c5, pu_c6]
  simp only [pu_b1]
  by_cases c1 : a = 1
  · rw [if_pos c1]; exact ⟨_, rfl, rfl⟩
  rw [if_neg c1]
  by_cases c2 : a = 2
  · rw [if_pos c2]; exact ⟨_, rfl, rfl⟩
  rw [if_neg c2]
  by_cases c3 : a = 3
  · rw [if_pos c3]; exact ⟨_, rfl, rfl⟩
  rw [if_neg c3]
  by_cases c4 : a = 4
  · rw [if_pos c4]; exact ⟨_, rfl, rfl⟩
  rw [if_neg c4]
  by_cases c5 : a = 5
  · rw [if_pos c5]; exact ⟨_, rfl, rfl⟩
  rw [if_neg c5]
  by_cases c6 : a = 6
  · rw [if_pos c6]; exact ⟨_, rfl, rfl⟩
  rw [if_neg c6]
  by_cases c7 : a = 7
  · rw [if_pos c7]; exact ⟨_, rfl, rfl⟩
  rw [if_neg c7]
  exact ⟨_, rfl, rfl⟩
