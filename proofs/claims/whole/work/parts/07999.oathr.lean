theorem pu_law {q m d : ob_B} {k : Nat} (hS : pu_S q m k 0) : ∃ q' d' m', fd_X3_readLaw q d = some (q', d') ∧ pu_t3 m m' ∧ ((∃ p a h, a < 10 ∧ h < 10 ∧ fd_X5_isLaw m = some (1, m') ∧ pu_S q' m' k p ∧ d' = ob_I (ob_I d 0 (nI a)) 1 (nI h) ∧ m'.2 13 = upd (upd (m.2 13) 0 (nI a)) 1 (nI h)) ∨ (fd_X5_isLaw m = some (0, m') ∧ pu_F q' m')) := by
  have z1 : ¬ ¬ ((1 : Int32) &&& 1 = 1) := by decide
  have z0 : ¬ ¬ ((0 : Int32) &&& 1 = 0) := by decide
  unfold fd_X3_readLaw fd_X5_isLaw
  obtain ⟨q1, m1, a1, a2, ⟨a3, a4⟩ | ⟨a3, a4⟩⟩ := pu_sign (c := 99) hS (by omega)
  · rw [show fd_X3_readByte q 99 = some q1 from a1, show fd_X5_isSign m 99 = some (1, m1) from a3, pu_b1, pu_b2, if_neg pu_10]
    obtain ⟨r, q2, q3, m2, b1, b2, ⟨v, e, m3, v1, v2, rfl, b3, b4, b5, b6, b7, b8, b9⟩ | ⟨v, m3, b3, b4, b5, b6, b7⟩ | ⟨b3, b4, b5⟩⟩ := pu_ns (lo := 0) (hi := 9) (c := 44) (i := 0) a4 (by omega) (by omega) (by omega)
    · rw [show fd_X3_readNumber q1 0 9 = some (nI v, q2) from b1, show fd_X5_isNumber m1 0 9 = some (1, m2) from b3, pu_b2, pu_b2, if_neg pu_10, pu_lt, pu_lt, pu_lt, b4, pu_c0, show fd_X3_readByte q2 44 = some q3 from b2, show fd_X5_isSign (ob_A m2 13 (upd (m2.2 13) 0 (nI v))) 44 = some (1, m3) from b6, pu_b1, pu_b2, if_neg pu_10]
      obtain ⟨r, q4, q5, m4, c1, c2, ⟨u, e', m5, u1, u2, rfl, c3, c4, c5, c6, c7, c8, c9⟩ | ⟨u, m5, c3, c4, c5, c6, c7⟩ | ⟨c3, c4, c5⟩⟩ := pu_ns (lo := 0) (hi := 9) (c := 59) (i := 1) b8 (by omega) (by omega) (by omega)
      · rw [show fd_X3_readNumber q3 0 9 = some (nI u, q4) from c1, show fd_X5_isNumber m3 0 9 = some (1, m4) from c3, pu_b2, pu_b2, if_neg pu_10, pu_lt, pu_lt, pu_lt, c4, pu_c1, show fd_X3_readByte q4 59 = some q5 from c2, show fd_X5_isSign (ob_A m4 13 (upd (m4.2 13) 1 (nI u))) 59 = some (1, m5) from c6, pu_b1, pu_b2, if_neg z1]
        exact ⟨_, _, _, rfl, pu_t3_tr (pu_t3_of a2) (pu_t3_tr b7 c7), Or.inl ⟨e', v, u, by omega, by omega, rfl, c8, rfl, by rw [c9, b9, a2.2]⟩⟩
      · rw [show fd_X3_readNumber q3 0 9 = some (r, q4) from c1, show fd_X5_isNumber m3 0 9 = some (1, m4) from c3, pu_b2, pu_b2, if_neg pu_10, pu_lt, pu_lt, pu_lt, c4, pu_c1, show fd_X3_readByte q4 59 = some q5 from c2, show fd_X5_isSign (ob_A m4 13 (upd (m4.2 13) 1 (nI u))) 59 = some (0, m5) from c5, pu_b1, pu_b2, if_neg z0]
        exact ⟨_, _, _, rfl, pu_t3_tr (pu_t3_of a2) (pu_t3_tr b7 c6), Or.inr ⟨rfl, c7⟩⟩
      · rw [show fd_X3_readNumber q3 0 9 = some (r, q4) from c1, show fd_X5_isNumber m3 0 9 = some (0, m4) from c3, pu_b2, pu_b2, if_pos rfl, pu_lt, show fd_X3_readByte q4 59 = some q5 from c2, pu_b1]
        exact ⟨_, _, _, rfl, pu_t3_tr (pu_t3_of a2) (pu_t3_tr b7 c4), Or.inr ⟨rfl, c5⟩⟩
    · obtain ⟨f1, f2⟩ := pu_stp b7
      rw [show fd_X3_readNumber q1 0 9 = some (r, q2) from b1, show fd_X5_isNumber m1 0 9 = some (1, m2) from b3, pu_b2, pu_b2, if_neg pu_10, pu_lt, pu_lt, pu_lt, b4, pu_c0, show fd_X3_readByte q2 44 = some q3 from b2, show fd_X5_isSign (ob_A m2 13 (upd (m2.2 13) 0 (nI v))) 44 = some (0, m3) from b5, pu_b1, pu_b2, if_pos rfl, f2, pu_b2, pu_lt, f1, pu_b1]
      exact ⟨_, _, _, rfl, pu_t3_tr (pu_t3_of a2) b6, Or.inr ⟨rfl, b7⟩⟩
    · obtain ⟨f1, f2⟩ := pu_stp b5
      rw [show fd_X3_readNumber q1 0 9 = some (r, q2) from b1, show fd_X5_isNumber m1 0 9 = some (0, m2) from b3, pu_b2, pu_b2, if_pos rfl, pu_lt, show fd_X3_readByte q2 44 = some q3 from b2, pu_b1, f2, pu_b2, pu_lt, f1, pu_b1]
      exact ⟨_, _, _, rfl, pu_t3_tr (pu_t3_of a2) b4, Or.inr ⟨rfl, b5⟩⟩
  · obtain ⟨f1, f2⟩ := pu_stp a4
    rw [show fd_X3_readByte q 99 = some q1 from a1, show fd_X5_isSign m 99 = some (0, m1) from a3, pu_b1, pu_b2, if_pos rfl, f2, pu_b2, pu_lt, f1, pu_b1, f2, pu_b2, pu_lt, f1, pu_b1]
    exact ⟨_, _, _, rfl, pu_t3_of a2, Or.inr ⟨rfl, a4⟩⟩
/-- what has been read so far -/
def pu_rd (d : ob_B) (f : Nat → Int32) (o : Nat) : Prop := pu_ok f o ∧ pu_rr d f o ∧ ∀ j, j < 7 → f (35 + j) = 0
theorem pu_addo {d : ob_B} {f : Nat → Int32} {o s a w u : Nat} (h : pu_rd d f o) (ho : o < 7) (s1 : 1 ≤ s) (s5 : s ≤ 5) (ha : a < 10) (w1 : 1 ≤ w) (w2 : w ≤ 20) : ∃ d', fd_X1_addOath d (nI s) (nI a) (nI w) (nI u) = some d' ∧ pu_rd d' (upd (upd (upd (upd (upd f (7 + o) (nI s)) (14 + o) (nI a)) (21 + o) (nI w)) (28 + o) (nI u)) 2 (nI (o + 1))) (o + 1) := by
  obtain ⟨⟨hn, f2, ⟨c, hc, f0⟩, hk⟩, ⟨r0, r1, r4, r2, r3, r5, r6, ra⟩, h35⟩ := h
  have d4 : d.1 4 = nI o := r4.trans f2
  unfold fd_X1_addOath fd_X1_openTo
  have hlt : nI o < 7 := (pu_ltI (b := 7) (by omega) (by omega)).mpr ho
  rw [d4, if_pos hlt, pu_ck o 7 _ (by omega) (by omega), pu_cl (by omega), pu_lt]
  simp only [show ∀ (b : ob_B) (k : Nat) (g : Nat → Int32), (ob_A b k g).1 = b.1 from fun _ _ _ => rfl, d4]
  rw [pu_ck o 7 _ (by omega) (by omega), pu_cl (by omega), pu_lt]
  simp only [show ∀ (b : ob_B) (k : Nat) (g : Nat → Int32), (ob_A b k g).1 = b.1 from fun _ _ _ => rfl, d4]
  rw [pu_ck o 7 _ (by omega) (by omega), pu_cl (by omega), pu_lt, pu_ck2 o 7 _ (by omega) (by omega), pu_lt, pu_ck2 o 7 _ (by omega) (by omega), pu_lt, pu_b1, pu_lt, pu_lt]
  simp only [show ∀ (b : ob_B) (k : Nat) (g : Nat → Int32), (ob_A b k g).1 = b.1 from fun _ _ _ => rfl, d4, nI_1]
  have F : ∀ i, i ≠ 7 + o → i ≠ 14 + o → i ≠ 21 + o → i ≠ 28 + o → i ≠ 2 → (upd (upd (upd (upd (upd f (7 + o) (nI s)) (14 + o) (nI a)) (21 + o) (nI w)) (28 + o) (nI u)) 2 (nI (o + 1))) i = f i := fun i h1 h2 h3 h4 h5 => by
    rw [pu_un _ _ h5, pu_un _ _ h4, pu_un _ _ h3, pu_un _ _ h2, pu_un _ _ h1]
  have e7 : (upd (upd (upd (upd (upd f (7 + o) (nI s)) (14 + o) (nI a)) (21 + o) (nI w)) (28 + o) (nI u)) 2 (nI (o + 1))) (7 + o) = nI s := by
    rw [pu_un _ _ (by omega), pu_un _ _ (by omega), pu_un _ _ (by omega), pu_un _ _ (by omega), pu_us]
  have e14 : (upd (upd (upd (upd (upd f (7 + o) (nI s)) (14 + o) (nI a)) (21 + o) (nI w)) (28 + o) (nI u)) 2 (nI (o + 1))) (14 + o) = nI a := by
    rw [pu_un _ _ (by omega), pu_un _ _ (by omega), pu_un _ _ (by omega), pu_us]
  have e21 : (upd (upd (upd (upd (upd f (7 + o) (nI s)) (14 + o) (nI a)) (21 + o) (nI w)) (28 + o) (nI u)) 2 (nI (o + 1))) (21 + o) = nI w := by
    rw [pu_un _ _ (by omega), pu_un _ _ (by omega), pu_us]
  have e28 : (upd (upd (upd (upd (upd f (7 + o) (nI s)) (14 + o) (nI a)) (21 + o) (nI w)) (28 + o) (nI u)) 2 (nI (o + 1))) (28 + o) = nI u := by
    rw [pu_un _ _ (by omega), pu_us]
  have e35 : ∀ j, j < 7 → (upd (upd (upd (upd (upd f (7 + o) (nI s)) (14 + o) (nI a)) (21 + o) (nI w)) (28 + o) (nI u)) 2 (nI (o + 1))) (35 + j) = 0 := fun j hj => (F _ (by omega) (by omega) (by omega) (by omega) (by omega)).trans (h35 j hj)
  refine ⟨_, rfl, ⟨by omega, pu_us _ _ _, ⟨c, hc, (F 0 (by omega) (by omega) (by omega) (by omega) (by omega)).trans f0⟩, fun j hj => ?_⟩, ⟨(F 0 (by omega) (by omega) (by omega) (by omega) (by omega)).symm ▸ r0, (F 1 (by omega) (by omega) (by omega) (by omega) (by omega)).symm ▸ r1, ?_, (F 3 (by omega) (by omega) (by omega) (by omega) (by omega)).symm ▸ r2, (F 4 (by omega) (by omega) (by omega) (by omega) (by omega)).symm ▸ r3, (F 5 (by omega) (by omega) (by omega) (by omega) (by omega)).symm ▸ r5, (F 6 (by omega) (by omega) (by omega) (by omega) (by omega)).symm ▸ r6, fun j hj => ?_⟩, e35⟩
  · by_cases hj' : j = o
    · subst hj'
      rw [e7, e14, e21]
      exact ⟨⟨s, s1, s5, rfl⟩, ⟨a, ha, rfl⟩, ⟨w, w1, w2, rfl⟩⟩
    · rw [F (7 + j) (by omega) (by omega) (by omega) (by omega) (by omega), F (14 + j) (by omega) (by omega) (by omega) (by omega) (by omega), F (21 + j) (by omega) (by omega) (by omega) (by omega) (by omega)]
      exact hk j (by omega)
  · rw [pu_us]
    exact pu_II _ _ _
  · show upd (d.2 7) o (nI s) j = _ ∧ upd (d.2 8) o (nI a) j = _ ∧ upd (d.2 9) o (nI w) j = _ ∧ upd (d.2 10) o (nI u) j = _ ∧ upd (d.2 11) o 0 j = _
    by_cases hj' : j = o
    · subst hj'
      rw [e7, e14, e21, e28, e35 j ho, pu_us, pu_us, pu_us, pu_us, pu_us]
      exact ⟨rfl, rfl, rfl, rfl, rfl⟩
    · rw [pu_un _ _ hj', pu_un _ _ hj', pu_un _ _ hj', pu_un _ _ hj', pu_un _ _ hj', F (7 + j) (by omega) (by omega) (by omega) (by omega) (by omega), F (14 + j) (by omega) (by omega) (by omega) (by omega) (by omega), F (21 + j) (by omega) (by omega) (by omega) (by omega) (by omega), F (28 + j) (by omega) (by omega) (by omega) (by omega) (by omega), F (35 + j) (by omega) (by omega) (by omega) (by omega) (by omega)]
      exact ra j (by omega)
