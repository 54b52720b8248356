def pu_sv (v : Nat) : Nat := if v = 111 then 1 else if v = 109 then 2 else if v = 108 then 3 else if v = 102 then 4 else if v = 118 then 5 else 0
set_option maxRecDepth 100000 in
theorem pu_ixo : ∀ v, v < 256 → fd_J0_indexOf_0f7a4 (UInt32.toInt32 ((Int32.toUInt32 (nI v)) % 65536)) = some (nI (pu_sv v) - 1) := by decide +kernel
theorem pu_sby : ∀ v, v < 256 → fd_X5_sortBy (nI v) = some (nI (pu_sv v)) := by decide +kernel
theorem pu_sv5 (v : Nat) : pu_sv v ≤ 5 ∧ (pu_sv v ≠ 0 → 97 ≤ v ∧ v ≤ 122) := by
  unfold pu_sv
  split
  · exact ⟨by omega, fun _ => by omega⟩
  · split
    · exact ⟨by omega, fun _ => by omega⟩
    · split
      · exact ⟨by omega, fun _ => by omega⟩
      · split
        · exact ⟨by omega, fun _ => by omega⟩
        · split
          · exact ⟨by omega, fun _ => by omega⟩
          · exact ⟨by omega, fun h => absurd rfl h⟩
theorem pu_sort {q m : ob_B} {k p : Nat} (ht : pu_ty q m k) (hp : p ≤ k) (q2 : q.1 2 = nI p) (hn : pu_tn m k p) (x1 : Int32) : ∃ s, s ≤ 5 ∧ fd_X3_readSort q x1 = fd_X3_readSort_L32 q x1 (nI s) ∧ fd_X5_isOath m = fd_X5_isOath_L18 m (nI s) ∧ (1 ≤ s → p < k ∧ m.1 6 = nI (p + 1)) := by
  obtain ⟨hk, q1, m4, hb⟩ := ht
  unfold fd_X3_readSort fd_X5_isOath
  rw [q1, q2]
  obtain ⟨-, ⟨h0, h8⟩ | ⟨h0, v, hv, ev, h1⟩⟩ := hn
  · rw [if_pos (by rw [h0]; exact pu_le), h8, if_pos (by decide)]
    exact ⟨0, by omega, rfl, rfl, fun h => by omega⟩
  · obtain ⟨bq, -⟩ := hb p h0
    rw [if_neg (pu_nle h0 (by omega)), pu_ck p 100 _ (by omega) (by omega), pu_cl (by omega), bq, ev, pu_ixo v hv, pu_b1, Int32.sub_add_cancel]
    obtain ⟨s5, sc⟩ := pu_sv5 v
    rcases h1 with ⟨hf, h8 | h8⟩ | ⟨hf, h6, ⟨hc, h8⟩ | ⟨hc, h8⟩⟩
    · have e : pu_sv v = 0 := Decidable.byContradiction (fun h => by have := sc h; omega)
      rw [h8, if_pos (by decide), e]
      exact ⟨0, by omega, rfl, rfl, fun h => by omega⟩
    · have e : pu_sv v = 0 := Decidable.byContradiction (fun h => by have := sc h; omega)
      rw [h8, if_pos (by decide), e]
      exact ⟨0, by omega, rfl, rfl, fun h => by omega⟩
    · have hv0 : 0 < v := by
        unfold pu_ch at hc
        omega
      rw [h8, if_neg (nI_nle hv0 (by omega)), pu_sby v hv, pu_b1]
      exact ⟨pu_sv v, s5, rfl, rfl, fun _ => ⟨h0, h6⟩⟩
    · have e : pu_sv v = 0 := Decidable.byContradiction (fun h => hc (Or.inl (sc h)))
      rw [h8, if_pos (by decide), e]
      exact ⟨0, by omega, rfl, rfl, fun h => by omega⟩
theorem pu_ost {q m : ob_B} {k p o z lo hi c i : Nat} {K : ob_B → Int32 → Int32 → Option (Int32 × ob_B)} (hS : pu_S q m k p) (ho : o < 7) (hz : z < 3) (hlo : lo < 100) (hhi : hi < 100) (hc : c = if z = 2 then 59 else 44) (hi' : i = 14 + 7 * z + o) : ∃ r q1 q2 m', fd_X3_readNumber q (nI lo) (nI hi) = some (r, q1) ∧ fd_X3_readByte q1 (nI c) = some q2 ∧ pu_t3 m m' ∧
    ((∃ v e, lo ≤ v ∧ v ≤ hi ∧ r = nI v ∧ fd_X5_isOath_L96 K m (nI o) (nI z) (nI hi) (nI lo) = K m' (nI o) (nI (z + 1)) ∧ pu_S q2 m' k e ∧ m'.2 13 = upd (m.2 13) i (nI v)) ∨ (fd_X5_isOath_L96 K m (nI o) (nI z) (nI hi) (nI lo) = some (0, m') ∧ pu_F q2 m')) := by
  have hc' : c = 99 ∨ c = 44 ∨ c = 59 := by
    rw [hc]
    split
    · omega
    · omega
  have ix : (14 + 7 * nI z) + nI o = nI i := by
    rw [show (7 : Int32) * nI z = nI (7 * z) from pk_mul 7 z, pu_14, nI_add, hi']
  have hL : ∀ b : ob_B, (if nI z = 2 then fd_X5_isOath_L135 K b (nI o) (nI z) 59 else fd_X5_isOath_L135 K b (nI o) (nI z) 44) = fd_X5_isOath_L135 K b (nI o) (nI z) (nI c) := by
    intro b
    have : z = 0 ∨ z = 1 ∨ z = 2 := by omega
    rcases this with rfl | rfl | rfl
    · rw [if_neg (by decide), hc]; rfl
    · rw [if_neg (by decide), hc]; rfl
    · rw [if_pos (show nI 2 = 2 from rfl), hc]; rfl
  unfold fd_X5_isOath_L96
  obtain ⟨r, q1, q2, m1, b1, b2, ⟨v, e, m2, v1, v2, rfl, b3, b4, b5, b6, b7, b8, b9⟩ | ⟨v, m2, b3, b4, b5, b6, b7⟩ | ⟨b3, b4, b5⟩⟩ := pu_ns (lo := lo) (hi := hi) (c := c) (i := i) hS hlo hhi hc'
  · rw [b3, pu_b2, if_neg pu_10, pu_lt, ix, pu_ck i 42 _ (by omega) (by omega), pu_cl (by omega), pu_lt, b4, hL]
    unfold fd_X5_isOath_L135
    rw [b6, pu_b2, if_neg pu_10, pu_lt, nI_1]
    exact ⟨_, _, _, _, b1, b2, b7, Or.inl ⟨v, e, v1, v2, rfl, rfl, b8, b9⟩⟩
  · rw [b3, pu_b2, if_neg pu_10, pu_lt, ix, pu_ck i 42 _ (by omega) (by omega), pu_cl (by omega), pu_lt, b4, hL]
    unfold fd_X5_isOath_L135
    rw [b5, pu_b2, if_pos rfl]
    exact ⟨_, _, _, _, b1, b2, b6, Or.inr ⟨rfl, b7⟩⟩
  · rw [b3, pu_b2, if_pos rfl]
    exact ⟨_, _, _, _, b1, b2, b4, Or.inr ⟨rfl, b5⟩⟩
theorem pu_60a (fu : Nat) (m : ob_B) (x : Int32) : fd_X5_isOath_L60 (fu + 1) m x (nI 0) = fd_X5_isOath_L96 (fd_X5_isOath_L60 fu) m x (nI 0) (nI 9) (nI 0) := by
  rw [fd_X5_isOath_L60, if_neg (by decide), if_pos (show nI 0 = 0 from rfl)]
  unfold fd_X5_isOath_L75
  rw [if_pos (show nI 0 = 0 from rfl)]
  rfl
theorem pu_60b (fu : Nat) (m : ob_B) (x : Int32) : fd_X5_isOath_L60 (fu + 1) m x (nI 1) = fd_X5_isOath_L96 (fd_X5_isOath_L60 fu) m x (nI 1) (nI 20) (nI 1) := by
  rw [fd_X5_isOath_L60, if_neg (by decide), if_neg (by decide)]
  unfold fd_X5_isOath_L75
  rw [if_neg (by decide), if_pos (show nI 1 = 1 from rfl)]
  rfl
theorem pu_60c (fu : Nat) (m : ob_B) (x : Int32) : fd_X5_isOath_L60 (fu + 1) m x (nI 2) = fd_X5_isOath_L96 (fd_X5_isOath_L60 fu) m x (nI 2) (nI 60) (nI 1) := by
  rw [fd_X5_isOath_L60, if_neg (by decide), if_neg (by decide)]
  unfold fd_X5_isOath_L75
  rw [if_neg (by decide), if_neg (by decide)]
  rfl
theorem pu_60d (fu : Nat) (m : ob_B) (x : Int32) : fd_X5_isOath_L60 (fu + 1) m x (nI 3) = fd_X5_isOath_L149 m := by
  rw [fd_X5_isOath_L60, if_pos (by decide)]
