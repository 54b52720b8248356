/-- what the reference's tokens change -/
def pu_tk (m m' : ob_B) : Prop := (∀ s, s ≠ 6 → s ≠ 7 → s ≠ 8 → s ≠ 9 → s ≠ 10 → m'.1 s = m.1 s) ∧ m'.2 = m.2
def pu_ch (v : Nat) : Prop := (97 ≤ v ∧ v ≤ 122) ∨ v = 44 ∨ v = 59
/-- the token at p has been read -/
def pu_tn (m : ob_B) (k p : Nat) : Prop := m.1 7 = nI p ∧ ((p = k ∧ m.1 8 = -2) ∨ (p < k ∧ ∃ v, v < 256 ∧ m.2 5 p = nI v ∧ (((48 ≤ v ∧ v ≤ 57) ∧ (m.1 8 = -1 ∨ m.1 8 = -3)) ∨ ((¬ (48 ≤ v ∧ v ≤ 57)) ∧ m.1 6 = nI (p + 1) ∧ ((pu_ch v ∧ m.1 8 = nI v) ∨ (¬ pu_ch v ∧ m.1 8 = -3))))))
theorem pu_az : ∀ v, v < 256 → fd_X5_in (nI v) 97 122 = some (if 97 ≤ v ∧ v ≤ 122 then 1 else 0) := by decide +kernel
theorem pu_ntk {q m : ob_B} {k p : Nat} (hp : p ≤ k) (ht : pu_ty q m k) (h6 : m.1 6 = nI p) (lo hi : Int32) : ∃ m', fd_X5_nextToken m = some m' ∧ pu_tk m m' ∧ pu_tn m' k p ∧
    ((m'.1 8 ≠ -1 ∧ (fd_X3_readNumber_L17 2000 q lo hi (nI p) 0 = fd_X3_readNumber_L65 q lo hi (nI p) 0 ∨ ∃ e n1, p < e ∧ e ≤ k ∧ ¬ e - p ≤ 2 ∧ fd_X3_readNumber_L17 2000 q lo hi (nI p) 0 = fd_X3_readNumber_L65 q lo hi (nI e) (nI n1))) ∨ (∃ e n1, p < e ∧ e ≤ k ∧ e - p ≤ 2 ∧ n1 ≤ 99 ∧ m'.1 8 = -1 ∧ m'.1 6 = nI e ∧ m'.1 9 = nI n1 ∧ fd_X3_readNumber_L17 2000 q lo hi (nI p) 0 = fd_X3_readNumber_L65 q lo hi (nI e) (nI n1))) := by
  obtain ⟨hk, q1, m4, hb⟩ := id ht
  have b6 : (ob_I (ob_I m 7 (nI p)) 9 0).1 6 = nI p := (pu_In _ _ (by decide)).trans ((pu_In _ _ (by decide)).trans h6)
  have b7 : (ob_I (ob_I m 7 (nI p)) 9 0).1 7 = nI p := (pu_In _ _ (by decide)).trans (pu_II _ _ _)
  have b9 : (ob_I (ob_I m 7 (nI p)) 9 0).1 9 = nI 0 := pu_II _ _ _
  have b4 : (ob_I (ob_I m 7 (nI p)) 9 0).1 4 = nI k := (pu_In _ _ (by decide)).trans ((pu_In _ _ (by decide)).trans m4)
  have bs : ∀ s, s ≠ 7 → s ≠ 9 → (ob_I (ob_I m 7 (nI p)) 9 0).1 s = m.1 s := fun s h7 h9 => (pu_un _ _ h9).trans (pu_un _ _ h7)
  have b2 : (ob_I (ob_I m 7 (nI p)) 9 0).2 = m.2 := rfl
  obtain ⟨e, n1, n2, m1, g1, g2, g3, g4, g5, g6, g7, g8, g9, g10, g11, g12⟩ := pu_digs (q := q) (k := k) (p := p) lo hi (k - p) p 0 0 (ob_I (ob_I m 7 (nI p)) 9 0) (by omega) (Nat.le_refl _) ⟨hk, q1, b4, hb⟩ b6 b7 b9 (by omega) (by omega) (fun _ => rfl) (fun _ => by omega) (fun _ => rfl) 2000 2000 (by omega) (by omega)
  unfold fd_X5_nextToken
  rw [pu_lt, pu_lt, pu_lt, h6]
  generalize hB : ob_I (ob_I m 7 (nI p)) 9 0 = B at *
  rw [b6, b4]
  by_cases hpk : p = k
  · rw [if_pos (by rw [hpk]), pu_lt]
    have : e = p := g4 (fun h => by have := h.1; omega)
    subst this
    refine ⟨_, rfl, ⟨fun s _ h7 h8 h9 _ => (pu_un _ _ h8).trans (bs s h7 h9), b2⟩, ⟨(pu_In _ _ (by decide)).trans b7, Or.inl ⟨hpk, pu_II _ _ _⟩⟩, Or.inl ⟨by rw [pu_II]; decide, Or.inl ?_⟩⟩
    rw [fd_X3_readNumber_L17, q1, if_pos (by rw [hpk]; exact pu_le)]
  · obtain ⟨bq, v, hv, bv⟩ := hb p (by omega)
    rw [if_neg (fun h => hpk ((nI_eq (by omega) (by omega)).mp h)), pu_ck p 100 _ (by omega) (by omega), pu_cl (by omega), pu_lt, b2, bv, pu_fi5, pu_fig v hv, pu_b1]
    by_cases hf : 48 ≤ v ∧ v ≤ 57
    · rw [if_pos hf, if_neg pu_10, g6]
      have hpe : p < e := g3 ⟨by omega, v, hf.1, hf.2, by rw [b2]; exact bv⟩
      have e67 : m1.1 6 - m1.1 7 = nI (e - p) := by rw [g9, g8 7 (by decide) (by decide), b7, pk_sub (by omega)]
      unfold fd_X5_nextToken_L139
      rw [e67]
      by_cases h2 : e - p ≤ 2
      · obtain ⟨h21, h22⟩ := g12 h2
        rw [if_pos (show nI (e - p) ≤ 2 from (nI_leI (b := 2) (by omega) (by omega)).mpr h2), pu_lt]
        refine ⟨_, rfl, ⟨fun s h6 h7 h8 h9 _ => (pu_un _ _ h8).trans ((g8 s h6 h9).trans (bs s h7 h9)), g7.trans b2⟩, ⟨(pu_In _ _ (by decide)).trans ((g8 7 (by decide) (by decide)).trans b7), Or.inr ⟨by omega, v, hv, ?_, Or.inl ⟨hf, Or.inl (pu_II _ _ _)⟩⟩⟩, Or.inr ⟨e, n1, hpe, g2, h2, h22, pu_II _ _ _, (pu_In _ _ (by decide)).trans g9, (pu_In _ _ (by decide)).trans (g10.trans (by rw [h21])), g5⟩⟩
        show m1.2 5 p = nI v
        rw [g7, b2]; exact bv
      · rw [if_neg (show ¬ nI (e - p) ≤ 2 from fun x => h2 ((nI_leI (b := 2) (by omega) (by omega)).mp x)), pu_lt]
        refine ⟨_, rfl, ⟨fun s h6 h7 h8 h9 _ => (pu_un _ _ h8).trans ((g8 s h6 h9).trans (bs s h7 h9)), g7.trans b2⟩, ⟨(pu_In _ _ (by decide)).trans ((g8 7 (by decide) (by decide)).trans b7), Or.inr ⟨by omega, v, hv, ?_, Or.inl ⟨hf, Or.inr (pu_II _ _ _)⟩⟩⟩, Or.inl ⟨by rw [pu_II]; decide, Or.inr ⟨e, n1, hpe, g2, h2, g5⟩⟩⟩
        show m1.2 5 p = nI v
        rw [g7, b2]; exact bv
    · rw [if_neg hf, if_pos rfl]
      have hfg : ¬ pu_fg (B.2 5) k p := by
        rintro ⟨-, u, u1, u2, eu⟩
        rw [b2] at eu
        have : v = u := (nI_eq (by omega) (by omega)).mp (bv.symm.trans eu)
        omega
      have hrn : fd_X3_readNumber_L17 2000 q lo hi (nI p) 0 = fd_X3_readNumber_L65 q lo hi (nI p) 0 := by
        rw [fd_X3_readNumber_L17, q1, if_neg (pu_nle (by omega) (by omega)), pu_ck p 100 _ (by omega) (by omega), pu_cl (by omega), bq, bv, pu_fig v hv, if_neg hf, pu_b1, if_pos rfl]
      have fin : ∀ t : Int32, t ≠ -1 → ((pu_ch v ∧ t = nI v) ∨ (¬ pu_ch v ∧ t = -3)) → ∃ m', fd_X5_nextToken_L193 B t = some m' ∧ pu_tk m m' ∧ pu_tn m' k p ∧
          ((m'.1 8 ≠ -1 ∧ (fd_X3_readNumber_L17 2000 q lo hi (nI p) 0 = fd_X3_readNumber_L65 q lo hi (nI p) 0 ∨ ∃ e n1, p < e ∧ e ≤ k ∧ ¬ e - p ≤ 2 ∧ fd_X3_readNumber_L17 2000 q lo hi (nI p) 0 = fd_X3_readNumber_L65 q lo hi (nI e) (nI n1))) ∨ (∃ e n1, p < e ∧ e ≤ k ∧ e - p ≤ 2 ∧ n1 ≤ 99 ∧ m'.1 8 = -1 ∧ m'.1 6 = nI e ∧ m'.1 9 = nI n1 ∧ fd_X3_readNumber_L17 2000 q lo hi (nI p) 0 = fd_X3_readNumber_L65 q lo hi (nI e) (nI n1))) := by
        intro t ht1 ht2
        unfold fd_X5_nextToken_L193
        rw [pu_lt, pu_lt, pu_lt, show (ob_I B 8 t).1 6 = nI p from (pu_In _ _ (by decide)).trans b6, nI_1]
        have e8 : (ob_I (ob_I B 8 t) 6 (nI (p + 1))).1 8 = t := (pu_In _ _ (by decide)).trans (pu_II _ _ _)
        refine ⟨_, rfl, ⟨fun s h6 h7 h8 h9 _ => (pu_un _ _ h6).trans ((pu_un _ _ h8).trans (bs s h7 h9)), b2⟩, ⟨(pu_In _ _ (by decide)).trans ((pu_In _ _ (by decide)).trans b7), Or.inr ⟨by omega, v, hv, (congrFun (congrFun b2 5) p).trans bv, Or.inr ⟨hf, pu_II _ _ _, ?_⟩⟩⟩, Or.inl ⟨by rw [e8]; exact ht1, Or.inl hrn⟩⟩
        rw [e8]
        exact ht2
      have hv1 : nI v ≠ -1 := fun h => by
        have := congrArg Int32.toInt h
        rw [nI_toInt (by omega), show (-1 : Int32).toInt = -1 from rfl] at this
        omega
      rw [pu_az v hv, pu_b1]
      unfold fd_X5_nextToken_L187
      by_cases ha : 97 ≤ v ∧ v ≤ 122
      · rw [if_pos ha, if_neg pu_10]
        exact fin _ hv1 (Or.inl ⟨Or.inl ha, rfl⟩)
      · rw [if_neg ha, if_pos rfl]
        by_cases hc : v = 44
        · rw [if_pos (show nI v = 44 by rw [hc]; rfl)]
          exact fin _ hv1 (Or.inl ⟨Or.inr (Or.inl hc), rfl⟩)
        · rw [if_neg (show ¬ nI v = 44 from fun h => hc ((nI_eq (b := 44) (by omega) (by omega)).mp h))]
          by_cases hs : v = 59
          · rw [if_pos (show nI v = 59 by rw [hs]; rfl)]
            exact fin _ hv1 (Or.inl ⟨Or.inr (Or.inr hs), rfl⟩)
          · rw [if_neg (show ¬ nI v = 59 from fun h => hs ((nI_eq (b := 59) (by omega) (by omega)).mp h))]
            exact fin _ (by decide) (Or.inr ⟨fun h => h.elim ha (fun h => h.elim hc hs), rfl⟩)
