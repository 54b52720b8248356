theorem pu_Fn {q m : ob_B} (h : pu_F q m) : ¬ q.1 3 = 0 := by
  obtain ⟨p, h3, -⟩ := h
  exact h3
theorem pu_oathr {q m d : ob_B} {k p o : Nat} (ht : pu_ty q m k) (hp : p ≤ k) (q2 : q.1 2 = nI p) (q3 : q.1 3 = 0) (hn : pu_tn m k p) (ho : o ≤ 7) (hd : pu_rd d (m.2 13) o) : ∃ q' d' m', fd_X3_readOath q d (nI o) = some (q', d') ∧ pu_t3 m m' ∧ ((∃ e, o < 7 ∧ fd_X5_isOath m = some (1, m') ∧ pu_S q' m' k e ∧ pu_rd d' (m'.2 13) (o + 1)) ∨ (fd_X5_isOath m = some (0, m') ∧ pu_F q' m')) := by
  have z0 : ¬ ¬ ((0 : Int32) &&& 1 = 0) := by decide
  obtain ⟨s, s5, hc1, hc5, hs6⟩ := pu_sort ht hp q2 hn (nI o)
  unfold fd_X3_readOath
  rw [hc1, hc5]
  unfold fd_X3_readSort_L32 fd_X5_isOath_L18 fd_X5_fails fd_X3_stop
  by_cases h0 : s = 0
  · subst h0
    have hF : pu_F (ob_I q 3 1) (ob_I m 10 1) := pu_stopF (by decide) q2 hn.1
    obtain ⟨f1, f2⟩ := pu_stp hF
    rw [if_neg (show ¬ (1 : Int32) ≤ nI 0 by decide), if_pos (show nI 0 = 0 from rfl), pu_lt, pu_b2, pu_b2, pu_lt, pu_b2, if_neg z0, f2, pu_b2, f1, pu_b1, f2, pu_b2, f1, pu_b1, f2, pu_b2, f1, pu_b1, if_neg (pu_Fn hF)]
    exact ⟨_, _, _, rfl, pu_t3_of (pu_tk_10 ⟨fun _ _ _ _ _ _ => rfl, rfl⟩), Or.inr ⟨rfl, hF⟩⟩
  have hs1 : (1 : Int32) ≤ nI s := (nI_leI (a := 1) (by omega) (by omega)).mpr (by omega)
  have hs0 : ¬ nI s = 0 := nI_ne0 (by omega) (by omega)
  obtain ⟨hpk, m6⟩ := hs6 (by omega)
  have f2' : m.2 13 2 = nI o := hd.1.2.1
  rw [if_pos hs1, if_neg hs0, pu_c2, f2', pu_lt (nI o)]
  by_cases h7 : o = 7
  · subst h7
    have hF : pu_F (ob_I q 3 3) (ob_I m 10 3) := pu_stopF (by decide) q2 hn.1
    obtain ⟨f1, f2⟩ := pu_stp hF
    rw [if_neg (show ¬ nI 7 < 7 by decide), if_pos (show nI 7 = 7 from rfl), pu_lt, pu_b2, pu_b2, pu_lt, pu_b2, if_neg z0, f2, pu_b2, f1, pu_b1, f2, pu_b2, f1, pu_b1, f2, pu_b2, f1, pu_b1, if_neg (pu_Fn hF)]
    exact ⟨_, _, _, rfl, pu_t3_of (pu_tk_10 ⟨fun _ _ _ _ _ _ => rfl, rfl⟩), Or.inr ⟨rfl, hF⟩⟩
  have ho7 : o < 7 := by omega
  rw [if_pos (show nI o < 7 from (pu_ltI (b := 7) (by omega) (by omega)).mpr ho7), if_neg (show ¬ nI o = 7 from fun h => h7 ((nI_eq (b := 7) (by omega) (by omega)).mp h)), pu_7, pu_ck (7 + o) 42 _ (by omega) (by omega), pu_cl (by omega), pu_lt, pu_lt, pu_lt, q2, nI_1, pu_b2]
  have hS0 : pu_S (ob_I q 2 (nI (p + 1))) (ob_A m 13 (upd (m.2 13) (7 + o) (nI s))) k (p + 1) := ⟨pu_ty_I (by decide) ht, hpk, pu_II _ _ _, (pu_In _ _ (by decide)).trans q3, m6⟩
  have g0 : (ob_A m 13 (upd (m.2 13) (7 + o) (nI s))).2 13 = upd (m.2 13) (7 + o) (nI s) := by funext j; exact pu_AA _ _ _ j
  have t0 : pu_t3 m (ob_A m 13 (upd (m.2 13) (7 + o) (nI s))) := pu_t3_A _
  generalize ob_A m 13 (upd (m.2 13) (7 + o) (nI s)) = m0 at *
  generalize ob_I q 2 (nI (p + 1)) = q0 at *
  rw [show fd_X5_isOath_L60 2000 m0 (nI o) 0 = fd_X5_isOath_L96 (fd_X5_isOath_L60 1999) m0 (nI o) (nI 0) (nI 9) (nI 0) from pu_60a 1999 m0 (nI o)]
  obtain ⟨r, qa, qb, ma, a1, a2, a3, ⟨va, ea, a4, a5, rfl, a6, a7, a8⟩ | ⟨a6, a7⟩⟩ := pu_ost (z := 0) (lo := 0) (hi := 9) (c := 44) (i := 14 + o) (K := fd_X5_isOath_L60 1999) hS0 ho7 (by omega) (by omega) (by omega) rfl (by omega)
  rotate_left
  · obtain ⟨f1, f2⟩ := pu_stp a7
    rw [a6, show fd_X3_readNumber q0 0 9 = some (r, qa) from a1, pu_b2, show fd_X3_readByte qa 44 = some qb from a2, pu_b1, f2, pu_b2, f1, pu_b1, f2, pu_b2, f1, pu_b1, if_neg (pu_Fn a7)]
    exact ⟨_, _, _, rfl, pu_t3_tr t0 a3, Or.inr ⟨rfl, a7⟩⟩
  rw [a6, show fd_X3_readNumber q0 0 9 = some (nI va, qa) from a1, pu_b2, show fd_X3_readByte qa 44 = some qb from a2, pu_b1, show fd_X5_isOath_L60 1999 ma (nI o) (nI (0 + 1)) = fd_X5_isOath_L96 (fd_X5_isOath_L60 1998) ma (nI o) (nI 1) (nI 20) (nI 1) from pu_60b 1998 ma (nI o)]
  obtain ⟨r, qc, qd, mc, c1, c2, c3, ⟨vc, ec, c4, c5, rfl, c6, c7, c8⟩ | ⟨c6, c7⟩⟩ := pu_ost (z := 1) (lo := 1) (hi := 20) (c := 44) (i := 21 + o) (K := fd_X5_isOath_L60 1998) a7 ho7 (by omega) (by omega) (by omega) rfl (by omega)
  rotate_left
  · obtain ⟨f1, f2⟩ := pu_stp c7
    rw [c6, show fd_X3_readNumber qb 1 20 = some (r, qc) from c1, pu_b2, show fd_X3_readByte qc 44 = some qd from c2, pu_b1, f2, pu_b2, f1, pu_b1, if_neg (pu_Fn c7)]
    exact ⟨_, _, _, rfl, pu_t3_tr t0 (pu_t3_tr a3 c3), Or.inr ⟨rfl, c7⟩⟩
  rw [c6, show fd_X3_readNumber qb 1 20 = some (nI vc, qc) from c1, pu_b2, show fd_X3_readByte qc 44 = some qd from c2, pu_b1, show fd_X5_isOath_L60 1998 mc (nI o) (nI (1 + 1)) = fd_X5_isOath_L96 (fd_X5_isOath_L60 1997) mc (nI o) (nI 2) (nI 60) (nI 1) from pu_60c 1997 mc (nI o)]
  obtain ⟨r, qe, qf, me, e1, e2, e3, ⟨ve, ee, e4, e5, rfl, e6, e7, e8⟩ | ⟨e6, e7⟩⟩ := pu_ost (z := 2) (lo := 1) (hi := 60) (c := 59) (i := 28 + o) (K := fd_X5_isOath_L60 1997) c7 ho7 (by omega) (by omega) (by omega) rfl (by omega)
  rotate_left
  · rw [e6, show fd_X3_readNumber qd 1 60 = some (r, qe) from e1, pu_b2, show fd_X3_readByte qe 59 = some qf from e2, pu_b1, if_neg (pu_Fn e7)]
    exact ⟨_, _, _, rfl, pu_t3_tr t0 (pu_t3_tr a3 (pu_t3_tr c3 e3)), Or.inr ⟨rfl, e7⟩⟩
  rw [e6, show fd_X3_readNumber qd 1 60 = some (nI ve, qe) from e1, pu_b2, show fd_X3_readByte qe 59 = some qf from e2, pu_b1, if_pos e7.2.2.2.1, show fd_X5_isOath_L60 1997 me (nI o) (nI (2 + 1)) = fd_X5_isOath_L149 me from pu_60d 1996 me (nI o)]
  have hf : me.2 13 = upd (upd (upd (upd (m.2 13) (7 + o) (nI s)) (14 + o) (nI va)) (21 + o) (nI vc)) (28 + o) (nI ve) := by rw [e8, c8, a8, g0]
  have hf2 : me.2 13 2 = nI o := by
    rw [hf, pu_un _ _ (by omega), pu_un _ _ (by omega), pu_un _ _ (by omega), pu_un _ _ (by omega)]
    exact f2'
  obtain ⟨d', g1, g2⟩ := pu_addo (u := ve) hd ho7 (show 1 ≤ s by omega) s5 (show va < 10 by omega) c4 c5
  unfold fd_X5_isOath_L149
  rw [g1, pu_b1, pu_c2, hf2, nI_1, pu_lt, pu_lt]
  refine ⟨_, _, _, rfl, pu_t3_tr t0 (pu_t3_tr a3 (pu_t3_tr c3 (pu_t3_tr e3 (pu_t3_A (upd (me.2 13) 2 (nI (o + 1))))))), Or.inl ⟨ee, ho7, rfl, e7, ?_⟩⟩
  have : (ob_A me 13 (upd (me.2 13) 2 (nI (o + 1)))).2 13 = upd (me.2 13) 2 (nI (o + 1)) := by funext j; exact pu_AA _ _ _ j
  rw [this, hf]
  exact g2
