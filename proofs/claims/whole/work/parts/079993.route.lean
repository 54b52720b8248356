theorem pu_t3_ty {q m m' : ob_B} {k : Nat} (h : pu_ty q m k) (g : pu_t3 m m') : pu_ty q m' k := by
  obtain ⟨a, b, c, d⟩ := h
  exact ⟨a, b, (g.1 4 (by decide) (by decide) (by decide) (by decide) (by decide)).trans c, fun j hj => by rw [g.2 5 (by decide)]; exact d j hj⟩
theorem pu_tn2 {m : ob_B} {k p : Nat} (hn : pu_tn m k p) : (m.1 8 = -2) ↔ p = k := by
  obtain ⟨-, ⟨h0, h8⟩ | ⟨h0, v, hv, ev, h1⟩⟩ := hn
  · exact ⟨fun _ => h0, fun _ => h8⟩
  · refine ⟨fun h => ?_, fun h => by omega⟩
    exfalso
    rcases h1 with ⟨-, h8 | h8⟩ | ⟨-, -, ⟨-, h8⟩ | ⟨-, h8⟩⟩
    · rw [h8] at h; exact absurd h (by decide)
    · rw [h8] at h; exact absurd h (by decide)
    · rw [h8] at h
      have := congrArg Int32.toInt h
      rw [nI_toInt (by omega), show (-2 : Int32).toInt = -2 from rfl] at this
      omega
    · rw [h8] at h; exact absurd h (by decide)
theorem pu_49 {q d : ob_B} {z : Nat} {fu : Nat} (h : ¬ q.1 3 = 0) : fd_X3_readInto_L21 (fu + 1) q d (nI z) = some (q.1 3, q, d) := by
  rw [fd_X3_readInto_L21]
  by_cases h7 : (7 : Int32) < nI z
  · rw [if_pos h7]
  · rw [if_neg h7, if_neg h]
theorem pu_oaths {k : Nat} : ∀ (r o : Nat) (q m d : ob_B) (p : Nat), o + r = 7 → pu_ty q m k → p ≤ k → q.1 2 = nI p → q.1 3 = 0 → pu_tn m k p → pu_rd d (m.2 13) o → ∀ fu1 fu5, r + 2 < fu1 → r + 2 < fu5 →
    ∃ c q' d' m', fd_X3_readInto_L21 fu1 q d (nI o) = some (c, q', d') ∧ pu_t3 m m' ∧ ((c = 0 ∧ ∃ n, fd_X5_isRead_L39 fu5 m = some (1, m') ∧ pu_rd d' (m'.2 13) n) ∨ (fd_X5_isRead_L39 fu5 m = some (0, m') ∧ pu_F q' m' ∧ q'.1 3 = c)) := by
  intro r
  induction r with
  | zero =>
    intro o q m d p hor ht hp q2 q3 hn hd fu1 fu5 h1 h5
    obtain ⟨fu1, rfl⟩ : ∃ x, fu1 = x + 2 := ⟨fu1 - 2, by omega⟩
    obtain ⟨fu5, rfl⟩ : ∃ x, fu5 = x + 1 := ⟨fu5 - 1, by omega⟩
    have ho : o = 7 := by omega
    subst ho
    have f2' : m.2 13 2 = nI 7 := hd.1.2.1
    rw [fd_X3_readInto_L21, fd_X5_isRead_L39, if_neg (show ¬ (7 : Int32) < nI 7 by decide), q3, if_pos rfl, if_neg (show ¬ nI 7 = 0 by decide), pu_c2, f2', if_neg (show ¬ nI 7 = 0 by decide), ht.2.1, q2]
    by_cases hpk : p = k
    · rw [if_pos (by rw [hpk]; exact pu_le), if_pos ((pu_tn2 hn).mpr hpk)]
      exact ⟨_, _, _, _, rfl, ⟨fun _ _ _ _ _ _ => rfl, fun _ _ => rfl⟩, Or.inl ⟨rfl, 7, rfl, hd⟩⟩
    · rw [if_neg (pu_nle (show p < k by omega) (by have := ht.1; omega)), if_neg (fun h => hpk ((pu_tn2 hn).mp h))]
      unfold fd_X3_readInto_L49 fd_X5_isRead_L57
      obtain ⟨q', d', m', a1, a2, ⟨e, a3, -⟩ | ⟨a3, a4⟩⟩ := pu_oathr ht hp q2 q3 hn (by omega) hd
      · omega
      · rw [a1, a3, pu_b2, pu_b2, if_pos rfl, pu_lt, nI_1, pu_49 (pu_Fn a4)]
        exact ⟨_, _, _, _, rfl, a2, Or.inr ⟨rfl, a4, rfl⟩⟩
  | succ r ih =>
    intro o q m d p hor ht hp q2 q3 hn hd fu1 fu5 h1 h5
    obtain ⟨fu1, rfl⟩ : ∃ x, fu1 = x + 2 := ⟨fu1 - 2, by omega⟩
    obtain ⟨fu5, rfl⟩ : ∃ x, fu5 = x + 1 := ⟨fu5 - 1, by omega⟩
    have ho7 : o < 7 := by omega
    have f2' : m.2 13 2 = nI o := hd.1.2.1
    have step : ∃ c q' d' m', fd_X3_readInto_L49 (fd_X3_readInto_L21 (fu1 + 1)) q d (nI o) = some (c, q', d') ∧ pu_t3 m m' ∧ ((c = 0 ∧ ∃ n, fd_X5_isRead_L57 (fd_X5_isRead_L39 fu5) m = some (1, m') ∧ pu_rd d' (m'.2 13) n) ∨ (fd_X5_isRead_L57 (fd_X5_isRead_L39 fu5) m = some (0, m') ∧ pu_F q' m' ∧ q'.1 3 = c)) := by
      unfold fd_X3_readInto_L49 fd_X5_isRead_L57
      obtain ⟨q', d', m', a1, a2, ⟨e, -, a3, a4, a5⟩ | ⟨a3, a4⟩⟩ := pu_oathr ht hp q2 q3 hn (by omega) hd
      · obtain ⟨b1, b2, b3, b4, b5⟩ := a4
        obtain ⟨m1, t1, t2, t3, -⟩ := pu_ntk b2 b1 b5 0 0
        rw [a1, a3, pu_b2, pu_b2, if_neg pu_10, pu_lt, nI_1, t1, pu_b1]
        obtain ⟨c, q', d', m', g1, g2, g3⟩ := ih (o + 1) q' m1 d' e (by omega) (pu_tk_ty b1 t2) b2 b3 b4 t3 (by rw [t2.2]; exact a5) (fu1 + 1) fu5 (by omega) (by omega)
        exact ⟨c, q', d', m', g1, pu_t3_tr a2 (pu_t3_tr (pu_t3_of t2) g2), g3⟩
      · rw [a1, a3, pu_b2, pu_b2, if_pos rfl, pu_lt, nI_1, pu_49 (pu_Fn a4)]
        exact ⟨_, _, _, _, rfl, a2, Or.inr ⟨rfl, a4, rfl⟩⟩
    rw [fd_X3_readInto_L21, fd_X5_isRead_L39, if_neg (show ¬ (7 : Int32) < nI o from nI_nlt (a := 7) (by omega) (by omega)), q3, if_pos rfl, pu_c2, f2', ht.2.1, q2]
    by_cases h0 : o = 0
    · subst h0
      rw [if_pos (show nI 0 = 0 from rfl), if_pos (show nI 0 = 0 from rfl)]
      by_cases h2 : m.1 8 = -2
      · rw [if_pos h2]; exact step
      · rw [if_neg h2]; exact step
    · have hz : ¬ nI o = 0 := nI_ne0 (by omega) (by omega)
      rw [if_neg hz, if_neg hz]
      by_cases hpk : p = k
      · rw [if_pos (by rw [hpk]; exact pu_le), if_pos ((pu_tn2 hn).mpr hpk)]
        exact ⟨_, _, _, _, rfl, ⟨fun _ _ _ _ _ _ => rfl, fun _ _ => rfl⟩, Or.inl ⟨rfl, o, rfl, hd⟩⟩
      · rw [if_neg (pu_nle (show p < k by omega) (by have := ht.1; omega)), if_neg (fun h => hpk ((pu_tn2 hn).mp h))]
        exact step
theorem pu_zs : ∀ (d z : Nat) (m : ob_B), z + d = 42 → ∀ fu, d < fu → ∃ m', fd_X5_isRead_L2 fu m (nI z) = fd_X5_isRead_L21 m' ∧ m'.1 = m.1 ∧ (∀ s, s ≠ 13 → m'.2 s = m.2 s) ∧ (∀ j, j < z → m'.2 13 j = m.2 13 j) ∧ ∀ j, z ≤ j → j < 42 → m'.2 13 j = 0 := by
  intro d
  induction d with
  | zero =>
    intro z m hz fu h1
    obtain ⟨fu, rfl⟩ : ∃ x, fu = x + 1 := ⟨fu - 1, by omega⟩
    have hz' : z = 42 := by omega
    subst hz'
    rw [fd_X5_isRead_L2, if_pos (by decide)]
    exact ⟨m, rfl, rfl, fun _ _ => rfl, fun _ _ => rfl, fun j h1 h2 => by omega⟩
  | succ d ih =>
    intro z m hz fu h1
    obtain ⟨fu, rfl⟩ : ∃ x, fu = x + 1 := ⟨fu - 1, by omega⟩
    rw [fd_X5_isRead_L2, if_neg (show ¬ (42 : Int32) ≤ nI z from pu_nle (n := 42) (by omega) (by omega)), pu_ck z 42 _ (by omega) (by omega), pu_cl (by omega), pu_lt, pu_lt, nI_1]
    obtain ⟨m', g1, g2, g3, g4, g5⟩ := ih (z + 1) (ob_A m 13 (upd (m.2 13) z 0)) (by omega) fu (by omega)
    refine ⟨m', g1, g2, fun s hs => (g3 s hs).trans (pu_UN _ _ hs), fun j hj => (g4 j (by omega)).trans ((pu_AA _ _ _ j).trans (pu_un _ _ (by omega))), fun j h1 h2 => ?_⟩
    by_cases hj : j = z
    · rw [hj]; exact (g4 z (by omega)).trans ((pu_AA _ _ _ z).trans (pu_us _ _ _))
    · exact g5 j (by omega) h2
theorem pu_reads {q m d : ob_B} (ht : pu_tp q m) : ∃ c q' d' m', fd_X3_readInto q d = some (c, q', d') ∧ pu_t3 m m' ∧ ((c = 0 ∧ ∃ n, fd_X5_isRead m = some (1, m') ∧ pu_rd d' (m'.2 13) n) ∨ (c ≠ 0 ∧ fd_X5_isRead m = some (0, m') ∧ pu_F q' m' ∧ q'.1 3 = c)) := by
  obtain ⟨k, hk, q1, m4, hb⟩ := ht
  obtain ⟨m0, z1, z2, z3, -, z5⟩ := pu_zs 42 0 m (by omega) 2000 (by omega)
  have hty : pu_ty (ob_I (ob_I q 2 0) 3 0) (ob_I m0 6 0) k := ⟨hk, (pu_In _ _ (by decide)).trans ((pu_In _ _ (by decide)).trans q1), (pu_In _ _ (by decide)).trans ((congrFun z2 4).trans m4), fun j hj => by
    show q.2 0 j = m0.2 5 j ∧ ∃ v, v < 256 ∧ m0.2 5 j = nI v
    rw [z3 5 (by decide)]
    exact hb j hj⟩
  have hS : pu_S (ob_I (ob_I q 2 0) 3 0) (ob_I m0 6 0) k 0 := ⟨hty, Nat.zero_le _, (pu_In _ _ (by decide)).trans (pu_II _ _ _), pu_II _ _ _, pu_II _ _ _⟩
  have t0 : pu_t3 m (ob_I m0 6 0) := ⟨fun s h6 _ _ _ _ => (pu_un _ _ h6).trans (congrFun z2 s), z3⟩
  unfold fd_X3_readInto fd_X5_isRead fd_X1_clear
  rw [show fd_X5_isRead_L2 2000 m 0 = fd_X5_isRead_L21 m0 from z1]
  unfold fd_X5_isRead_L21
  simp only [pu_lt, pu_b1]
  generalize hd0 : ob_I (ob_I (ob_I (ob_I (ob_I (ob_I (ob_I d 0 0) 1 0) 2 0) 3 0) 4 0) 5 0) 6 0 = d0
  obtain ⟨qa, da, ma, a1, a2, ⟨p, a, h, ha, hh, a3, a4, a5, a6⟩ | ⟨a3, a4⟩⟩ := pu_law (d := d0) hS
  · rw [a1, a3, pu_b2, pu_b2, if_neg pu_10]
    obtain ⟨b1, b2, b3, b4, b5⟩ := a4
    obtain ⟨m1, t1, t2, t3, -⟩ := pu_ntk b2 b1 b5 0 0
    rw [t1, pu_b1]
    have g13 : ma.2 13 = upd (upd (m0.2 13) 0 (nI a)) 1 (nI h) := a6
    have gz : ∀ j, 2 ≤ j → j < 42 → ma.2 13 j = 0 := fun j h1 h2 => by
      rw [g13, pu_un _ _ (by omega), pu_un _ _ (by omega)]
      exact z5 j (by omega) h2
    have g0 : ma.2 13 0 = nI a := by rw [g13, pu_un _ _ (by decide), pu_us]
    have g1 : ma.2 13 1 = nI h := by rw [g13, pu_us]
    have hrd : pu_rd da (ma.2 13) 0 := by
      refine ⟨⟨by omega, gz 2 (by omega) (by omega), ⟨a, ha, g0⟩, fun j hj => absurd hj (Nat.not_lt_zero _)⟩, ⟨?_, ?_, ?_, ?_, ?_, ?_, ?_, fun j hj => absurd hj (Nat.not_lt_zero _)⟩, fun j hj => gz (35 + j) (by omega) (by omega)⟩
      · rw [g0, a5]; exact (pu_In _ _ (by decide)).trans (pu_II _ _ _)
      · rw [g1, a5]; exact pu_II _ _ _
      · rw [gz 2 (by omega) (by omega), a5, ← hd0]; rfl
      · rw [gz 3 (by omega) (by omega), a5, ← hd0]; rfl
      · rw [gz 4 (by omega) (by omega), a5, ← hd0]; rfl
      · rw [gz 5 (by omega) (by omega), a5, ← hd0]; rfl
      · rw [gz 6 (by omega) (by omega), a5, ← hd0]; rfl
    obtain ⟨c, q', d', m', e1, e2, e3⟩ := pu_oaths 7 0 qa m1 da p (by omega) (pu_tk_ty b1 t2) b2 b3 b4 t3 (by rw [t2.2]; exact hrd) 2000 2000 (by omega) (by omega)
    refine ⟨c, q', d', m', e1, pu_t3_tr t0 (pu_t3_tr a2 (pu_t3_tr (pu_t3_of t2) e2)), ?_⟩
    rcases e3 with h | ⟨h1, h2, h3⟩
    · exact Or.inl h
    · exact Or.inr ⟨by rw [← h3]; exact pu_Fn h2, h1, h2, h3⟩
  · rw [a1, a3, pu_b2, pu_b2, if_pos rfl, show fd_X3_readInto_L21 2000 qa da 0 = some (qa.1 3, qa, da) from pu_49 (z := 0) (fu := 1999) (pu_Fn a4)]
    exact ⟨_, _, _, _, rfl, pu_t3_tr t0 a2, Or.inr ⟨pu_Fn a4, rfl, a4, rfl⟩⟩
theorem pu_route {x q y t hb m : ob_B} (ht : pu_tp q m) : ∃ r x' q' y' t' h' m', fd_X4_route x q y t hb = some (r, x', q', y', t', h') ∧ fd_X5_route m = some (r, m') ∧ pu_tp q' m' ∧ x'.2 = x.2 ∧ (∀ s, s ≠ 8 → x'.1 s = x.1 s) ∧ (∀ s, s ≠ 4 → s ≠ 6 → s ≠ 7 → s ≠ 8 → s ≠ 9 → s ≠ 10 → s ≠ 11 → s ≠ 18 → m'.1 s = m.1 s) ∧ (∀ s, s ≠ 12 → s ≠ 13 → m'.2 s = m.2 s) ∧
    ((x'.1 8 = x.1 8 ∧ m'.1 11 = m.1 11 ∧ m'.1 18 = 0 ∧ h' = ob_I (ob_I hb 1 0) 2 0 ∧ ∃ n, pu_ok (m'.2 12) n ∧ pu_rr y' (m'.2 12) n) ∨ (x'.1 8 = m'.1 11 ∧ m'.1 18 = m.1 18 ∧ h' = hb ∧ y' = y ∧ m'.2 12 = m.2 12)) := by
  unfold fd_X4_route fd_X5_route
  obtain ⟨c, q', d', m', e1, e2, ⟨rfl, n, e3, e4⟩ | ⟨e0, e3, ⟨p, f1, f2, f3, f4⟩, e5⟩⟩ := pu_reads (d := t) ht
  · rw [e1, e3, pu_b3, pu_b2, pu_lt, pu_lt, pu_lt (ob_I m' 4 0), if_pos rfl, if_neg pu_10]
    obtain ⟨t1, b1, b2⟩ := pu_become y d'
    have hn := e4.1.1
    have hl : fd_X5_lay 42 42 (m'.2 13) (m'.2 12) 0 0 = some (pu_ly (m'.2 13) (m'.2 12) 0 0 42) := pu_lay 42 42 (m'.2 13) (m'.2 12) 0 0 (by omega) (by omega) (by omega) (by omega)
    rw [b1, pu_b1, show fd_X5_lay 42 42 ((ob_I m' 4 0).2 13) ((ob_I m' 4 0).2 12) 0 0 = some (pu_ly (m'.2 13) (m'.2 12) 0 0 42) from hl, pu_b1, pu_lt, pu_lt]
    unfold fd_X0_forgetAll
    rw [pu_lt, pu_lt, pu_b1]
    have e : ∀ i, i < 42 → pu_ly (m'.2 13) (m'.2 12) 0 0 42 i = m'.2 13 i := fun i hi => by
      have := pu_ly_in (f := m'.2 13) (h := m'.2 12) (a := 0) (c := 0) hi
      rw [Nat.zero_add] at this
      exact this
    have ok' : pu_ok (pu_ly (m'.2 13) (m'.2 12) 0 0 42) n := pu_ok_cg e4.1 e
    have rr' : pu_rr t1 (pu_ly (m'.2 13) (m'.2 12) 0 0 42) n := pu_rr_cg hn (b2 _ _ hn e4.2.1) e
    have ans : t1.1 4 = (ob_I (ob_A (ob_I m' 4 0) 12 (pu_ly (m'.2 13) (m'.2 12) 0 0 42)) 18 0).2 12 (Int32.toNatClampNeg 2) := rr'.2.2.1
    rw [ans]
    refine ⟨_, _, _, _, _, _, _, rfl, rfl, ⟨0, by omega, pu_II _ _ _, (pu_In _ _ (by decide)).trans (show (ob_I m' 4 0).1 4 = 0 from pu_II _ _ _), fun j hj => absurd hj (Nat.not_lt_zero _)⟩, rfl, fun _ _ => rfl, fun s h4 h6 h7 h8 h9 h10 h11 h18 => (pu_un _ _ h18).trans ((pu_un _ _ h4).trans (e2.1 s h6 h7 h8 h9 h10)), fun s h12 h13 => (pu_UN _ _ h12).trans (e2.2 s h13), Or.inl ⟨rfl, (pu_In _ _ (by decide)).trans ((show (ob_I m' 4 0).1 11 = m'.1 11 from pu_In _ _ (by decide)).trans (e2.1 11 (by decide) (by decide) (by decide) (by decide) (by decide))), pu_II _ _ _, rfl, n, ?_, ?_⟩⟩
    · exact ok'
    · exact rr'
  · rw [e1, e3, pu_b3, pu_b2, pu_lt, pu_lt, pu_lt (ob_I m' 4 0), if_neg e0, if_pos rfl, pu_lt, pu_lt, pu_lt]
    have a7 : (ob_I (ob_I m' 4 0) 11 ((ob_I m' 4 0).1 10)).1 7 = q'.1 2 := (pu_In _ _ (by decide)).trans ((pu_In _ _ (by decide)).trans (f3.trans f2.symm))
    rw [a7]
    refine ⟨_, _, _, _, _, _, _, rfl, rfl, ⟨0, by omega, pu_II _ _ _, (pu_In _ _ (by decide)).trans (pu_II _ _ _), fun j hj => absurd hj (Nat.not_lt_zero _)⟩, rfl, fun s hs => pu_un _ _ hs, fun s h4 h6 h7 h8 h9 h10 h11 h18 => (pu_un _ _ h11).trans ((pu_un _ _ h4).trans (e2.1 s h6 h7 h8 h9 h10)), fun s h12 h13 => e2.2 s h13, Or.inr ⟨?_, (pu_In _ _ (by decide)).trans ((pu_In _ _ (by decide)).trans (e2.1 18 (by decide) (by decide) (by decide) (by decide) (by decide))), rfl, rfl, e2.2 12 (by decide)⟩⟩
    rw [pu_II, pu_II, show (ob_I m' 4 0).1 10 = m'.1 10 from pu_In _ _ (by decide), f4, e5]
