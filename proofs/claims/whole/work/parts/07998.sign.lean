/-- reading goes on at p -/
def pu_S (q m : ob_B) (k p : Nat) : Prop := pu_ty q m k ∧ p ≤ k ∧ q.1 2 = nI p ∧ q.1 3 = 0 ∧ m.1 6 = nI p
/-- reading has stopped -/
def pu_F (q m : ob_B) : Prop := ∃ p, q.1 3 ≠ 0 ∧ q.1 2 = nI p ∧ m.1 7 = nI p ∧ m.1 10 = q.1 3
theorem pu_tk_ty {q m m' : ob_B} {k : Nat} (h : pu_ty q m k) (g : pu_tk m m') : pu_ty q m' k := by
  obtain ⟨a, b, c, d⟩ := h
  exact ⟨a, b, (g.1 4 (by decide) (by decide) (by decide) (by decide) (by decide)).trans c, fun j hj => by rw [g.2]; exact d j hj⟩
theorem pu_ty_I {q m : ob_B} {k s : Nat} {v : Int32} (hs : s ≠ 1) (h : pu_ty q m k) : pu_ty (ob_I q s v) m k := ⟨h.1, (pu_un _ _ hs.symm).trans h.2.1, h.2.2.1, h.2.2.2⟩
theorem pu_tk_10 {m m' : ob_B} {v : Int32} (g : pu_tk m m') : pu_tk m (ob_I m' 10 v) := ⟨fun s h6 h7 h8 h9 h10 => (pu_un _ _ h10).trans (g.1 s h6 h7 h8 h9 h10), g.2⟩
theorem pu_stopF {q m : ob_B} {p : Nat} {c : Int32} (hc : c ≠ 0) (q2 : q.1 2 = nI p) (m7 : m.1 7 = nI p) : pu_F (ob_I q 3 c) (ob_I m 10 c) :=
  ⟨p, by rw [pu_II]; exact hc, (pu_In _ _ (by decide)).trans q2, (pu_In _ _ (by decide)).trans m7, by rw [pu_II, pu_II]⟩
theorem pu_tn_ne {m : ob_B} {k p c : Nat} (hc : c = 99 ∨ c = 44 ∨ c = 59) (h : pu_tn m k p) (hk : k ≤ 100) (hne : ¬ (p < k ∧ m.2 5 p = nI c)) : ¬ m.1 8 = nI c := by
  have n1 : ¬ (-1 : Int32) = nI c := by rcases hc with rfl | rfl | rfl <;> decide
  have n2 : ¬ (-2 : Int32) = nI c := by rcases hc with rfl | rfl | rfl <;> decide
  have n3 : ¬ (-3 : Int32) = nI c := by rcases hc with rfl | rfl | rfl <;> decide
  obtain ⟨-, ⟨-, h8⟩ | ⟨hp, v, hv, ev, ⟨-, h8 | h8⟩ | ⟨-, -, ⟨-, h8⟩ | ⟨-, h8⟩⟩⟩⟩ := h
  · rw [h8]; exact n2
  · rw [h8]; exact n1
  · rw [h8]; exact n3
  · rw [h8]; exact fun x => hne ⟨hp, ev.trans x⟩
  · rw [h8]; exact n3
theorem pu_tn_eq {m : ob_B} {k p c : Nat} (hc : c = 99 ∨ c = 44 ∨ c = 59) (h : pu_tn m k p) (hp : p < k) (e : m.2 5 p = nI c) : m.1 8 = nI c ∧ m.1 6 = nI (p + 1) := by
  obtain ⟨-, ⟨h0, -⟩ | ⟨-, v, hv, ev, h1⟩⟩ := h
  · omega
  have hvc : v = c := (nI_eq (by omega) (by omega)).mp (ev.symm.trans e)
  subst hvc
  rcases h1 with ⟨hf, -⟩ | ⟨-, h6, ⟨-, h8⟩ | ⟨hn, -⟩⟩
  · omega
  · exact ⟨h8, h6⟩
  · exact absurd (show pu_ch v from by unfold pu_ch; omega) hn
theorem pu_sign {q m : ob_B} {k p c : Nat} (hS : pu_S q m k p) (hc : c = 99 ∨ c = 44 ∨ c = 59) : ∃ q' m', fd_X3_readByte q (nI c) = some q' ∧ pu_tk m m' ∧ ((fd_X5_isSign m (nI c) = some (1, m') ∧ pu_S q' m' k (p + 1)) ∨ (fd_X5_isSign m (nI c) = some (0, m') ∧ pu_F q' m')) := by
  obtain ⟨ht, hp, q2, q3, m6⟩ := hS
  obtain ⟨m1, t1, t2, t3, -⟩ := pu_ntk hp ht m6 0 0
  obtain ⟨hk, q1, m4, hb⟩ := id ht
  have ht' := pu_tk_ty ht t2
  unfold fd_X3_readByte fd_X5_isSign fd_X3_stop fd_X5_fails
  rw [t1, pu_b1, q3, if_pos rfl, q1, q2]
  by_cases hpk : p = k
  · rw [if_pos (by rw [hpk]; exact pu_le), if_neg (pu_tn_ne hc t3 hk (fun h => by omega)), pu_lt, pu_b2, pu_lt, pu_b2, if_pos rfl]
    exact ⟨_, _, rfl, pu_tk_10 t2, Or.inr ⟨rfl, pu_stopF (by decide) q2 t3.1⟩⟩
  · have hpk' : p < k := by omega
    obtain ⟨bq, -⟩ := hb p hpk'
    rw [if_neg (pu_nle hpk' (by omega)), pu_ck p 100 _ (by omega) (by omega), pu_cl (by omega), bq]
    by_cases hv : m.2 5 p = nI c
    · obtain ⟨h8, h6⟩ := pu_tn_eq hc t3 hpk' (by rw [t2.2]; exact hv)
      rw [if_pos hv, pu_lt, pu_lt, nI_1, if_pos h8]
      exact ⟨_, _, rfl, t2, Or.inl ⟨rfl, pu_ty_I (by decide) ht', hpk', pu_II _ _ _, (pu_In _ _ (by decide)).trans q3, h6⟩⟩
    · rw [if_neg hv, if_neg (pu_tn_ne hc t3 hk (fun h => hv (by rw [← t2.2]; exact h.2))), pu_lt, pu_b2, pu_lt, pu_b2, if_pos rfl]
      exact ⟨_, _, rfl, pu_tk_10 t2, Or.inr ⟨rfl, pu_stopF (by decide) q2 t3.1⟩⟩
theorem pu_num {q m : ob_B} {k p lo hi : Nat} (hS : pu_S q m k p) (hhi : hi < 100) (hlo : lo < 100) : ∃ r q' m', fd_X3_readNumber q (nI lo) (nI hi) = some (r, q') ∧ pu_tk m m' ∧ ((∃ v e, lo ≤ v ∧ v ≤ hi ∧ r = nI v ∧ fd_X5_isNumber m (nI lo) (nI hi) = some (1, m') ∧ m'.1 9 = nI v ∧ pu_S q' m' k e) ∨ (fd_X5_isNumber m (nI lo) (nI hi) = some (0, m') ∧ pu_F q' m')) := by
  obtain ⟨ht, hp, q2, q3, m6⟩ := hS
  obtain ⟨m1, t1, t2, t3, t4⟩ := pu_ntk hp ht m6 (nI lo) (nI hi)
  obtain ⟨hk, q1, m4, hb⟩ := id ht
  have ht' := pu_tk_ty ht t2
  have z0 : ¬ ¬ ((0 : Int32) &&& 1 = 0) := by decide
  unfold fd_X3_readNumber fd_X5_isNumber fd_X5_fails
  rw [t1, pu_b1, q3, if_pos rfl, q2, pu_lt]
  rcases t4 with ⟨h8, h | ⟨e, n1, e1, e2, e3, h⟩⟩ | ⟨e, n1, e1, e2, e3, e4, h8, h6, h9, h⟩
  · rw [h]
    unfold fd_X3_readNumber_L65 fd_X3_stop
    rw [q2, if_pos rfl, if_neg h8]
    simp only [pu_lt, pu_b2, if_neg z0]
    exact ⟨_, _, _, rfl, pu_tk_10 t2, Or.inr ⟨rfl, pu_stopF (by decide) q2 t3.1⟩⟩
  · have hep : ¬ nI e = nI p := fun x => by
      have := (nI_eq (by omega) (by omega)).mp x
      omega
    rw [h]
    unfold fd_X3_readNumber_L65 fd_X3_stop
    rw [q2, if_neg hep, pk_sub (by omega), if_neg (show ¬ nI (e - p) ≤ 2 from fun x => e3 ((nI_leI (b := 2) (by omega) (by omega)).mp x)), if_neg h8]
    simp only [pu_lt, pu_b2, if_neg z0]
    exact ⟨_, _, _, rfl, pu_tk_10 t2, Or.inr ⟨rfl, pu_stopF (by decide) q2 t3.1⟩⟩
  · have hep : ¬ nI e = nI p := fun x => by
      have := (nI_eq (by omega) (by omega)).mp x
      omega
    rw [h]
    unfold fd_X3_readNumber_L65 fd_X3_stop fd_X5_in
    rw [q2, if_neg hep, pk_sub (by omega), if_pos (show nI (e - p) ≤ 2 from (nI_leI (b := 2) (by omega) (by omega)).mpr e3), if_pos h8, h9]
    by_cases c1 : n1 < lo
    · rw [if_pos ((pu_ltI (by omega) (by omega)).mpr c1), if_pos ((pu_ltI (by omega) (by omega)).mpr c1)]
      simp only [pu_lt, pu_b1, pu_b2, if_true]
      exact ⟨_, _, _, rfl, pu_tk_10 t2, Or.inr ⟨rfl, pu_stopF (by decide) q2 t3.1⟩⟩
    · rw [if_neg (fun x => c1 ((pu_ltI (by omega) (by omega)).mp x)), if_neg (fun x => c1 ((pu_ltI (by omega) (by omega)).mp x))]
      by_cases c2 : n1 ≤ hi
      · rw [if_pos ((nI_leI (by omega) (by omega)).mpr c2), if_neg (fun x => by have := (pu_ltI (by omega) (by omega)).mp x; omega), pu_lt, pu_b1, if_neg pu_10]
        exact ⟨_, _, _, rfl, t2, Or.inl ⟨n1, e, by omega, c2, rfl, rfl, h9, pu_ty_I (by decide) ht', e2, pu_II _ _ _, (pu_In _ _ (by decide)).trans q3, h6⟩⟩
      · rw [if_neg (fun x => c2 ((nI_leI (by omega) (by omega)).mp x)), if_pos ((pu_ltI (by omega) (by omega)).mpr (by omega))]
        simp only [pu_lt, pu_b1, pu_b2, if_true]
        exact ⟨_, _, _, rfl, pu_tk_10 t2, Or.inr ⟨rfl, pu_stopF (by decide) q2 t3.1⟩⟩
theorem pu_stp {q m : ob_B} (h : pu_F q m) : (∀ w, fd_X3_readByte q w = some q) ∧ ∀ lo hi, fd_X3_readNumber q lo hi = some (0, q) := by
  obtain ⟨p, h3, -⟩ := h
  refine ⟨fun w => ?_, fun lo hi => ?_⟩
  · unfold fd_X3_readByte
    rw [if_neg h3]
  · unfold fd_X3_readNumber
    rw [if_neg h3]
/-- the same, and the text read may change -/
def pu_t3 (m m' : ob_B) : Prop := (∀ s, s ≠ 6 → s ≠ 7 → s ≠ 8 → s ≠ 9 → s ≠ 10 → m'.1 s = m.1 s) ∧ ∀ s, s ≠ 13 → m'.2 s = m.2 s
theorem pu_t3_of {m m' : ob_B} (h : pu_tk m m') : pu_t3 m m' := ⟨h.1, fun s _ => congrFun h.2 s⟩
theorem pu_t3_tr {m m1 m2 : ob_B} (h : pu_t3 m m1) (g : pu_t3 m1 m2) : pu_t3 m m2 :=
  ⟨fun s h6 h7 h8 h9 h10 => (g.1 s h6 h7 h8 h9 h10).trans (h.1 s h6 h7 h8 h9 h10), fun s hs => (g.2 s hs).trans (h.2 s hs)⟩
theorem pu_t3_A {m : ob_B} (g : Nat → Int32) : pu_t3 m (ob_A m 13 g) := ⟨fun _ _ _ _ _ _ => rfl, fun s hs => pu_UN _ _ hs⟩
/-- a number, its place in what is read, a sign -/
theorem pu_ns {q m : ob_B} {k p lo hi c i : Nat} (hS : pu_S q m k p) (hlo : lo < 100) (hhi : hi < 100) (hc : c = 99 ∨ c = 44 ∨ c = 59) : ∃ r q1 q2 m1, fd_X3_readNumber q (nI lo) (nI hi) = some (r, q1) ∧ fd_X3_readByte q1 (nI c) = some q2 ∧
    ((∃ v e m2, lo ≤ v ∧ v ≤ hi ∧ r = nI v ∧ fd_X5_isNumber m (nI lo) (nI hi) = some (1, m1) ∧ m1.1 9 = nI v ∧ m1.2 13 = m.2 13 ∧ fd_X5_isSign (ob_A m1 13 (upd (m1.2 13) i (nI v))) (nI c) = some (1, m2) ∧ pu_t3 m m2 ∧ pu_S q2 m2 k e ∧ m2.2 13 = upd (m.2 13) i (nI v)) ∨
     (∃ v m2, fd_X5_isNumber m (nI lo) (nI hi) = some (1, m1) ∧ m1.1 9 = nI v ∧ fd_X5_isSign (ob_A m1 13 (upd (m1.2 13) i (nI v))) (nI c) = some (0, m2) ∧ pu_t3 m m2 ∧ pu_F q2 m2) ∨
     (fd_X5_isNumber m (nI lo) (nI hi) = some (0, m1) ∧ pu_t3 m m1 ∧ pu_F q2 m1)) := by
  obtain ⟨r, q1, m1, a1, a2, ⟨v, e, v1, v2, rfl, a3, a4, a5⟩ | ⟨a3, a4⟩⟩ := pu_num (lo := lo) (hi := hi) hS hhi hlo
  · have hS1 : pu_S q1 (ob_A m1 13 (upd (m1.2 13) i (nI v))) k e := a5
    obtain ⟨q2, m2, b1, b2, ⟨b3, b4⟩ | ⟨b3, b4⟩⟩ := pu_sign hS1 hc
    · refine ⟨_, q1, q2, m1, a1, b1, Or.inl ⟨v, e + 1, m2, v1, v2, rfl, a3, a4, congrFun a2.2 13, b3, pu_t3_tr (pu_t3_of a2) (pu_t3_tr (pu_t3_A _) (pu_t3_of b2)), b4, ?_⟩⟩
      rw [b2.2]
      funext j
      rw [pu_AA, a2.2]
    · exact ⟨_, q1, q2, m1, a1, b1, Or.inr (Or.inl ⟨v, m2, a3, a4, b3, pu_t3_tr (pu_t3_of a2) (pu_t3_tr (pu_t3_A _) (pu_t3_of b2)), b4⟩)⟩
  · exact ⟨_, q1, q1, m1, a1, (pu_stp a4).1 _, Or.inr (Or.inr ⟨a3, pu_t3_of a2, a4⟩)⟩
