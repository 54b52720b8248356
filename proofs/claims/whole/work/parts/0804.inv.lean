/-! the program and the reference agree -/
def ob_ii (im : Nat → Option ob_B) (m : ob_B) : Prop := ∀ k, k < 2 → (im k = none ∧ m.2 16 k = 0) ∨ ∃ c n, im k = some c ∧ m.2 16 k = 1 ∧ pu_ok (fun j => m.2 15 (42 * k + j)) n ∧ pu_rr c (fun j => m.2 15 (42 * k + j)) n
def ob_io (y m : ob_B) : Prop := ∃ n, pu_ok (m.2 12) n ∧ pu_rr y (m.2 12) n
def ob_iw (w : Nat → ob_B) (m : ob_B) : Prop := ∀ i, i < 8 → pu_w (w i) m i
def ob_iv (S : ob_SX) (m : ob_B) : Prop := S.1.1 9 = m.1 3 ∧ S.1.1 8 = m.1 11 ∧ pu_tc S.1 m ∧ ob_iw S.2.1 m ∧ pu_tp S.2.2.1 m ∧ ob_io S.2.2.2.1 m ∧ pu_hs S.2.2.2.2.2.1 m ∧ ob_ii S.2.2.2.2.2.2 m
theorem cg_tc {x x' m m' : ob_B} (h : pu_tc x m) (e1 : x'.1 7 = x.1 7) (e2 : x'.2 6 = x.2 6) (e3 : m'.1 20 = m.1 20) (e4 : m'.2 19 = m.2 19) : pu_tc x' m' := by
  unfold pu_tc at *
  rw [e1, e2, e3, e4]
  exact h
theorem cg_w {w m m' : ob_B} {i : Nat} (h : pu_w w m i) (g : pu_ro m m' i) : pu_w w m' i := by
  obtain ⟨g0, g1, g2⟩ := g
  rcases h with ⟨a, b⟩ | ⟨a, ⟨l, hl, b, c⟩, ⟨s, hs, d, e⟩, f⟩
  · exact Or.inl ⟨a, g0.trans b⟩
  · exact Or.inr ⟨a, ⟨l, hl, b, g0.trans c⟩, ⟨s, hs, d, g1.trans e⟩, fun j hj => (f j hj).trans (g2 j hj).symm⟩
theorem cg_iw {w : Nat → ob_B} {m m' : ob_B} (h : ob_iw w m) (e0 : m'.2 0 = m.2 0) (e1 : m'.2 1 = m.2 1) (e2 : m'.2 2 = m.2 2) : ob_iw w m' := fun i hi => cg_w (h i hi) ⟨by rw [e0], by rw [e1], fun j _ => by rw [e2]⟩
theorem cg_tp {q m m' : ob_B} (h : pu_tp q m) (e1 : m'.1 4 = m.1 4) (e2 : m'.2 5 = m.2 5) : pu_tp q m' := by
  unfold pu_tp at *
  rw [e1, e2]
  exact h
theorem cg_io {y m m' : ob_B} (h : ob_io y m) (e : m'.2 12 = m.2 12) : ob_io y m' := by
  unfold ob_io at *
  rw [e]
  exact h
theorem cg_hs {h : ob_H} {m m' : ob_B} (hh : pu_hs h m) (e1 : m'.1 18 = m.1 18) (e2 : m'.2 17 = m.2 17) : pu_hs h m' := by
  unfold pu_hs at *
  rw [e1, e2]
  exact hh
theorem cg_ii {im : Nat → Option ob_B} {m m' : ob_B} (h : ob_ii im m) (e1 : m'.2 15 = m.2 15) (e2 : m'.2 16 = m.2 16) : ob_ii im m' := by
  unfold ob_ii at *
  rw [e1, e2]
  exact h
theorem iv_sm {x q y t t' m m' : ob_B} {w : Nat → ob_B} {h : ob_H} {im : Nat → Option ob_B} (hv : ob_iv (x, w, q, y, t, h, im) m) (hs : pu_sm m m') : ob_iv (x, w, q, y, t', h, im) m' := by
  obtain ⟨h1, h2, h3, h4, h5, h6, h7, h8⟩ := hv
  obtain ⟨s1, s2⟩ := hs
  refine ⟨by rw [s1]; exact h1, by rw [s1]; exact h2, cg_tc h3 rfl rfl (by rw [s1]) (s2 19 (by decide) (by decide) (by decide) (by decide)), cg_iw h4 (s2 0 (by decide) (by decide) (by decide) (by decide)) (s2 1 (by decide) (by decide) (by decide) (by decide)) (s2 2 (by decide) (by decide) (by decide) (by decide)), cg_tp h5 (by rw [s1]) (s2 5 (by decide) (by decide) (by decide) (by decide)), cg_io h6 (s2 12 (by decide) (by decide) (by decide) (by decide)), cg_hs h7 (by rw [s1]) (s2 17 (by decide) (by decide) (by decide) (by decide)), cg_ii h8 (s2 15 (by decide) (by decide) (by decide) (by decide)) (s2 16 (by decide) (by decide) (by decide) (by decide))⟩
theorem iv_kt {x x' q y t t' m m' : ob_B} {w : Nat → ob_B} {h : ob_H} {im : Nat → Option ob_B} (hv : ob_iv (x, w, q, y, t, h, im) m) (hs : pu_kt x m x' m') : ob_iv (x', w, q, y, t', h, im) m' := by
  obtain ⟨h1, h2, h3, h4, h5, h6, h7, h8⟩ := hv
  obtain ⟨s1, s2, s3, s4, s5⟩ := hs
  refine ⟨s3, (s2 8 (by decide)).trans (h2.trans (s4 11 (by decide)).symm), cg_tc h3 (s2 7 (by decide)) (by rw [s1]) (s4 20 (by decide)) (s5 19 (by decide) (by decide) (by decide) (by decide)), cg_iw h4 (s5 0 (by decide) (by decide) (by decide) (by decide)) (s5 1 (by decide) (by decide) (by decide) (by decide)) (s5 2 (by decide) (by decide) (by decide) (by decide)), cg_tp h5 (s4 4 (by decide)) (s5 5 (by decide) (by decide) (by decide) (by decide)), cg_io h6 (s5 12 (by decide) (by decide) (by decide) (by decide)), cg_hs h7 (s4 18 (by decide)) (s5 17 (by decide) (by decide) (by decide) (by decide)), cg_ii h8 (s5 15 (by decide) (by decide) (by decide) (by decide)) (s5 16 (by decide) (by decide) (by decide) (by decide))⟩
theorem iv_k {x x' q y t m m' w' : ob_B} {a : Int32} {i : Nat} {w : Nat → ob_B} {h : ob_H} {im : Nat → Option ob_B} (hv : ob_iv (x, w, q, y, t, h, im) m) (hi : i < 8) (hx : ∀ j, j < 8 → a = nI j → i = j) (hs : pu_k a x m x' m') (hw : ∀ j, j < 8 → a = nI j → pu_w w' m' j) (hz : (∀ j, j < 8 → a ≠ nI j) → w' = w i) : ob_iv (x', va_up w i w', q, y, t, h, im) m' := by
  obtain ⟨h1, h2, h3, h4, h5, h6, h7, h8⟩ := hv
  obtain ⟨s1, s2, s3, s4, s5, s6⟩ := hs
  refine ⟨s3, (s2 8 (by decide)).trans (h2.trans (s4 11 (by decide)).symm), cg_tc h3 (s2 7 (by decide)) (by rw [s1]) (s4 20 (by decide)) (s5 19 (by decide) (by decide) (by decide) (by decide) (by decide)), fun j hj => ?_, cg_tp h5 (s4 4 (by decide)) (s5 5 (by decide) (by decide) (by decide) (by decide) (by decide)), cg_io h6 (s5 12 (by decide) (by decide) (by decide) (by decide) (by decide)), cg_hs h7 (s4 18 (by decide)) (s5 17 (by decide) (by decide) (by decide) (by decide) (by decide)), cg_ii h8 (s5 15 (by decide) (by decide) (by decide) (by decide) (by decide)) (s5 16 (by decide) (by decide) (by decide) (by decide) (by decide))⟩
  show pu_w (va_up w i w' j) m' j
  by_cases hj' : a = nI j
  · rw [hx j hj hj', va_up_self]
    exact hw j hj hj'
  · by_cases hij : j = i
    · subst hij
      rw [va_up_self]
      by_cases ha : ∀ t, t < 8 → a ≠ nI t
      · rw [hz ha]
        exact cg_w (h4 j hj) (s6 j hj hj')
      · exfalso
        apply ha
        intro t ht e
        exact hj' (by rw [hx t ht e]; exact e)
    · rw [va_up_ne _ _ hij]
      exact cg_w (h4 j hj) (s6 j hj hj')
theorem iv_kd {x q y y' t m m' : ob_B} {w : Nat → ob_B} {h h' : ob_H} {im : Nat → Option ob_B} (hv : ob_iv (x, w, q, y, t, h, im) m) (hs : pu_kd m m') (ho : ob_io y' m') (hh : pu_hs h' m') : ob_iv (x, w, q, y', t, h', im) m' := by
  obtain ⟨h1, h2, h3, h4, h5, h6, h7, h8⟩ := hv
  obtain ⟨s1, s2⟩ := hs
  exact ⟨h1.trans (s1 3 (by decide)).symm, h2.trans (s1 11 (by decide)).symm, cg_tc h3 rfl rfl (s1 20 (by decide)) (s2 19 (by decide) (by decide)), cg_iw h4 (s2 0 (by decide) (by decide)) (s2 1 (by decide) (by decide)) (s2 2 (by decide) (by decide)), cg_tp h5 (s1 4 (by decide)) (s2 5 (by decide) (by decide)), ho, hh, cg_ii h8 (s2 15 (by decide) (by decide)) (s2 16 (by decide) (by decide))⟩
/-- one call on both -/
def ob_op (l : Launch) (D : va_G) (tys : List (ClassId × FieldType)) (X : Nat → Nat) (o om : Nat) (am : Nat → Nat) (cI cZ cR cW : ClassId) (yx : MethodName) (wx : List Cond) (ym : MethodName) (wm : List Cond) (av : List Value) : Prop :=
  ∀ (u : ob_AX) (S : ob_SX) (m : ob_B), ob_iv S m → ∃ (r : Int32) (S' : ob_SX) (m' : ob_B), ob_mx l yx wx D tys X (.ref o :: av) (ob_wx o cI cR cW u S) (fun r' (_ : ob_AX) => r' = r) (fun u' => ob_wx o cI cR cW u' S') ∧ ob_mx l ym wm D tys X (.ref om :: av) (ob_w5 om am cI cZ m) (fun r' (_ : Unit) => r' = r) (fun _ => ob_w5 om am cI cZ m') ∧ ob_iv S' m'
def ob_ol (l : Launch) (D : va_G) (tys : List (ClassId × FieldType)) (X : Nat → Nat) (o om : Nat) (am : Nat → Nat) (cI cZ cR cW : ClassId) (yx : MethodName) (wx : List Cond) (ym : MethodName) (wm : List Cond) (av : List Value) : Prop :=
  ∀ (u : ob_AX) (S : ob_SX) (m : ob_B), ob_iv S m → ∃ (r : Int64) (S' : ob_SX) (m' : ob_B), ob_ml l yx wx D tys X (.ref o :: av) (ob_wx o cI cR cW u S) (fun r' (_ : ob_AX) => r' = r) (fun u' => ob_wx o cI cR cW u' S') ∧ ob_ml l ym wm D tys X (.ref om :: av) (ob_w5 om am cI cZ m) (fun r' (_ : Unit) => r' = r) (fun _ => ob_w5 om am cI cZ m') ∧ ob_iv S' m'
theorem ob_mi {l : Launch} {y : MethodName} {wl : List Cond} {rm : Room} {D : va_G} {tys : List (ClassId × FieldType)} {X : Nat → Nat} {av : List Value} {ws w' : va_W} {r : Int32} (hM : ∀ sz, ob_M l y wl rm D tys X av ws sz (ob_Qi D r w')) (h1 : rm.frames ≤ 16 ∧ rm.locals ≤ 400 ∧ rm.cells ≤ 150 ∧ rm.slots ≤ 1175) : ob_mx l y wl D tys X av ws (fun r' (_ : Unit) => r' = r) (fun _ => w') := ⟨rm, h1.1, h1.2.1, h1.2.2.1, h1.2.2.2, fun sz => ob_MiE (hM sz)⟩
theorem ob_mli {l : Launch} {y : MethodName} {wl : List Cond} {rm : Room} {D : va_G} {tys : List (ClassId × FieldType)} {X : Nat → Nat} {av : List Value} {ws w' : va_W} {r : Int64} (hM : ∀ sz, ob_M l y wl rm D tys X av ws sz (ob_Ql D r w')) (h1 : rm.frames ≤ 16 ∧ rm.locals ≤ 400 ∧ rm.cells ≤ 150 ∧ rm.slots ≤ 1175) : ob_ml l y wl D tys X av ws (fun r' (_ : Unit) => r' = r) (fun _ => w') := ⟨rm, h1.1, h1.2.1, h1.2.2.1, h1.2.2.2, fun sz => ob_MlE (hM sz)⟩
