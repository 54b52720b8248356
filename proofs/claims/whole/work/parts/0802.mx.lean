/-! contracts over the whole world of an OathCoach -/
def ob_mx {S : Type} (l : Launch) (y : MethodName) (wl : List Cond) (D : va_G) (tys : List (ClassId × FieldType)) (X : Nat → Nat) (av : List Value) (ws : va_W) (post : Int32 → S → Prop) (w' : S → va_W) : Prop :=
  ∃ rm : Room, rm.frames ≤ 16 ∧ rm.locals ≤ 400 ∧ rm.cells ≤ 150 ∧ rm.slots ≤ 1175 ∧ ∀ sz, ob_M l y wl rm D tys X av ws sz (ob_QiE D post w')
def ob_ml {S : Type} (l : Launch) (y : MethodName) (wl : List Cond) (D : va_G) (tys : List (ClassId × FieldType)) (X : Nat → Nat) (av : List Value) (ws : va_W) (post : Int64 → S → Prop) (w' : S → va_W) : Prop :=
  ∃ rm : Room, rm.frames ≤ 16 ∧ rm.locals ≤ 400 ∧ rm.cells ≤ 150 ∧ rm.slots ≤ 1175 ∧ ∀ sz, ob_M l y wl rm D tys X av ws sz (ob_QlE D post w')
theorem ob_pol {l : Launch} {y : MethodName} {wl : List Cond} {rm : Room} {D : va_G} {tys : List (ClassId × FieldType)} {X : Nat → Nat} {av : List Value} {ws : va_W} {sz : Nat} {S S' : Type} {post : Int64 → S → Prop} {w1 : S → va_W} {post' : Int64 → S' → Prop} {w1' : S' → va_W} (hM : ob_M l y wl rm D tys X av ws sz (ob_QlE D post w1)) (h : ∀ r u, post r u → ∃ u', post' r u' ∧ (w1 u).Perm (w1' u')) : ob_M l y wl rm D tys X av ws sz (ob_QlE D post' w1') := by
  refine ob_csq hM (fun a s h => h) ?_ (fun _ _ _ _ h => h)
  rintro a s o t _ ⟨⟨r, u, h1, h2, h3, h5⟩, h4⟩
  obtain ⟨u', g1, g2⟩ := h r u h2
  exact ⟨⟨r, u', h1, g1, ob_Pp h3 g2, ob_Dp h5 g2⟩, h4⟩
theorem ob_upi {S S' : Type} {l : Launch} {y : MethodName} {wl : List Cond} {rm : Room} {D : va_G} {tys : List (ClassId × FieldType)} {X : Nat → Nat} {av : List Value} {ws wc wr : va_W} {post : Int32 → S → Prop} {w1 : S → va_W} {post' : Int32 → S' → Prop} {w1' : S' → va_W} (hM : ∀ sz, ob_M l y wl rm D tys X av wc sz (ob_QiE D post w1)) (h1 : rm.frames ≤ 16 ∧ rm.locals ≤ 400 ∧ rm.cells ≤ 150 ∧ rm.slots ≤ 1175) (hp : ws.Perm (wc ++ wr)) (hq : ∀ r u, post r u → ∃ u', post' r u' ∧ (w1 u ++ wr).Perm (w1' u')) : ob_mx l y wl D tys X av ws post' w1' :=
  ⟨rm, h1.1, h1.2.1, h1.2.2.1, h1.2.2.2, fun sz => ob_poi (ob_fri wr (hM sz) hp) (fun r u h => by
    obtain ⟨u', a, b⟩ := hq r u h
    exact ⟨u', a, List.perm_append_comm.trans b⟩)⟩
theorem ob_upl {S S' : Type} {l : Launch} {y : MethodName} {wl : List Cond} {rm : Room} {D : va_G} {tys : List (ClassId × FieldType)} {X : Nat → Nat} {av : List Value} {ws wc wr : va_W} {post : Int64 → S → Prop} {w1 : S → va_W} {post' : Int64 → S' → Prop} {w1' : S' → va_W} (hM : ∀ sz, ob_M l y wl rm D tys X av wc sz (ob_QlE D post w1)) (h1 : rm.frames ≤ 16 ∧ rm.locals ≤ 400 ∧ rm.cells ≤ 150 ∧ rm.slots ≤ 1175) (hp : ws.Perm (wc ++ wr)) (hq : ∀ r u, post r u → ∃ u', post' r u' ∧ (w1 u ++ wr).Perm (w1' u')) : ob_ml l y wl D tys X av ws post' w1' :=
  ⟨rm, h1.1, h1.2.1, h1.2.2.1, h1.2.2.2, fun sz => ob_pol (ob_frl wr (hM sz) hp) (fun r u h => by
    obtain ⟨u', a, b⟩ := hq r u h
    exact ⟨u', a, List.perm_append_comm.trans b⟩)⟩
theorem ps_A {α : Type} (a b c d e f g h i j k : List α) : (a ++ (b ++ (c ++ (d ++ (e ++ (f ++ (g ++ (h ++ (i ++ (j ++ k)))))))))).Perm ((a) ++ (b ++ (c ++ (d ++ (e ++ (f ++ (g ++ (h ++ (i ++ (j ++ k)))))))))) := by
  have q := ob_pm [a, b, c, d, e, f, g, h, i, j, k] [0, 1, 2, 3, 4, 5, 6, 7, 8, 9, 10] [0, 1, 2, 3, 4, 5, 6, 7, 8, 9, 10] (by decide)
  simp only [List.flatMap_cons, List.flatMap_nil, List.append_nil, List.getD_cons_zero, List.getD_cons_succ, List.append_assoc] at q ⊢
  exact q
theorem ps_B {α : Type} (a b c d e f g h i j k : List α) : (a ++ (b ++ (c ++ (d ++ (e ++ (f ++ (g ++ (h ++ (i ++ (j ++ k)))))))))).Perm ((a ++ e) ++ (b ++ (c ++ (d ++ (f ++ (g ++ (h ++ (i ++ (j ++ k))))))))) := by
  have q := ob_pm [a, b, c, d, e, f, g, h, i, j, k] [0, 1, 2, 3, 4, 5, 6, 7, 8, 9, 10] [0, 4, 1, 2, 3, 5, 6, 7, 8, 9, 10] (by decide)
  simp only [List.flatMap_cons, List.flatMap_nil, List.append_nil, List.getD_cons_zero, List.getD_cons_succ, List.append_assoc] at q ⊢
  exact q
theorem ps_C {α : Type} (a b c d e f g h i j k : List α) : (a ++ (b ++ (c ++ (d ++ (e ++ (f ++ (g ++ (h ++ (i ++ (j ++ k)))))))))).Perm ((a ++ e ++ f) ++ (b ++ (c ++ (d ++ (g ++ (h ++ (i ++ (j ++ k)))))))) := by
  have q := ob_pm [a, b, c, d, e, f, g, h, i, j, k] [0, 1, 2, 3, 4, 5, 6, 7, 8, 9, 10] [0, 4, 5, 1, 2, 3, 6, 7, 8, 9, 10] (by decide)
  simp only [List.flatMap_cons, List.flatMap_nil, List.append_nil, List.getD_cons_zero, List.getD_cons_succ, List.append_assoc] at q ⊢
  exact q
theorem ps_D {α : Type} (a b c d e f g h i j k : List α) : (a ++ (b ++ (c ++ (d ++ (e ++ (f ++ (g ++ (h ++ (i ++ (j ++ k)))))))))).Perm ((a ++ d) ++ (b ++ (c ++ (e ++ (f ++ (g ++ (h ++ (i ++ (j ++ k))))))))) := by
  have q := ob_pm [a, b, c, d, e, f, g, h, i, j, k] [0, 1, 2, 3, 4, 5, 6, 7, 8, 9, 10] [0, 3, 1, 2, 4, 5, 6, 7, 8, 9, 10] (by decide)
  simp only [List.flatMap_cons, List.flatMap_nil, List.append_nil, List.getD_cons_zero, List.getD_cons_succ, List.append_assoc] at q ⊢
  exact q
theorem ps_I {α : Type} (a b c d e f g h i j k : List α) : (a ++ (b ++ (c ++ (d ++ (e ++ (f ++ (g ++ (h ++ (i ++ (j ++ k)))))))))).Perm ((a ++ d ++ e ++ f ++ g) ++ (b ++ (c ++ (h ++ (i ++ (j ++ k)))))) := by
  have q := ob_pm [a, b, c, d, e, f, g, h, i, j, k] [0, 1, 2, 3, 4, 5, 6, 7, 8, 9, 10] [0, 3, 4, 5, 6, 1, 2, 7, 8, 9, 10] (by decide)
  simp only [List.flatMap_cons, List.flatMap_nil, List.append_nil, List.getD_cons_zero, List.getD_cons_succ, List.append_assoc] at q ⊢
  exact q
theorem ps_K {α : Type} (a b c d e f g h i j k : List α) : (a ++ (b ++ (c ++ (d ++ (e ++ (f ++ (g ++ (h ++ (i ++ (j ++ k)))))))))).Perm ((a ++ j ++ e) ++ (b ++ (c ++ (d ++ (f ++ (g ++ (h ++ (i ++ k)))))))) := by
  have q := ob_pm [a, b, c, d, e, f, g, h, i, j, k] [0, 1, 2, 3, 4, 5, 6, 7, 8, 9, 10] [0, 9, 4, 1, 2, 3, 5, 6, 7, 8, 10] (by decide)
  simp only [List.flatMap_cons, List.flatMap_nil, List.append_nil, List.getD_cons_zero, List.getD_cons_succ, List.append_assoc] at q ⊢
  exact q
theorem ps_M {α : Type} (a b c d e f g h i j k : List α) : (a ++ (b ++ (c ++ (d ++ (e ++ (f ++ (g ++ (h ++ (i ++ (j ++ k)))))))))).Perm ((a ++ j) ++ (b ++ (c ++ (d ++ (e ++ (f ++ (g ++ (h ++ (i ++ k))))))))) := by
  have q := ob_pm [a, b, c, d, e, f, g, h, i, j, k] [0, 1, 2, 3, 4, 5, 6, 7, 8, 9, 10] [0, 9, 1, 2, 3, 4, 5, 6, 7, 8, 10] (by decide)
  simp only [List.flatMap_cons, List.flatMap_nil, List.append_nil, List.getD_cons_zero, List.getD_cons_succ, List.append_assoc] at q ⊢
  exact q
theorem ps_O {α : Type} (a b c d e f g h i j k : List α) : (a ++ (b ++ (c ++ (d ++ (e ++ (f ++ (g ++ (h ++ (i ++ (j ++ k)))))))))).Perm ((a ++ e ++ d ++ g) ++ (b ++ (c ++ (f ++ (h ++ (i ++ (j ++ k))))))) := by
  have q := ob_pm [a, b, c, d, e, f, g, h, i, j, k] [0, 1, 2, 3, 4, 5, 6, 7, 8, 9, 10] [0, 4, 3, 6, 1, 2, 5, 7, 8, 9, 10] (by decide)
  simp only [List.flatMap_cons, List.flatMap_nil, List.append_nil, List.getD_cons_zero, List.getD_cons_succ, List.append_assoc] at q ⊢
  exact q
theorem ps_E {α : Type} (a b c d e f g h i j k : List α) : (a ++ (b ++ (c ++ (d ++ (e ++ (f ++ (g ++ (h ++ (i ++ (j ++ k)))))))))).Perm ((a ++ e ++ (g ++ (h ++ i))) ++ (b ++ (c ++ (d ++ (f ++ (j ++ k)))))) := by
  have q := ob_pm [a, b, c, d, e, f, g, h, i, j, k] [0, 1, 2, 3, 4, 5, 6, 7, 8, 9, 10] [0, 4, 6, 7, 8, 1, 2, 3, 5, 9, 10] (by decide)
  simp only [List.flatMap_cons, List.flatMap_nil, List.append_nil, List.getD_cons_zero, List.getD_cons_succ, List.append_assoc] at q ⊢
  exact q
theorem ps_F {α : Type} (a b r c d e f g h i j k : List α) : (a ++ (b ++ ((r ++ c) ++ (d ++ (e ++ (f ++ (g ++ (h ++ (i ++ (j ++ k)))))))))).Perm ((a ++ b ++ r) ++ (c ++ (d ++ (e ++ (f ++ (g ++ (h ++ (i ++ (j ++ k))))))))) := by
  have q := ob_pm [a, b, r, c, d, e, f, g, h, i, j, k] [0, 1, 2, 3, 4, 5, 6, 7, 8, 9, 10, 11] [0, 1, 2, 3, 4, 5, 6, 7, 8, 9, 10, 11] (by decide)
  simp only [List.flatMap_cons, List.flatMap_nil, List.append_nil, List.getD_cons_zero, List.getD_cons_succ, List.append_assoc] at q ⊢
  exact q
theorem ps_H {α : Type} (a b r c d e f g h i j k : List α) : (a ++ (b ++ ((r ++ c) ++ (d ++ (e ++ (f ++ (g ++ (h ++ (i ++ (j ++ k)))))))))).Perm ((a ++ b ++ r ++ e ++ f) ++ (c ++ (d ++ (g ++ (h ++ (i ++ (j ++ k))))))) := by
  have q := ob_pm [a, b, r, c, d, e, f, g, h, i, j, k] [0, 1, 2, 3, 4, 5, 6, 7, 8, 9, 10, 11] [0, 1, 2, 5, 6, 3, 4, 7, 8, 9, 10, 11] (by decide)
  simp only [List.flatMap_cons, List.flatMap_nil, List.append_nil, List.getD_cons_zero, List.getD_cons_succ, List.append_assoc] at q ⊢
  exact q
theorem ps_G {α : Type} (a b r s c d e f g h i j k : List α) : (a ++ (b ++ ((r ++ (s ++ c)) ++ (d ++ (e ++ (f ++ (g ++ (h ++ (i ++ (j ++ k)))))))))).Perm ((a ++ b ++ r ++ s) ++ (c ++ (d ++ (e ++ (f ++ (g ++ (h ++ (i ++ (j ++ k))))))))) := by
  have q := ob_pm [a, b, r, s, c, d, e, f, g, h, i, j, k] [0, 1, 2, 3, 4, 5, 6, 7, 8, 9, 10, 11, 12] [0, 1, 2, 3, 4, 5, 6, 7, 8, 9, 10, 11, 12] (by decide)
  simp only [List.flatMap_cons, List.flatMap_nil, List.append_nil, List.getD_cons_zero, List.getD_cons_succ, List.append_assoc] at q ⊢
  exact q
theorem ps_J {α : Type} (a b c d e f g h i j r k : List α) : (a ++ (b ++ (c ++ (d ++ (e ++ (f ++ (g ++ (h ++ (i ++ (j ++ ((r ++ k)))))))))))).Perm ((a ++ j ++ e ++ r) ++ (b ++ (c ++ (d ++ (f ++ (g ++ (h ++ (i ++ k)))))))) := by
  have q := ob_pm [a, b, c, d, e, f, g, h, i, j, r, k] [0, 1, 2, 3, 4, 5, 6, 7, 8, 9, 10, 11] [0, 9, 4, 10, 1, 2, 3, 5, 6, 7, 8, 11] (by decide)
  simp only [List.flatMap_cons, List.flatMap_nil, List.append_nil, List.getD_cons_zero, List.getD_cons_succ, List.append_assoc] at q ⊢
  exact q
theorem ps_L {α : Type} (a b c d e f g h i j r k : List α) : (a ++ (b ++ (c ++ (d ++ (e ++ (f ++ (g ++ (h ++ (i ++ (j ++ ((r ++ k)))))))))))).Perm ((a ++ j ++ e ++ r ++ g) ++ (b ++ (c ++ (d ++ (f ++ (h ++ (i ++ k))))))) := by
  have q := ob_pm [a, b, c, d, e, f, g, h, i, j, r, k] [0, 1, 2, 3, 4, 5, 6, 7, 8, 9, 10, 11] [0, 9, 4, 10, 6, 1, 2, 3, 5, 7, 8, 11] (by decide)
  simp only [List.flatMap_cons, List.flatMap_nil, List.append_nil, List.getD_cons_zero, List.getD_cons_succ, List.append_assoc] at q ⊢
  exact q
theorem ps_N {α : Type} (a b r0 r1 r2 r3 r4 r5 r6 r7 d e f g h i j k : List α) : (a ++ (b ++ ((r0 ++ (r1 ++ (r2 ++ (r3 ++ (r4 ++ (r5 ++ (r6 ++ r7))))))) ++ (d ++ (e ++ (f ++ (g ++ (h ++ (i ++ (j ++ k)))))))))).Perm ((a ++ b ++ r0 ++ r1 ++ r2 ++ r3 ++ r4 ++ r5 ++ r6 ++ r7) ++ (d ++ (e ++ (f ++ (g ++ (h ++ (i ++ (j ++ k)))))))) := by
  have q := ob_pm [a, b, r0, r1, r2, r3, r4, r5, r6, r7, d, e, f, g, h, i, j, k] [0, 1, 2, 3, 4, 5, 6, 7, 8, 9, 10, 11, 12, 13, 14, 15, 16, 17] [0, 1, 2, 3, 4, 5, 6, 7, 8, 9, 10, 11, 12, 13, 14, 15, 16, 17] (by decide)
  simp only [List.flatMap_cons, List.flatMap_nil, List.append_nil, List.getD_cons_zero, List.getD_cons_succ, List.append_assoc] at q ⊢
  exact q
theorem ps_c {α : Type} {c c2 : List α} (h : c.Perm c2) (a b R : List α) : (a ++ (b ++ (c ++ R))).Perm (a ++ (b ++ (c2 ++ R))) := List.Perm.append_left _ (List.Perm.append_left _ (h.append_right _))
theorem ps_k {α : Type} {k k2 : List α} (q : k.Perm k2) (a b c d e f g h i j : List α) : (a ++ (b ++ (c ++ (d ++ (e ++ (f ++ (g ++ (h ++ (i ++ (j ++ k)))))))))).Perm (a ++ (b ++ (c ++ (d ++ (e ++ (f ++ (g ++ (h ++ (i ++ (j ++ k2)))))))))) :=
  List.Perm.append_left _ (List.Perm.append_left _ (List.Perm.append_left _ (List.Perm.append_left _ (List.Perm.append_left _ (List.Perm.append_left _ (List.Perm.append_left _ (List.Perm.append_left _ (List.Perm.append_left _ (List.Perm.append_left _ (q))))))))))
/-- a row taken out -/
def ob_rz (cI : ClassId) (ar : ob_AH) (w : Nat → ob_B) (i : Nat) : va_W := (List.range 8).flatMap (va_up (fun i => ob_w2 (ar i).1 (ar i).2 cI (w i)) i [])
theorem ob_ro {cI : ClassId} {ar : ob_AH} {w : Nat → ob_B} {i : Nat} (hi : i < 8) : (ob_ry cI ar w 8).Perm (ob_w2 (ar i).1 (ar i).2 cI (w i) ++ ob_rz cI ar w i) := ob_fm (fun i => ob_w2 (ar i).1 (ar i).2 cI (w i)) i 8 hi
theorem ob_rz_up (cI : ClassId) (ar : ob_AH) (w : Nat → ob_B) (i : Nat) (v : ob_B) : ob_rz cI ar (va_up w i v) i = ob_rz cI ar w i := by
  unfold ob_rz
  congr 1
  funext j
  by_cases h : j = i
  · subst h; rw [va_up_self, va_up_self]
  · rw [va_up_ne _ _ h, va_up_ne _ _ h, va_up_ne _ _ h]
theorem ob_ro2 {cI : ClassId} {ar : ob_AH} {w : Nat → ob_B} {i : Nat} (hi : i < 8) (v : ob_B) : (ob_ry cI ar (va_up w i v) 8).Perm (ob_w2 (ar i).1 (ar i).2 cI v ++ ob_rz cI ar w i) := by
  have h := ob_ro (cI := cI) (ar := ar) (w := va_up w i v) hi
  rw [ob_rz_up, va_up_self] at h
  exact h
/-- two rows taken out -/
def ob_rzz (cI : ClassId) (ar : ob_AH) (w : Nat → ob_B) (i j : Nat) : va_W := (List.range 8).flatMap (va_up (va_up (fun i => ob_w2 (ar i).1 (ar i).2 cI (w i)) i []) j [])
theorem ob_roo {cI : ClassId} {ar : ob_AH} {w : Nat → ob_B} {i j : Nat} (hi : i < 8) (hj : j < 8) (hij : i ≠ j) : (ob_ry cI ar w 8).Perm (ob_w2 (ar i).1 (ar i).2 cI (w i) ++ (ob_w2 (ar j).1 (ar j).2 cI (w j) ++ ob_rzz cI ar w i j)) := by
  refine (ob_ro hi).trans (List.Perm.append_left _ ?_)
  have h := ob_fm (va_up (fun i => ob_w2 (ar i).1 (ar i).2 cI (w i)) i []) j 8 hj
  rw [va_up_ne _ _ (fun q => hij q.symm)] at h
  exact h
theorem ob_rzz_up (cI : ClassId) (ar : ob_AH) (w : Nat → ob_B) (i j : Nat) (v : ob_B) : ob_rzz cI ar (va_up w j v) i j = ob_rzz cI ar w i j := by
  unfold ob_rzz
  congr 1
  funext t
  by_cases h : t = j
  · subst h; rw [va_up_self, va_up_self]
  · rw [va_up_ne _ _ h, va_up_ne _ _ h]
    by_cases h2 : t = i
    · subst h2; rw [va_up_self, va_up_self]
    · rw [va_up_ne _ _ h2, va_up_ne _ _ h2, va_up_ne _ _ h]
theorem ob_roo2 {cI : ClassId} {ar : ob_AH} {w : Nat → ob_B} {i j : Nat} (hi : i < 8) (hj : j < 8) (hij : i ≠ j) (v : ob_B) : (ob_ry cI ar (va_up w j v) 8).Perm (ob_w2 (ar i).1 (ar i).2 cI (w i) ++ (ob_w2 (ar j).1 (ar j).2 cI v ++ ob_rzz cI ar w i j)) := by
  have h := ob_roo (cI := cI) (ar := ar) (w := va_up w j v) hi hj hij
  rw [ob_rzz_up, va_up_self, va_up_ne _ _ hij] at h
  exact h
theorem ob_r8 (cI : ClassId) (ar : ob_AH) (w : Nat → ob_B) : ob_ry cI ar w 8 = ob_w2 (ar 0).1 (ar 0).2 cI (w 0) ++ (ob_w2 (ar 1).1 (ar 1).2 cI (w 1) ++ (ob_w2 (ar 2).1 (ar 2).2 cI (w 2) ++ (ob_w2 (ar 3).1 (ar 3).2 cI (w 3) ++ (ob_w2 (ar 4).1 (ar 4).2 cI (w 4) ++ (ob_w2 (ar 5).1 (ar 5).2 cI (w 5) ++ (ob_w2 (ar 6).1 (ar 6).2 cI (w 6) ++ ob_w2 (ar 7).1 (ar 7).2 cI (w 7))))))) := by
  unfold ob_ry
  rw [show List.range 8 = [0, 1, 2, 3, 4, 5, 6, 7] from rfl]
  simp only [List.flatMap_cons, List.flatMap_nil, List.append_nil]
