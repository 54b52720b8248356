/-! worlds up to order; contracts whose end names new addresses; the frame rule -/
theorem ob_Pm {D : va_G} {ws w2 : va_W} {H : Heap} (h : va_P D vwCl ws H) (hp : ∀ q ∈ w2, q ∈ ws) : va_P D vwCl w2 H := by
  intro k q hk
  obtain ⟨i, hi⟩ := List.getElem?_of_mem (hp q (List.mem_of_getElem? hk))
  exact h i q hi
theorem ob_Di {A : Nat → Prop} {ws : va_W} : va_D A ws ↔ (ws.map Prod.fst).Nodup ∧ ∀ q ∈ ws, A q.1 := by
  constructor
  · intro h
    refine ⟨?_, fun q hq => ?_⟩
    · refine List.pairwise_iff_getElem.mpr (fun i j hi hj hij he => ?_)
      rw [List.length_map] at hi hj
      rw [List.getElem_map, List.getElem_map] at he
      have := h.1 i j _ _ (List.getElem?_eq_getElem hi) (List.getElem?_eq_getElem hj) he
      omega
    · obtain ⟨i, hi⟩ := List.getElem?_of_mem hq
      exact h.2 i q hi
  · intro h
    refine ⟨fun i j p q hi hj he => ?_, fun k q hk => h.2 q (List.mem_of_getElem? hk)⟩
    have hn := List.pairwise_iff_getElem.mp h.1
    obtain ⟨li, hi'⟩ := List.getElem?_eq_some_iff.mp hi
    obtain ⟨lj, hj'⟩ := List.getElem?_eq_some_iff.mp hj
    have mi : i < (ws.map Prod.fst).length := by rw [List.length_map]; exact li
    have mj : j < (ws.map Prod.fst).length := by rw [List.length_map]; exact lj
    rcases Nat.lt_trichotomy i j with hlt | heq | hgt
    · exact absurd (by rw [List.getElem_map, List.getElem_map, hi', hj']; exact he) (hn i j mi mj hlt)
    · exact heq
    · exact absurd (by rw [List.getElem_map, List.getElem_map, hi', hj']; exact he.symm) (hn j i mj mi hgt)
theorem ob_Pp {D : va_G} {ws w2 : va_W} {H : Heap} (h : va_P D vwCl ws H) (hp : ws.Perm w2) : va_P D vwCl w2 H := ob_Pm h (fun q hq => hp.mem_iff.mpr hq)
theorem ob_Dp {A : Nat → Prop} {ws w2 : va_W} (h : va_D A ws) (hp : ws.Perm w2) : va_D A w2 := by
  rw [ob_Di] at h ⊢
  exact ⟨(hp.map Prod.fst).nodup_iff.mp h.1, fun q hq => h.2 q (hp.mem_iff.mpr hq)⟩
theorem ob_Dl {A : Nat → Prop} {w1 w2 : va_W} (h : va_D A (w1 ++ w2)) : va_D A w1 := by
  rw [ob_Di] at h ⊢
  rw [List.map_append, List.nodup_append] at h
  exact ⟨h.1.1, fun q hq => h.2 q (List.mem_append_left _ hq)⟩
theorem ob_Ain {ws : va_W} {sz q : Nat} : va_A ws sz q ↔ (∃ e, (q, e) ∈ ws) ∨ sz ≤ q := by
  constructor
  · rintro (⟨k, e, h⟩ | h)
    · exact Or.inl ⟨e, List.mem_of_getElem? h⟩
    · exact Or.inr h
  · rintro (⟨e, h⟩ | h)
    · obtain ⟨k, hk⟩ := List.getElem?_of_mem h
      exact Or.inl ⟨k, e, hk⟩
    · exact Or.inr h
/-- the caller's other cells beside what came back -/
theorem ob_jn {A : Nat → Prop} {D : va_G} {ws wc wr w1 : va_W} {H H1 : Heap} (hP : va_P D vwCl ws H) (hD : va_D A ws) (hp : ws.Perm (wc ++ wr)) (hk : ∀ q : Nat, q < H.size → ¬ va_A wc H.size q → H1[q]? = H[q]?) (hF : ∀ q, va_A wc H.size q → A q) (hP1 : va_P D vwCl w1 H1) (hD1 : va_D (va_A wc H.size) w1) : va_P D vwCl (wr ++ w1) H1 ∧ va_D A (wr ++ w1) := by
  have hP' := ob_Pp hP hp
  have hD' := ob_Dp hD hp
  have hlt : ∀ q ∈ wr, q.1 < H.size := by
    intro q hq
    obtain ⟨k, hk⟩ := List.getElem?_of_mem (List.mem_append_right wc hq)
    exact (hP' k q hk).lt
  have hno : ∀ q ∈ wr, ¬ va_A wc H.size q.1 := by
    intro q hq hA
    rw [ob_Ain] at hA
    rcases hA with ⟨e, he⟩ | h
    · rw [ob_Di, List.map_append, List.nodup_append] at hD'
      exact hD'.1.2.2 q.1 (List.mem_map.mpr ⟨_, he, rfl⟩) q.1 (List.mem_map.mpr ⟨_, hq, rfl⟩) rfl
    · exact absurd (hlt q hq) (Nat.not_lt.mpr h)
  constructor
  · intro k q hk'
    rcases List.mem_append.mp (List.mem_of_getElem? hk') with hm | hm
    · obtain ⟨i, hi⟩ := List.getElem?_of_mem (List.mem_append_right wc hm)
      exact (hP' i q hi).kept (hk q.1 (hlt q hm) (hno q hm))
    · obtain ⟨i, hi⟩ := List.getElem?_of_mem hm
      exact hP1 i q hi
  · rw [ob_Di] at hD' hD1 ⊢
    rw [List.map_append, List.nodup_append] at hD'
    refine ⟨?_, ?_⟩
    · rw [List.map_append, List.nodup_append]
      refine ⟨hD'.1.2.1, hD1.1, ?_⟩
      intro a ha b hb he
      subst he
      obtain ⟨q, hq, rfl⟩ := List.mem_map.mp ha
      obtain ⟨q2, hq2, he2⟩ := List.mem_map.mp hb
      exact hno q hq (by rw [← he2]; exact hD1.2 q2 hq2)
    · intro q hq
      rcases List.mem_append.mp hq with hm | hm
      · exact hD'.2 q (List.mem_append_right _ hm)
      · exact hF q.1 (hD1.2 q hm)
theorem ob_fr {A : Nat → Prop} {ws wc wr : va_W} {H0 H : Heap} {locs : List Loc} (hD : va_D A ws) (hS : va_S A H0 H locs) (hA : ∀ q, H0.size ≤ q → A q) (hp : ws.Perm (wc ++ wr)) : ∀ q, va_A wc H.size q → A q := by
  intro q h
  rw [ob_Ain] at h
  rcases h with ⟨e, he⟩ | h
  · rw [ob_Di] at hD
    exact hD.2 _ (hp.mem_iff.mpr (List.mem_append_left _ he))
  · exact hA q (Nat.le_trans hS.1 h)
def ob_QiE {S : Type} (D : va_G) (post : Int32 → S → Prop) (w' : S → va_W) : ob_QT := fun A => va_Qi post (fun u => ob_po D A (w' u)) A
def ob_QlE {S : Type} (D : va_G) (post : Int64 → S → Prop) (w' : S → va_W) : ob_QT := fun A => va_Ql post (fun u => ob_po D A (w' u)) A
def ob_QvE {S : Type} (D : va_G) (post : S → Prop) (w' : S → va_W) : ob_QT := fun A => va_Qv post (fun u => ob_po D A (w' u)) A
theorem ob_MiE {l : Launch} {y : MethodName} {wl : List Cond} {rm : Room} {D : va_G} {tys : List (ClassId × FieldType)} {X : Nat → Nat} {av : List Value} {ws : va_W} {sz : Nat} {r : Int32} {w' : va_W} (h : ob_M l y wl rm D tys X av ws sz (ob_Qi D r w')) : ob_M l y wl rm D tys X av ws sz (ob_QiE D (fun r' (_ : Unit) => r' = r) (fun _ => w')) := h
theorem ob_MlE {l : Launch} {y : MethodName} {wl : List Cond} {rm : Room} {D : va_G} {tys : List (ClassId × FieldType)} {X : Nat → Nat} {av : List Value} {ws : va_W} {sz : Nat} {r : Int64} {w' : va_W} (h : ob_M l y wl rm D tys X av ws sz (ob_Ql D r w')) : ob_M l y wl rm D tys X av ws sz (ob_QlE D (fun r' (_ : Unit) => r' = r) (fun _ => w')) := h
theorem ob_MvE {l : Launch} {y : MethodName} {wl : List Cond} {rm : Room} {D : va_G} {tys : List (ClassId × FieldType)} {X : Nat → Nat} {av : List Value} {ws : va_W} {sz : Nat} {w' : va_W} (h : ob_M l y wl rm D tys X av ws sz (ob_Qv D w')) : ob_M l y wl rm D tys X av ws sz (ob_QvE D (fun (_ : Unit) => True) (fun _ => w')) := h
/-- consequence, with the start at hand -/
theorem ob_csq {l : Launch} {y : MethodName} {wl : List Cond} {rm : Room} {Pc Pc' : Array Value → State → Prop} {Qc Qc' : Array Value → State → Outcome → State → Prop} {mc ms : Nat} {fr fr' : Addr → Prop} (hM : Met l y wl rm Pc Qc mc ms fr) (h1 : ∀ a s, Pc' a s → Pc a s) (h2 : ∀ a s o t, Pc' a s → Qc a s o t → Qc' a s o t) (h3 : ∀ a s, Pc' a s → ∀ q, fr q → fr' q) : Met l y wl rm Pc' Qc' mc ms fr' := by
  intro p e ha hc hk s m args below hf happ hP hK
  obtain ⟨n, o, a1, a2, a3, a4, L, a5, a6⟩ := hM p e ha hc hk s m args below hf happ (h1 _ _ hP) hK
  exact ⟨n, o, a1, a2, a3, h2 _ _ _ _ hP a4, L, a5, fun q hq => h3 _ _ hP _ (a6 q hq)⟩
theorem ob_Asub {ws wc wr : va_W} {sz : Nat} (hp : ws.Perm (wc ++ wr)) : ∀ q, va_A wc sz q → va_A ws sz q := by
  intro q h
  rw [ob_Ain] at h ⊢
  rcases h with ⟨e, he⟩ | h
  · exact Or.inl ⟨e, hp.mem_iff.mpr (List.mem_append_left _ he)⟩
  · exact Or.inr h
theorem ob_preF {D : va_G} {tys : List (ClassId × FieldType)} {X : Nat → Nat} {ws wc wr : va_W} {sz : Nat} (hp : ws.Perm (wc ++ wr)) {U : State} (h : ob_pre D tys X ws sz U) : ob_pre D tys X wc sz U := by
  obtain ⟨h0, hP, hK, hD, hE⟩ := h
  refine ⟨h0, ob_Pm hP (fun q hq => hp.mem_iff.mpr (List.mem_append_left _ hq)), hK, ob_Dl (ob_Dp hD hp), ?_⟩
  obtain ⟨h1, h2, h3, h4, h5, h6, h7, h8, h9, hr⟩ := hE
  have hs := ob_Asub (sz := sz) hp
  exact ⟨h1.narrow hs, h2.narrow hs, h3.narrow hs, h4.narrow hs, h5.narrow hs, h6.narrow hs, h7, h8.narrow hs, h9.narrow hs, hr⟩
theorem ob_poF {D : va_G} {tys : List (ClassId × FieldType)} {X : Nat → Nat} {ws wc wr w1 : va_W} {sz : Nat} (hp : ws.Perm (wc ++ wr)) {s t : State} (h : ob_pre D tys X ws sz s) (hF : va_F (va_A wc sz) s t) (hb : ob_po D (va_A wc sz) w1 t) : ob_po D (va_A ws sz) (wr ++ w1) t ∧ va_F (va_A ws sz) s t := by
  obtain ⟨rfl, hP, hK, hD, hE⟩ := h
  obtain ⟨hP1, hD1⟩ := hb
  obtain ⟨z, k⟩ := hF
  exact ⟨ob_jn hP (hD.self) hp k (ob_Asub hp) hP1 hD1, z, fun q hq hn => k q hq (fun h => hn (ob_Asub hp q h))⟩
/-- THE FRAME RULE for contracts -/
theorem ob_frv {l : Launch} {y : MethodName} {wl : List Cond} {rm : Room} {D : va_G} {tys : List (ClassId × FieldType)} {X : Nat → Nat} {av : List Value} {ws wc : va_W} (wr : va_W) {sz : Nat} {S : Type} {post : S → Prop} {w1 : S → va_W} (hM : ob_M l y wl rm D tys X av wc sz (ob_QvE D post w1)) (hp : ws.Perm (wc ++ wr)) : ob_M l y wl rm D tys X av ws sz (ob_QvE D post (fun u => wr ++ w1 u)) := by
  refine ob_csq hM (fun a s h => ⟨h.1, ob_preF hp h.2⟩) ?_ (fun _ _ _ => ob_Asub hp)
  rintro a s o t h ⟨⟨u, h1, h2, h3⟩, h4⟩
  have := ob_poF hp h.2 h4 h3
  exact ⟨⟨u, h1, h2, this.1⟩, this.2⟩
theorem ob_fri {l : Launch} {y : MethodName} {wl : List Cond} {rm : Room} {D : va_G} {tys : List (ClassId × FieldType)} {X : Nat → Nat} {av : List Value} {ws wc : va_W} (wr : va_W) {sz : Nat} {S : Type} {post : Int32 → S → Prop} {w1 : S → va_W} (hM : ob_M l y wl rm D tys X av wc sz (ob_QiE D post w1)) (hp : ws.Perm (wc ++ wr)) : ob_M l y wl rm D tys X av ws sz (ob_QiE D post (fun u => wr ++ w1 u)) := by
  refine ob_csq hM (fun a s h => ⟨h.1, ob_preF hp h.2⟩) ?_ (fun _ _ _ => ob_Asub hp)
  rintro a s o t h ⟨⟨r, u, h1, h2, h3⟩, h4⟩
  have := ob_poF hp h.2 h4 h3
  exact ⟨⟨r, u, h1, h2, this.1⟩, this.2⟩
theorem ob_frl {l : Launch} {y : MethodName} {wl : List Cond} {rm : Room} {D : va_G} {tys : List (ClassId × FieldType)} {X : Nat → Nat} {av : List Value} {ws wc : va_W} (wr : va_W) {sz : Nat} {S : Type} {post : Int64 → S → Prop} {w1 : S → va_W} (hM : ob_M l y wl rm D tys X av wc sz (ob_QlE D post w1)) (hp : ws.Perm (wc ++ wr)) : ob_M l y wl rm D tys X av ws sz (ob_QlE D post (fun u => wr ++ w1 u)) := by
  refine ob_csq hM (fun a s h => ⟨h.1, ob_preF hp h.2⟩) ?_ (fun _ _ _ => ob_Asub hp)
  rintro a s o t h ⟨⟨r, u, h1, h2, h3⟩, h4⟩
  have := ob_poF hp h.2 h4 h3
  exact ⟨⟨r, u, h1, h2, this.1⟩, this.2⟩
/-- another end: the same answers, the world laid out in another way -/
theorem ob_pov {l : Launch} {y : MethodName} {wl : List Cond} {rm : Room} {D : va_G} {tys : List (ClassId × FieldType)} {X : Nat → Nat} {av : List Value} {ws : va_W} {sz : Nat} {S S' : Type} {post : S → Prop} {w1 : S → va_W} {post' : S' → Prop} {w1' : S' → va_W} (hM : ob_M l y wl rm D tys X av ws sz (ob_QvE D post w1)) (h : ∀ u, post u → ∃ u', post' u' ∧ (w1 u).Perm (w1' u')) : ob_M l y wl rm D tys X av ws sz (ob_QvE D post' w1') := by
  refine ob_csq hM (fun a s h => h) ?_ (fun _ _ _ _ h => h)
  rintro a s o t _ ⟨⟨u, h1, h2, h3, h5⟩, h4⟩
  obtain ⟨u', g1, g2⟩ := h u h2
  exact ⟨⟨u', h1, g1, ob_Pp h3 g2, ob_Dp h5 g2⟩, h4⟩
theorem ob_poi {l : Launch} {y : MethodName} {wl : List Cond} {rm : Room} {D : va_G} {tys : List (ClassId × FieldType)} {X : Nat → Nat} {av : List Value} {ws : va_W} {sz : Nat} {S S' : Type} {post : Int32 → S → Prop} {w1 : S → va_W} {post' : Int32 → S' → Prop} {w1' : S' → va_W} (hM : ob_M l y wl rm D tys X av ws sz (ob_QiE D post w1)) (h : ∀ r u, post r u → ∃ u', post' r u' ∧ (w1 u).Perm (w1' u')) : ob_M l y wl rm D tys X av ws sz (ob_QiE D post' w1') := by
  refine ob_csq hM (fun a s h => h) ?_ (fun _ _ _ _ h => h)
  rintro a s o t _ ⟨⟨r, u, h1, h2, h3, h5⟩, h4⟩
  obtain ⟨u', g1, g2⟩ := h r u h2
  exact ⟨⟨r, u', h1, g1, ob_Pp h3 g2, ob_Dp h5 g2⟩, h4⟩
section OBP
variable {p : Program} {l : Launch} {e : Env} {R : Room} {s : State} {m : MethodId} {args : Array Value} {below : List Frame} {meth : Method} {c : Code} {H : Heap} {locs : List Loc} {cells slots : Nat} {Q : State → Prop}
variable {cc : ByteArray} {pc : Nat} {ls : Array Slot} {rest : List Value} {A : Nat → Prop} {D : va_G}
variable {Ts wl wl' : List Cond} {bytes : ByteArray} {nL maxL index n : Nat} {own C : String} {y : MethodName} {ret : Option FieldType} {rm : Room} {tys : List (ClassId × FieldType)} {X : Nat → Nat} {b : Addr} {As : List Value} {st0 : List Value} {ws wc wr : va_W} {lv : List (Nat × Value)}
theorem ob_gPi {S : Type} {post : Int32 → S → Prop} {w1 : S → va_W} {a : Array Value} (hr : (∀ q, va_A wc H.size q → A q) → va_P D vwCl wc H → va_D A wc → va_Run p l e R s m args below meth c H locs cells slots rm.cells rm.slots (F0 m pc ls st0) rest (ob_QiE D post w1 (va_A wc H.size) a) (va_A wc H.size)) (hP : va_P D vwCl ws H) (hD : va_D A ws) (hS : va_S A s.heap H locs) (hA : ∀ q, s.heap.size ≤ q → A q) (hp : ws.Perm (wc ++ wr))
    (kk : ∀ (r : Int32) (u : S) (H1 : Heap) (locs1 : List Loc), post r u → va_P D vwCl (wr ++ w1 u) H1 → va_D A (wr ++ w1 u) → va_S A s.heap H1 locs1 → W p l e R s m args below meth c H1 locs1 (cells + rm.cells) (slots + rm.slots) Q (F0 m (pc + 3) ls (.int r :: rest))) : W p l e R s m args below meth c H locs cells slots Q (F0 m pc ls st0) := by
  have hF := ob_fr (wc := wc) hD hS hA hp
  refine va_calli (hr hF (ob_Pm hP (fun q hq => hp.mem_iff.mpr (List.mem_append_left _ hq))) (ob_Dl (ob_Dp hD hp))) hS (fun q _ h => hF q h) hF (fun r' u t H1 locs1 ht hvm hw hB hz1 hk1 hS1 => ?_)
  obtain ⟨hP1, hD1⟩ := hB
  rw [ht] at hP1
  have hj := ob_jn hP hD hp hk1 hF hP1 hD1
  exact kk r' u H1 locs1 hw hj.1 hj.2 hS1
theorem ob_gPl {S : Type} {post : Int64 → S → Prop} {w1 : S → va_W} {a : Array Value} (hr : (∀ q, va_A wc H.size q → A q) → va_P D vwCl wc H → va_D A wc → va_Run p l e R s m args below meth c H locs cells slots rm.cells rm.slots (F0 m pc ls st0) rest (ob_QlE D post w1 (va_A wc H.size) a) (va_A wc H.size)) (hP : va_P D vwCl ws H) (hD : va_D A ws) (hS : va_S A s.heap H locs) (hA : ∀ q, s.heap.size ≤ q → A q) (hp : ws.Perm (wc ++ wr))
    (kk : ∀ (r : Int64) (u : S) (H1 : Heap) (locs1 : List Loc), post r u → va_P D vwCl (wr ++ w1 u) H1 → va_D A (wr ++ w1 u) → va_S A s.heap H1 locs1 → W p l e R s m args below meth c H1 locs1 (cells + rm.cells) (slots + rm.slots) Q (F0 m (pc + 3) ls (.long r :: rest))) : W p l e R s m args below meth c H locs cells slots Q (F0 m pc ls st0) := by
  have hF := ob_fr (wc := wc) hD hS hA hp
  refine va_calll (hr hF (ob_Pm hP (fun q hq => hp.mem_iff.mpr (List.mem_append_left _ hq))) (ob_Dl (ob_Dp hD hp))) hS (fun q _ h => hF q h) hF (fun r' u t H1 locs1 ht hvm hw hB hz1 hk1 hS1 => ?_)
  obtain ⟨hP1, hD1⟩ := hB
  rw [ht] at hP1
  have hj := ob_jn hP hD hp hk1 hF hP1 hD1
  exact kk r' u H1 locs1 hw hj.1 hj.2 hS1
theorem ob_gPv {S : Type} {post : S → Prop} {w1 : S → va_W} {a : Array Value} (hr : (∀ q, va_A wc H.size q → A q) → va_P D vwCl wc H → va_D A wc → va_Run p l e R s m args below meth c H locs cells slots rm.cells rm.slots (F0 m pc ls st0) rest (ob_QvE D post w1 (va_A wc H.size) a) (va_A wc H.size)) (hP : va_P D vwCl ws H) (hD : va_D A ws) (hS : va_S A s.heap H locs) (hA : ∀ q, s.heap.size ≤ q → A q) (hp : ws.Perm (wc ++ wr))
    (kk : ∀ (u : S) (H1 : Heap) (locs1 : List Loc), post u → va_P D vwCl (wr ++ w1 u) H1 → va_D A (wr ++ w1 u) → va_S A s.heap H1 locs1 → W p l e R s m args below meth c H1 locs1 (cells + rm.cells) (slots + rm.slots) Q (F0 m (pc + 3) ls rest)) : W p l e R s m args below meth c H locs cells slots Q (F0 m pc ls st0) := by
  have hF := ob_fr (wc := wc) hD hS hA hp
  refine va_callv (hr hF (ob_Pm hP (fun q hq => hp.mem_iff.mpr (List.mem_append_left _ hq))) (ob_Dl (ob_Dp hD hp))) hS (fun q _ h => hF q h) hF (fun u t H1 locs1 ht hvm hw hB hz1 hk1 hS1 => ?_)
  obtain ⟨hP1, hD1⟩ := hB
  rw [ht] at hP1
  have hj := ob_jn hP hD hp hk1 hF hP1 hD1
  exact kk u H1 locs1 hw hj.1 hj.2 hS1
theorem ob_PVi {S : Type} {post : Int32 → S → Prop} {w1 : S → va_W} (F : CallFix p m c cc nL s args Ts own) (hM : ob_M l y wl rm D tys X (.ref b :: As) wc H.size (ob_QiE D post w1)) (cw : CallW R s args own C index y bytes maxL ret wl rm rm.cells rm.slots n) (hK : va_K D vwCl tys s) (hE : ob_E X A s s.heap) (hP : va_P D vwCl ws H) (hD : va_D A ws) (hS : va_S A s.heap H locs) (hA : ∀ q, s.heap.size ≤ q → A q) (hp : ws.Perm (wc ++ wr))
    (ci q0 : Nat) {qc : vw_C} {fs : List Value} (hci : vwCl[ci]? = some qc) (hC : qc.1 = C) (hrv : wc[q0]? = some (b, .inr (ci, fs))) (hl : lv_has ls nL lv) (hn : As.length = n) (hst : st0 = As.reverse ++ .ref b :: rest) (hw8 : (rest.map fun v => v.category).sum ≤ 8) (hf : cells + rm.cells ≤ R.cells ∧ slots + rm.slots ≤ R.slots) (hdg : decode cc pc = .ok (.invokevirtual index, 3))
    (kk : ∀ (r : Int32) (u : S) (H1 : Heap) (locs1 : List Loc), post r u → va_P D vwCl (wr ++ w1 u) H1 → va_D A (wr ++ w1 u) → va_S A s.heap H1 locs1 → W p l e R s m args below meth c H1 locs1 (cells + rm.cells) (slots + rm.slots) Q (F0 m (pc + 3) ls (.int r :: rest))) : W p l e R s m args below meth c H locs cells slots Q (F0 m pc ls st0) :=
  ob_gPi (fun hF hPc hDc => va_runV F hM cw (ob_preV hK hE hS hF hPc hDc ci q0 hci hC hrv) rfl hn hl.1 hst (lv_room hw8) hdg hf) hP hD hS hA hp kk
theorem ob_PVl {S : Type} {post : Int64 → S → Prop} {w1 : S → va_W} (F : CallFix p m c cc nL s args Ts own) (hM : ob_M l y wl rm D tys X (.ref b :: As) wc H.size (ob_QlE D post w1)) (cw : CallW R s args own C index y bytes maxL ret wl rm rm.cells rm.slots n) (hK : va_K D vwCl tys s) (hE : ob_E X A s s.heap) (hP : va_P D vwCl ws H) (hD : va_D A ws) (hS : va_S A s.heap H locs) (hA : ∀ q, s.heap.size ≤ q → A q) (hp : ws.Perm (wc ++ wr))
    (ci q0 : Nat) {qc : vw_C} {fs : List Value} (hci : vwCl[ci]? = some qc) (hC : qc.1 = C) (hrv : wc[q0]? = some (b, .inr (ci, fs))) (hl : lv_has ls nL lv) (hn : As.length = n) (hst : st0 = As.reverse ++ .ref b :: rest) (hw8 : (rest.map fun v => v.category).sum ≤ 8) (hf : cells + rm.cells ≤ R.cells ∧ slots + rm.slots ≤ R.slots) (hdg : decode cc pc = .ok (.invokevirtual index, 3))
    (kk : ∀ (r : Int64) (u : S) (H1 : Heap) (locs1 : List Loc), post r u → va_P D vwCl (wr ++ w1 u) H1 → va_D A (wr ++ w1 u) → va_S A s.heap H1 locs1 → W p l e R s m args below meth c H1 locs1 (cells + rm.cells) (slots + rm.slots) Q (F0 m (pc + 3) ls (.long r :: rest))) : W p l e R s m args below meth c H locs cells slots Q (F0 m pc ls st0) :=
  ob_gPl (fun hF hPc hDc => va_runV F hM cw (ob_preV hK hE hS hF hPc hDc ci q0 hci hC hrv) rfl hn hl.1 hst (lv_room hw8) hdg hf) hP hD hS hA hp kk
theorem ob_PVv {S : Type} {post : S → Prop} {w1 : S → va_W} (F : CallFix p m c cc nL s args Ts own) (hM : ob_M l y wl rm D tys X (.ref b :: As) wc H.size (ob_QvE D post w1)) (cw : CallW R s args own C index y bytes maxL ret wl rm rm.cells rm.slots n) (hK : va_K D vwCl tys s) (hE : ob_E X A s s.heap) (hP : va_P D vwCl ws H) (hD : va_D A ws) (hS : va_S A s.heap H locs) (hA : ∀ q, s.heap.size ≤ q → A q) (hp : ws.Perm (wc ++ wr))
    (ci q0 : Nat) {qc : vw_C} {fs : List Value} (hci : vwCl[ci]? = some qc) (hC : qc.1 = C) (hrv : wc[q0]? = some (b, .inr (ci, fs))) (hl : lv_has ls nL lv) (hn : As.length = n) (hst : st0 = As.reverse ++ .ref b :: rest) (hw8 : (rest.map fun v => v.category).sum ≤ 8) (hf : cells + rm.cells ≤ R.cells ∧ slots + rm.slots ≤ R.slots) (hdg : decode cc pc = .ok (.invokevirtual index, 3))
    (kk : ∀ (u : S) (H1 : Heap) (locs1 : List Loc), post u → va_P D vwCl (wr ++ w1 u) H1 → va_D A (wr ++ w1 u) → va_S A s.heap H1 locs1 → W p l e R s m args below meth c H1 locs1 (cells + rm.cells) (slots + rm.slots) Q (F0 m (pc + 3) ls rest)) : W p l e R s m args below meth c H locs cells slots Q (F0 m pc ls st0) :=
  ob_gPv (fun hF hPc hDc => va_runV F hM cw (ob_preV hK hE hS hF hPc hDc ci q0 hci hC hrv) rfl hn hl.1 hst (lv_room hw8) hdg hf) hP hD hS hA hp kk
/-- the same, of an object that isn't in the world (a text) -/
theorem ob_Ui {r : Int32} (F : CallFix p m c cc nL s args Ts own) (hM : ob_M l y wl rm D tys X (.ref b :: As) [] H.size (ob_Qi D r [])) (cw : CallW R s args own C index y bytes maxL ret wl rm rm.cells rm.slots n) (hK : va_K D vwCl tys s) (hE : ob_E X A s s.heap) (hP : va_P D vwCl ws H) (hD : va_D A ws) (hS : va_S A s.heap H locs) (hA : ∀ q, s.heap.size ≤ q → A q)
    (hrv : ∃ cellB : Cell, H[b]? = some cellB ∧ cellB.vm.isStatics = false ∧ s.vm.findClass C = some cellB.cls) (hl : lv_has ls nL lv) (hn : As.length = n) (hst : st0 = As.reverse ++ .ref b :: rest) (hw8 : (rest.map fun v => v.category).sum ≤ 8) (hf : cells + rm.cells ≤ R.cells ∧ slots + rm.slots ≤ R.slots) (hdg : decode cc pc = .ok (.invokevirtual index, 3))
    (kk : ∀ (H1 : Heap) (locs1 : List Loc), va_P D vwCl ws H1 → va_D A ws → va_S A s.heap H1 locs1 → W p l e R s m args below meth c H1 locs1 (cells + rm.cells) (slots + rm.slots) Q (F0 m (pc + 3) ls (.int r :: rest))) : W p l e R s m args below meth c H locs cells slots Q (F0 m pc ls st0) :=
  ob_gPi (ws := ws) (wc := []) (wr := ws) (w1 := fun _ => []) (post := fun r' (_ : Unit) => r' = r) (fun hF hPc hDc => va_runV F hM cw ⟨ob_blind, hrv, fun U hU hW => ⟨rfl, by rw [hU], by rw [hU]; exact hPc, va_K.moved hW.alike hK, hDc.weaken (fun _ _ _ _ => trivial), hE.at hS hF hW hU⟩⟩ rfl hn hl.1 hst (lv_room hw8) hdg hf) hP hD hS hA (List.Perm.refl _) (fun r' u H1 locs1 hw hP1 hD1 hS1 => by
    have hw' : r' = r := hw
    subst hw'
    rw [List.append_nil] at hP1 hD1
    exact kk H1 locs1 hP1 hD1 hS1)
/-- a constructor of a nest mate -/
theorem ob_Nv {S : Type} {host : String} {post : S → Prop} {w1 : S → va_W} (F : CallFix p m c cc nL s args Ts own) (hM : ob_M l y wl rm D tys X (.ref b :: As) wc H.size (ob_QvE D post w1)) (cw : va_CN R s args own index y host bytes maxL none wl rm rm.cells rm.slots n) (hy : y.name = "<init>") (hin : (Cond.instanceMethod y).before args s = true) (hK : va_K D vwCl tys s) (hE : ob_E X A s s.heap) (hP : va_P D vwCl ws H) (hD : va_D A ws) (hS : va_S A s.heap H locs) (hA : ∀ q, s.heap.size ≤ q → A q) (hp : ws.Perm (wc ++ wr))
    (hl : lv_has ls nL lv) (hn : As.length = n) (hst : st0 = As.reverse ++ .ref b :: rest) (hw8 : (rest.map fun v => v.category).sum ≤ 8) (hf : cells + rm.cells ≤ R.cells ∧ slots + rm.slots ≤ R.slots) (hdg : decode cc pc = .ok (.invokespecial index, 3))
    (kk : ∀ (u : S) (H1 : Heap) (locs1 : List Loc), post u → va_P D vwCl (wr ++ w1 u) H1 → va_D A (wr ++ w1 u) → va_S A s.heap H1 locs1 → W p l e R s m args below meth c H1 locs1 (cells + rm.cells) (slots + rm.slots) Q (F0 m (pc + 3) ls rest)) : W p l e R s m args below meth c H locs cells slots Q (F0 m pc ls st0) :=
  ob_gPv (fun hF hPc hDc => va_runIN F hM ⟨cw, hy, hin⟩ (ob_preS hK hE hS hF hPc hDc) rfl hn hl.1 hst (lv_room hw8) hdg hf) hP hD hS hA hp kk
theorem ob_vretE {S : Type} {post : S → Prop} {w' : S → va_W} (u : S) (hx : p.tables.exec = Jvm.exec) (hb : c.code = cc) (hr : meth.sig.returnType = none) (hlocks : meth.locks = false) (hpost : post u) (hP : va_P D vwCl (w' u) H) (hD : va_D A (w' u)) (hS : va_S A s.heap H locs) (hdg : decode cc pc = .ok (.return_, 1)) :
    W p l e R s m args below meth c H locs cells slots (MQ below (ob_QvE D post w' A) args s cells slots A) (F0 m pc ls []) :=
  W.vret hx hb hr (fun t ht hW => ⟨⟨u, rfl, hpost, by rw [ht]; exact hP, hD⟩, hS.F ht⟩) hS.2.2 hdg
theorem ob_iretE {S : Type} {post : Int32 → S → Prop} {w' : S → va_W} {r : Int32} (u : S) (hx : p.tables.exec = Jvm.exec) (hb : c.code = cc) (hr : meth.sig.returnType = some .int) (hlocks : meth.locks = false) (hpost : post r u) (hP : va_P D vwCl (w' u) H) (hD : va_D A (w' u)) (hS : va_S A s.heap H locs) (hdg : decode cc pc = .ok (.ireturn, 1)) :
    W p l e R s m args below meth c H locs cells slots (MQ below (ob_QiE D post w' A) args s cells slots A) (F0 m pc ls [.int r]) :=
  W.iret (v := r) hx hb hr (fun t ht hW => ⟨⟨r, u, rfl, hpost, by rw [ht]; exact hP, hD⟩, hS.F ht⟩) hS.2.2 hdg
/-- the one class of int arrays -/
theorem ob_sI {cI cZ cR cW cA : ClassId} (h : va_K D vwCl (ob_ty cI cZ cR cW ++ [(cA, .int)]) s) : cA = cI := by
  have h1 := (h.2 0 (cI, .int) rfl).2
  have h2 := (h.2 4 (cA, .int) rfl).2
  exact Option.some.inj (h2.symm.trans h1)
theorem ob_sZ {cI cZ cR cW cA : ClassId} (h : va_K D vwCl (ob_ty cI cZ cR cW ++ [(cA, .boolean)]) s) : cA = cZ := by
  have h1 := (h.2 1 (cZ, .boolean) rfl).2
  have h2 := (h.2 4 (cA, .boolean) rfl).2
  exact Option.some.inj (h2.symm.trans h1)
theorem ob_sR {cI cZ cR cW cA : ClassId} (h : va_K D vwCl (ob_ty cI cZ cR cW ++ [(cA, .object "OathCoach$Route")]) s) : cA = cR := by
  obtain ⟨_, _, _, _, _, h1⟩ := (h.2 2 (cR, .object "OathCoach$Route") rfl).2
  obtain ⟨_, _, _, _, _, h2⟩ := (h.2 4 (cA, .object "OathCoach$Route") rfl).2
  exact Option.some.inj (h2.symm.trans h1)
theorem ob_sW {cI cZ cR cW cA : ClassId} (h : va_K D vwCl (ob_ty cI cZ cR cW ++ [(cA, .object "OathCoach$Row")]) s) : cA = cW := by
  obtain ⟨_, _, _, _, _, h1⟩ := (h.2 3 (cW, .object "OathCoach$Row") rfl).2
  obtain ⟨_, _, _, _, _, h2⟩ := (h.2 4 (cA, .object "OathCoach$Row") rfl).2
  exact Option.some.inj (h2.symm.trans h1)
end OBP
def ob_z : ob_B := (fun _ => 0, fun _ _ => 0)
