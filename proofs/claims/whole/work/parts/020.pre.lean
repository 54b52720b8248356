abbrev vwCl : List vw_C := [(RX0, TX0, 3), (RX1, TX1, 12), (RX2, TX2, 4), (RX3, TX3, 4), (RX4, TX4, 10), (RX5, TX5, 23)]
/-! blocks: the int fields of an object by slot, its int arrays by the slot of the field that holds them -/
abbrev ob_B : Type := (Nat → Int32) × (Nat → Nat → Int32)
def ob_I (b : ob_B) (k : Nat) (v : Int32) : ob_B := (upd b.1 k v, b.2)
def ob_U (f : Nat → Nat → Int32) (k : Nat) (g : Nat → Int32) : Nat → Nat → Int32 := fun j => if j = k then g else f j
def ob_A (b : ob_B) (k : Nat) (g : Nat → Int32) : ob_B := (b.1, ob_U b.2 k g)
/-! the words that pure functions are printed with -/
def ob_lt {α β : Type} (x : α) (f : α → β) : β := f x
theorem ob_lx {α β : Type} {x e : α} {f : α → β} {r : β} (hx : x = e) (h : ob_lt e f = r) : f x = r := by subst hx; exact h
def ob_b1 {α γ : Type} (o : Option α) (f : α → Option γ) : Option γ := match o with
  | none => none
  | some x => f x
def ob_b2 {α β γ : Type} (o : Option (α × β)) (f : α → β → Option γ) : Option γ := match o with
  | none => none
  | some x => f x.1 x.2
def ob_b3 {α β δ γ : Type} (o : Option (α × β × δ)) (f : α → β → δ → Option γ) : Option γ := match o with
  | none => none
  | some x => f x.1 x.2.1 x.2.2
theorem ob_s1 {α γ : Type} {o : Option α} {f : α → Option γ} {r : γ} (h : ob_b1 o f = some r) : ∃ a, o = some a ∧ f a = some r := by
  cases o with
  | none => cases h
  | some x => exact ⟨x, rfl, h⟩
theorem ob_s2 {α β γ : Type} {o : Option (α × β)} {f : α → β → Option γ} {r : γ} (h : ob_b2 o f = some r) : ∃ a b, o = some (a, b) ∧ f a b = some r := by
  cases o with
  | none => cases h
  | some x => exact ⟨x.1, x.2, rfl, h⟩
theorem ob_s3 {α β δ γ : Type} {o : Option (α × β × δ)} {f : α → β → δ → Option γ} {r : γ} (h : ob_b3 o f = some r) : ∃ a b d, o = some (a, b, d) ∧ f a b d = some r := by
  cases o with
  | none => cases h
  | some x => exact ⟨x.1, x.2.1, x.2.2, rfl, h⟩
theorem ob_nn {c : Prop} [Decidable c] {γ : Type} {x : Option γ} {r : γ} (h : (if c then none else x) = some r) : ¬ c ∧ x = some r := by
  by_cases hc : c
  · rw [if_pos hc] at h; cases h
  · rw [if_neg hc] at h; exact ⟨hc, h⟩
theorem ob_t {c : Prop} [Decidable c] {γ : Type} {x y : Option γ} {r : γ} (hc : c) (h : (if c then x else y) = some r) : x = some r := by rw [if_pos hc] at h; exact h
theorem ob_f {c : Prop} [Decidable c] {γ : Type} {x y : Option γ} {r : γ} (hc : ¬ c) (h : (if c then x else y) = some r) : y = some r := by rw [if_neg hc] at h; exact h
theorem ob_pp {α β : Type} {a c : α} {b d : β} (h : some (a, b) = some (c, d)) : a = c ∧ b = d := Prod.mk.inj (Option.some.inj h)
theorem ob_pq {α β γ : Type} {a c : α} {b d : β} {x y : γ} (h : some (a, b, x) = some (c, d, y)) : a = c ∧ b = d ∧ x = y := ⟨(Prod.mk.inj (Option.some.inj h)).1, Prod.mk.inj (Prod.mk.inj (Option.some.inj h)).2⟩
theorem ob_nb {r : Int32} (h : ¬ ¬ (r &&& 1 = r)) : narrow .boolean (.int r) = .int r := by
  show Value.int (r &&& 1) = Value.int r
  rw [Decidable.of_not_not h]
/-! contracts over worlds -/
abbrev ob_ty (cI cZ cR cW : ClassId) : List (ClassId × FieldType) := [(cI, .int), (cZ, .boolean), (cR, .object "OathCoach$Route"), (cW, .object "OathCoach$Row")]
/-- the constants: three tables of ints, a text (all at addresses that nobody writes) -/
def ob_E (X : Nat → Nat) (A : Nat → Prop) (U : State) (H : Heap) : Prop :=
  va_Z "OathCoach" "KIND_ABOVE" "[I" (.ref (X 0)) A U H ∧ va_T .int (X 0) 6 (fun j => .int (([0, 0, 1, 1, 0, 4] : List Int32).getD j 0)) A U H ∧ va_Z "OathCoach" "SIZE_BODY" "[I" (.ref (X 1)) A U H ∧ va_T .int (X 1) 6 (fun j => .int (([10, 11, 12, 0, 13, 14] : List Int32).getD j 0)) A U H ∧
  va_Z "OathCoach" "MARK_BODY" "[I" (.ref (X 2)) A U H ∧ va_T .int (X 2) 6 (fun j => .int (([20, 21, 24, 22, 23, 0] : List Int32).getD j 0)) A U H ∧ vk_R "OathCoach$Tape" 58 "omlfv" (X 3) U ∧ vk_S 1 [5] [[111, 109, 108, 102, 118]] (fun _ => X 3) (fun _ => X 4) A U H ∧ va_Z "java/lang/String" "COMPACT_STRINGS" "Z" (.int 1) A U H ∧
  va_Nw (.methodLinkNest "OathCoach" 17 ⟨"OathCoach$Tape", "<init>", "()V"⟩ "OathCoach") U ∧ va_Nw (.methodLinkNest "OathCoach" 24 ⟨"OathCoach$Route", "<init>", "()V"⟩ "OathCoach") U ∧ va_Nw (.methodLinkNest "OathCoach" 34 ⟨"OathCoach$History", "<init>", "()V"⟩ "OathCoach") U ∧ va_Nw (.methodLinkNest "OathCoach" 57 ⟨"OathCoach$Row", "<init>", "()V"⟩ "OathCoach") U ∧ va_Nw (.methodLinkNest "OathCoach$History" 24 ⟨"OathCoach$Route", "<init>", "()V"⟩ "OathCoach") U ∧ va_AO "OathCoach$Route" U ∧ va_AO "OathCoach$Row" U
theorem ob_E.at {X : Nat → Nat} {A B : Nat → Prop} {s U : State} {H : Heap} {locs : List Loc} (h : ob_E X A s s.heap) (hS : va_S A s.heap H locs) (hAB : ∀ q, B q → A q) (hW : s.WarmedH U.vm) (hU : U.heap = H) : ob_E X B U U.heap := by
  obtain ⟨h1, h2, h3, h4, h5, h6, h7, h8, h9, n1, n2, n3, n4, n5, o1, o2⟩ := h
  rw [hU]
  exact ⟨((h1.kept hS.2.1).narrow hAB).moved hW.alike, ((h2.kept hS.2.1).narrow hAB).moved hW.alike, ((h3.kept hS.2.1).narrow hAB).moved hW.alike, ((h4.kept hS.2.1).narrow hAB).moved hW.alike, ((h5.kept hS.2.1).narrow hAB).moved hW.alike, ((h6.kept hS.2.1).narrow hAB).moved hW.alike, h7.warm hW, ((h8.kept hS.2.1).narrow hAB).moved hW.alike, ((h9.kept hS.2.1).narrow hAB).moved hW.alike, n1.warmM hW, n2.warmM hW, n3.warmM hW, n4.warmM hW, n5.warmM hW, o1.moved hW.alike, o2.moved hW.alike⟩
theorem ob_E.same {X : Nat → Nat} {A : Nat → Prop} {s U : State} (hv : U.vm = s.vm) (hH : U.heap = s.heap) (h : ob_E X A s s.heap) : ob_E X A U U.heap := by
  obtain ⟨h1, h2, h3, h4, h5, h6, h7, h8, h9, n1, n2, n3, n4, n5, o1, o2⟩ := h
  have hw : s.vm.Alike U.vm := by rw [hv]; exact Vm.Alike.refl _
  rw [hH]
  exact ⟨h1.moved hw, h2.moved hw, h3.moved hw, h4.moved hw, h5.moved hw, h6.moved hw, h7.same hv, h8.moved hw, h9.moved hw, n1.same rfl hv.symm, n2.same rfl hv.symm, n3.same rfl hv.symm, n4.same rfl hv.symm, n5.same rfl hv.symm, o1.moved hw, o2.moved hw⟩
def ob_pre (D : va_G) (tys : List (ClassId × FieldType)) (X : Nat → Nat) (ws : va_W) (sz : Nat) (U : State) : Prop := U.heap.size = sz ∧ va_P D vwCl ws U.heap ∧ va_K D vwCl tys U ∧ va_D (fun _ => True) ws ∧ ob_E X (va_A ws sz) U U.heap
def ob_po (D : va_G) (A : Nat → Prop) (w' : va_W) (t : State) : Prop := va_P D vwCl w' t.heap ∧ va_D A w'
abbrev ob_QT : Type := (Nat → Prop) → Array Value → State → Outcome → State → Prop
def ob_M (l : Launch) (y : MethodName) (wl : List Cond) (rm : Room) (D : va_G) (tys : List (ClassId × FieldType)) (X : Nat → Nat) (av : List Value) (ws : va_W) (sz : Nat) (Qf : ob_QT) : Prop :=
  Met l y wl rm (va_Pc av (ob_pre D tys X ws sz)) (Qf (va_A ws sz)) rm.cells rm.slots (va_A ws sz)
def ob_Qi (D : va_G) (r : Int32) (w' : va_W) : ob_QT := fun A => va_Qi (fun (r' : Int32) (_ : Unit) => r' = r) (fun _ => ob_po D A w') A
def ob_Ql (D : va_G) (r : Int64) (w' : va_W) : ob_QT := fun A => va_Ql (fun (r' : Int64) (_ : Unit) => r' = r) (fun _ => ob_po D A w') A
def ob_Qv (D : va_G) (w' : va_W) : ob_QT := fun A => va_Qv (fun (_ : Unit) => True) (fun _ => ob_po D A w') A
/-- the entry of a method -/
theorem ob_in {l : Launch} {y : MethodName} {wl wl' : List Cond} {rm : Room} {D : va_G} {tys : List (ClassId × FieldType)} {X : Nat → Nat} {av : List Value} {ws : va_W} {sz : Nat} {Qf : ob_QT} {cc : ByteArray} {maxL : Nat} {ret : Option FieldType} {own : String}
    (hy : plainName y.cls = true) (hw : wl = Cond.code y cc maxL ret :: wl') (ho : y.cls = own) (lv0 : List (Nat × Value)) (hlv : lv_args 0 av = lv0) (hlen : (lg_sl av).length ≤ maxL)
    (body : ∀ (p : Program) (e : Env) (s : State) (m : MethodId) (below : List Frame) (meth : Method) (c : Code), p.tables.exec = Jvm.exec → c.code = cc → meth.sig.returnType = ret → c.maxLocals = maxL → s.vm.findClass own = some m.cls → (∀ w ∈ wl, w.before av.toArray s = true) → meth.locks = false → meth.name = y.name → va_K D vwCl tys s →
      ∀ A : Nat → Prop, (∀ q, s.heap.size ≤ q → A q) → ob_E X A s s.heap → va_P D vwCl ws s.heap → va_D A ws → va_S A s.heap s.heap [] → ∀ ls : Array Slot, lv_has ls maxL lv0 →
      W p l e rm s m av.toArray below meth c s.heap [] 0 0 (MQ below (Qf A) av.toArray s rm.cells rm.slots A) (F0 m 0 ls [])) : ob_M l y wl rm D tys X av ws sz Qf := by
  refine Met.ofW (cc := cc) (maxL := maxL) (ret := ret) hy hw ?_
  intro p e s m args below meth c s₁ B hml hv
  obtain ⟨rfl, rfl, hP, hK, hD0, hE⟩ := hv
  have hl := lv_entry av (n := maxL) hlen
  rw [lg_entry_eq]
  rw [hlv] at hl
  exact body p e s m below meth c B.exec B.bytes B.returns hml (ho ▸ findClass_of_methodNamed B.named) (atoms_spec (ws := wl) B.pre) B.notSynchronized (name_of_methodNamed B.named B.method).1 hK _ (fun q h => Or.inr h) hE hP hD0.self va_S.rf _ hl
section OB
variable {p : Program} {l : Launch} {e : Env} {R : Room} {s : State} {m : MethodId} {args : Array Value} {below : List Frame} {meth : Method} {c : Code} {H : Heap} {locs : List Loc} {cells slots : Nat} {Q : State → Prop}
variable {cc : ByteArray} {pc : Nat} {ls : Array Slot} {rest : List Value} {A : Nat → Prop} {D : va_G} {w : va_W}
theorem ob_iret {r : Int32} (hx : p.tables.exec = Jvm.exec) (hb : c.code = cc) (hr : meth.sig.returnType = some .int) (hlocks : meth.locks = false) (hP : va_P D vwCl w H) (hD : va_D A w) (hS : va_S A s.heap H locs) (hdg : decode cc pc = .ok (.ireturn, 1)) :
    W p l e R s m args below meth c H locs cells slots (MQ below (ob_Qi D r w A) args s cells slots A) (F0 m pc ls [.int r]) :=
  W.iret (v := r) hx hb hr (fun t ht hW => ⟨⟨r, (), rfl, rfl, by rw [ht]; exact hP, hD⟩, hS.F ht⟩) hS.2.2 hdg
theorem ob_zret {r : Int32} {ty : FieldType} (hx : p.tables.exec = Jvm.exec) (hb : c.code = cc) (hr : meth.sig.returnType = some ty) (hlocks : meth.locks = false) (hn : narrow ty (.int r) = .int r) (hP : va_P D vwCl w H) (hD : va_D A w) (hS : va_S A s.heap H locs) (hdg : decode cc pc = .ok (.ireturn, 1)) :
    W p l e R s m args below meth c H locs cells slots (MQ below (ob_Qi D r w A) args s cells slots A) (F0 m pc ls [.int r]) :=
  W.zret (v := r) hx hb hr hn (fun t ht hW => ⟨⟨r, (), rfl, rfl, by rw [ht]; exact hP, hD⟩, hS.F ht⟩) hS.2.2 hdg
theorem ob_lret {r : Int64} (hx : p.tables.exec = Jvm.exec) (hb : c.code = cc) (hr : meth.sig.returnType = some .long) (hlocks : meth.locks = false) (hP : va_P D vwCl w H) (hD : va_D A w) (hS : va_S A s.heap H locs) (hdg : decode cc pc = .ok (.lreturn, 1)) :
    W p l e R s m args below meth c H locs cells slots (MQ below (ob_Ql D r w A) args s cells slots A) (F0 m pc ls [.long r]) :=
  W.lret (v := r) hx hb hr (fun t ht hW => ⟨⟨r, (), rfl, rfl, by rw [ht]; exact hP, hD⟩, hS.F ht⟩) hS.2.2 hdg
theorem ob_vret (hx : p.tables.exec = Jvm.exec) (hb : c.code = cc) (hr : meth.sig.returnType = none) (hlocks : meth.locks = false) (hP : va_P D vwCl w H) (hD : va_D A w) (hS : va_S A s.heap H locs) (hdg : decode cc pc = .ok (.return_, 1)) :
    W p l e R s m args below meth c H locs cells slots (MQ below (ob_Qv D w A) args s cells slots A) (F0 m pc ls []) :=
  W.vret hx hb hr (fun t ht hW => ⟨⟨(), rfl, trivial, by rw [ht]; exact hP, hD⟩, hS.F ht⟩) hS.2.2 hdg
/-- a callee's world is cut out, its new one joined to the rest, all laid in the order w2 -/
theorem ob_blind {tys : List (ClassId × FieldType)} {X : Nat → Nat} {av : List Value} {ws : va_W} {sz : Nat} : FrameBlind (va_Pc av (ob_pre D tys X ws sz)) := by
  intro a U g mk q
  obtain ⟨q0, q1, qP, qK, qD, qE⟩ := q
  exact ⟨q0, q1, qP, va_K.moved (u := U) (U := U.calling g mk a) (Vm.Alike.refl U.vm) qK, qD, ob_E.same (s := U) (U := U.calling g mk a) rfl rfl qE⟩
theorem ob_sub {ws wc : va_W} {isC : List Nat} (hP : va_P D vwCl ws H) (hC : isC.map (fun i => ws[i]?) = wc.map some) : va_P D vwCl wc H := by
  intro k q hk
  have h1 : (isC.map (fun i => ws[i]?))[k]? = some (some q) := by rw [hC, List.getElem?_map, hk]; rfl
  rw [List.getElem?_map] at h1
  cases h2 : isC[k]? with
  | none => rw [h2] at h1; cases h1
  | some i => rw [h2] at h1; exact hP i q (Option.some.inj h1)
theorem ob_join {ws wc wr w1 w2 : va_W} {H1 : Heap} {isC isR is2 : List Nat} (hP : va_P D vwCl ws H) (hD : va_D A ws) (hC : isC.map (fun i => ws[i]?) = wc.map some) (hR : isR.map (fun i => ws[i]?) = wr.map some) (hn : va_nd isR = true) (hdis : isR.all (fun i => !isC.contains i) = true)
    (h2 : is2.map (fun i => (wr ++ w1)[i]?) = w2.map some) (hn2 : va_nd is2 = true)
    (hk : ∀ q : Nat, q < H.size → ¬ va_A wc H.size q → H1[q]? = H[q]?) (hF : ∀ q, va_A wc H.size q → A q) (hP1 : va_P D vwCl w1 H1) (hD1 : va_D (va_A wc H.size) w1) : va_P D vwCl w2 H1 ∧ va_D A w2 := by
  have hd : ∀ i ∈ isR, i ∉ isC := by
    intro i hi
    have := List.all_eq_true.mp hdis i hi
    simpa using this
  obtain ⟨a, b⟩ := va_join (wr := wr) (w1 := w1) hP hD isC isR hC hR hn hd hk hF hP1 hD1
  exact ⟨ob_sub a h2, b.sub is2 hn2 h2⟩
variable {Ts wl wl' : List Cond} {bytes : ByteArray} {nL maxL index n : Nat} {own C : String} {y : MethodName} {ret : Option FieldType} {rm : Room} {tys : List (ClassId × FieldType)} {X : Nat → Nat} {b : Addr} {As : List Value} {st0 : List Value} {ws wc wr w1 w2 : va_W} {isC isR is2 : List Nat} {lv : List (Nat × Value)}
/-- what every call needs of the worlds -/
def ob_cut (isC isR is2 : List Nat) (ws wc wr w1 w2 : va_W) : Prop := isC.map (fun i => ws[i]?) = wc.map some ∧ isR.map (fun i => ws[i]?) = wr.map some ∧ va_nd isC = true ∧ va_nd isR = true ∧ isR.all (fun i => !isC.contains i) = true ∧ is2.map (fun i => (wr ++ w1)[i]?) = w2.map some ∧ va_nd is2 = true
theorem ob_preV (hK : va_K D vwCl tys s) (hE : ob_E X A s s.heap) (hS : va_S A s.heap H locs) (hF : ∀ q, va_A wc H.size q → A q) (hP : va_P D vwCl wc H) (hD : va_D A wc) (ci q0 : Nat) {qc : vw_C} {fs : List Value} (hc : vwCl[ci]? = some qc) (hC : qc.1 = C) (hrv : wc[q0]? = some (b, .inr (ci, fs))) : PreV s H C b (va_Pc (.ref b :: As) (ob_pre D tys X wc H.size)) As := by
  subst hC
  exact ⟨ob_blind, va_recv hK hP hc hrv, fun U hU hW => ⟨rfl, by rw [hU], by rw [hU]; exact hP, va_K.moved hW.alike hK, hD.weaken (fun _ _ _ _ => trivial), hE.at hS hF hW hU⟩⟩
theorem ob_preS (hK : va_K D vwCl tys s) (hE : ob_E X A s s.heap) (hS : va_S A s.heap H locs) (hF : ∀ q, va_A wc H.size q → A q) (hP : va_P D vwCl wc H) (hD : va_D A wc) : PreS s H (va_Pc As (ob_pre D tys X wc H.size)) As :=
  ⟨ob_blind, fun U hU hW => ⟨rfl, by rw [hU], by rw [hU]; exact hP, va_K.moved hW.alike hK, hD.weaken (fun _ _ _ _ => trivial), hE.at hS hF hW hU⟩⟩
theorem ob_goi {r : Int32} {a : Array Value} {g : JFrame} (hg : g = F0 m pc ls st0) (hr : (∀ q, va_A wc H.size q → A q) → va_P D vwCl wc H → va_D A wc → va_Run p l e R s m args below meth c H locs cells slots rm.cells rm.slots g rest (ob_Qi D r w1 (va_A wc H.size) a) (va_A wc H.size)) (hP : va_P D vwCl ws H) (hD : va_D A ws) (hS : va_S A s.heap H locs) (hA : ∀ q, s.heap.size ≤ q → A q) (hc : ob_cut isC isR is2 ws wc wr w1 w2)
    (kk : ∀ (H1 : Heap) (locs1 : List Loc), va_P D vwCl w2 H1 → va_D A w2 → va_S A s.heap H1 locs1 → W p l e R s m args below meth c H1 locs1 (cells + rm.cells) (slots + rm.slots) Q (F0 m (pc + 3) ls (.int r :: rest))) : W p l e R s m args below meth c H locs cells slots Q (F0 m pc ls st0) := by
  subst hg
  obtain ⟨hC, hR, hnC, hnR, hdis, h2, hn2⟩ := hc
  have hF := va_free (wc := wc) hD hS hA isC hC
  refine va_calli (hr hF (ob_sub hP hC) (hD.sub isC hnC hC)) hS (fun q _ h => hF q h) hF (fun r' u t H1 locs1 ht hvm hw hB hz1 hk1 hS1 => ?_)
  obtain ⟨hP1, hD1⟩ := hB
  rw [ht] at hP1
  have hj := ob_join hP hD hC hR hnR hdis h2 hn2 hk1 hF hP1 hD1
  have hw' : r' = r := hw
  subst hw'
  exact kk H1 locs1 hj.1 hj.2 hS1
theorem ob_gol {r : Int64} {a : Array Value} {g : JFrame} (hg : g = F0 m pc ls st0) (hr : (∀ q, va_A wc H.size q → A q) → va_P D vwCl wc H → va_D A wc → va_Run p l e R s m args below meth c H locs cells slots rm.cells rm.slots g rest (ob_Ql D r w1 (va_A wc H.size) a) (va_A wc H.size)) (hP : va_P D vwCl ws H) (hD : va_D A ws) (hS : va_S A s.heap H locs) (hA : ∀ q, s.heap.size ≤ q → A q) (hc : ob_cut isC isR is2 ws wc wr w1 w2)
    (kk : ∀ (H1 : Heap) (locs1 : List Loc), va_P D vwCl w2 H1 → va_D A w2 → va_S A s.heap H1 locs1 → W p l e R s m args below meth c H1 locs1 (cells + rm.cells) (slots + rm.slots) Q (F0 m (pc + 3) ls (.long r :: rest))) : W p l e R s m args below meth c H locs cells slots Q (F0 m pc ls st0) := by
  subst hg
  obtain ⟨hC, hR, hnC, hnR, hdis, h2, hn2⟩ := hc
  have hF := va_free (wc := wc) hD hS hA isC hC
  refine va_calll (hr hF (ob_sub hP hC) (hD.sub isC hnC hC)) hS (fun q _ h => hF q h) hF (fun r' u t H1 locs1 ht hvm hw hB hz1 hk1 hS1 => ?_)
  obtain ⟨hP1, hD1⟩ := hB
  rw [ht] at hP1
  have hj := ob_join hP hD hC hR hnR hdis h2 hn2 hk1 hF hP1 hD1
  have hw' : r' = r := hw
  subst hw'
  exact kk H1 locs1 hj.1 hj.2 hS1
theorem ob_gov {a : Array Value} {g : JFrame} (hg : g = F0 m pc ls st0) (hr : (∀ q, va_A wc H.size q → A q) → va_P D vwCl wc H → va_D A wc → va_Run p l e R s m args below meth c H locs cells slots rm.cells rm.slots g rest (ob_Qv D w1 (va_A wc H.size) a) (va_A wc H.size)) (hP : va_P D vwCl ws H) (hD : va_D A ws) (hS : va_S A s.heap H locs) (hA : ∀ q, s.heap.size ≤ q → A q) (hc : ob_cut isC isR is2 ws wc wr w1 w2)
    (kk : ∀ (H1 : Heap) (locs1 : List Loc), va_P D vwCl w2 H1 → va_D A w2 → va_S A s.heap H1 locs1 → W p l e R s m args below meth c H1 locs1 (cells + rm.cells) (slots + rm.slots) Q (F0 m (pc + 3) ls rest)) : W p l e R s m args below meth c H locs cells slots Q (F0 m pc ls st0) := by
  subst hg
  obtain ⟨hC, hR, hnC, hnR, hdis, h2, hn2⟩ := hc
  have hF := va_free (wc := wc) hD hS hA isC hC
  refine va_callv (hr hF (ob_sub hP hC) (hD.sub isC hnC hC)) hS (fun q _ h => hF q h) hF (fun u t H1 locs1 ht hvm hw hB hz1 hk1 hS1 => ?_)
  obtain ⟨hP1, hD1⟩ := hB
  rw [ht] at hP1
  have hj := ob_join hP hD hC hR hnR hdis h2 hn2 hk1 hF hP1 hD1
  exact kk H1 locs1 hj.1 hj.2 hS1
/-- a call of an instance method (int, long, void), of a static one -/
theorem ob_Vi {r : Int32} (S : CallFix p m c cc nL s args Ts own) (hM : ob_M l y wl rm D tys X (.ref b :: As) wc H.size (ob_Qi D r w1)) (cw : CallW R s args own C index y bytes maxL ret wl rm rm.cells rm.slots n) (hK : va_K D vwCl tys s) (hE : ob_E X A s s.heap) (hP : va_P D vwCl ws H) (hD : va_D A ws) (hS : va_S A s.heap H locs) (hA : ∀ q, s.heap.size ≤ q → A q) (hc : ob_cut isC isR is2 ws wc wr w1 w2)
    (ci q0 : Nat) {qc : vw_C} {fs : List Value} (hci : vwCl[ci]? = some qc) (hC : qc.1 = C) (hrv : wc[q0]? = some (b, .inr (ci, fs))) (hl : lv_has ls nL lv) (hn : As.length = n) (hst : st0 = As.reverse ++ .ref b :: rest) (hw8 : (rest.map fun v => v.category).sum ≤ 8) (hf : cells + rm.cells ≤ R.cells ∧ slots + rm.slots ≤ R.slots) (hdg : decode cc pc = .ok (.invokevirtual index, 3))
    (kk : ∀ (H1 : Heap) (locs1 : List Loc), va_P D vwCl w2 H1 → va_D A w2 → va_S A s.heap H1 locs1 → W p l e R s m args below meth c H1 locs1 (cells + rm.cells) (slots + rm.slots) Q (F0 m (pc + 3) ls (.int r :: rest))) : W p l e R s m args below meth c H locs cells slots Q (F0 m pc ls st0) :=
  ob_goi rfl (fun hF hPc hDc => va_runV S hM cw (ob_preV hK hE hS hF hPc hDc ci q0 hci hC hrv) rfl hn hl.1 hst (lv_room hw8) hdg hf) hP hD hS hA hc kk
theorem ob_Vl {r : Int64} (S : CallFix p m c cc nL s args Ts own) (hM : ob_M l y wl rm D tys X (.ref b :: As) wc H.size (ob_Ql D r w1)) (cw : CallW R s args own C index y bytes maxL ret wl rm rm.cells rm.slots n) (hK : va_K D vwCl tys s) (hE : ob_E X A s s.heap) (hP : va_P D vwCl ws H) (hD : va_D A ws) (hS : va_S A s.heap H locs) (hA : ∀ q, s.heap.size ≤ q → A q) (hc : ob_cut isC isR is2 ws wc wr w1 w2)
    (ci q0 : Nat) {qc : vw_C} {fs : List Value} (hci : vwCl[ci]? = some qc) (hC : qc.1 = C) (hrv : wc[q0]? = some (b, .inr (ci, fs))) (hl : lv_has ls nL lv) (hn : As.length = n) (hst : st0 = As.reverse ++ .ref b :: rest) (hw8 : (rest.map fun v => v.category).sum ≤ 8) (hf : cells + rm.cells ≤ R.cells ∧ slots + rm.slots ≤ R.slots) (hdg : decode cc pc = .ok (.invokevirtual index, 3))
    (kk : ∀ (H1 : Heap) (locs1 : List Loc), va_P D vwCl w2 H1 → va_D A w2 → va_S A s.heap H1 locs1 → W p l e R s m args below meth c H1 locs1 (cells + rm.cells) (slots + rm.slots) Q (F0 m (pc + 3) ls (.long r :: rest))) : W p l e R s m args below meth c H locs cells slots Q (F0 m pc ls st0) :=
  ob_gol rfl (fun hF hPc hDc => va_runV S hM cw (ob_preV hK hE hS hF hPc hDc ci q0 hci hC hrv) rfl hn hl.1 hst (lv_room hw8) hdg hf) hP hD hS hA hc kk
theorem ob_Vv (S : CallFix p m c cc nL s args Ts own) (hM : ob_M l y wl rm D tys X (.ref b :: As) wc H.size (ob_Qv D w1)) (cw : CallW R s args own C index y bytes maxL ret wl rm rm.cells rm.slots n) (hK : va_K D vwCl tys s) (hE : ob_E X A s s.heap) (hP : va_P D vwCl ws H) (hD : va_D A ws) (hS : va_S A s.heap H locs) (hA : ∀ q, s.heap.size ≤ q → A q) (hc : ob_cut isC isR is2 ws wc wr w1 w2)
    (ci q0 : Nat) {qc : vw_C} {fs : List Value} (hci : vwCl[ci]? = some qc) (hC : qc.1 = C) (hrv : wc[q0]? = some (b, .inr (ci, fs))) (hl : lv_has ls nL lv) (hn : As.length = n) (hst : st0 = As.reverse ++ .ref b :: rest) (hw8 : (rest.map fun v => v.category).sum ≤ 8) (hf : cells + rm.cells ≤ R.cells ∧ slots + rm.slots ≤ R.slots) (hdg : decode cc pc = .ok (.invokevirtual index, 3))
    (kk : ∀ (H1 : Heap) (locs1 : List Loc), va_P D vwCl w2 H1 → va_D A w2 → va_S A s.heap H1 locs1 → W p l e R s m args below meth c H1 locs1 (cells + rm.cells) (slots + rm.slots) Q (F0 m (pc + 3) ls rest)) : W p l e R s m args below meth c H locs cells slots Q (F0 m pc ls st0) :=
  ob_gov rfl (fun hF hPc hDc => va_runV S hM cw (ob_preV hK hE hS hF hPc hDc ci q0 hci hC hrv) rfl hn hl.1 hst (lv_room hw8) hdg hf) hP hD hS hA hc kk
theorem ob_Si {r : Int32} (S : CallFix p m c cc nL s args Ts own) (hM : ob_M l y wl rm D tys X As wc H.size (ob_Qi D r w1)) (cw : CallB R s args own index y bytes maxL ret wl rm rm.cells rm.slots n ∧ (Cond.static y).before args s = true) (hK : va_K D vwCl tys s) (hE : ob_E X A s s.heap) (hP : va_P D vwCl ws H) (hD : va_D A ws) (hS : va_S A s.heap H locs) (hA : ∀ q, s.heap.size ≤ q → A q) (hc : ob_cut isC isR is2 ws wc wr w1 w2)
    (hl : lv_has ls nL lv) (hn : As.length = n) (hst : st0 = As.reverse ++ rest) (hw8 : (rest.map fun v => v.category).sum ≤ 8) (hf : cells + rm.cells ≤ R.cells ∧ slots + rm.slots ≤ R.slots) (hdg : decode cc pc = .ok (.invokestatic index, 3))
    (kk : ∀ (H1 : Heap) (locs1 : List Loc), va_P D vwCl w2 H1 → va_D A w2 → va_S A s.heap H1 locs1 → W p l e R s m args below meth c H1 locs1 (cells + rm.cells) (slots + rm.slots) Q (F0 m (pc + 3) ls (.int r :: rest))) : W p l e R s m args below meth c H locs cells slots Q (F0 m pc ls st0) :=
  ob_goi rfl (fun hF hPc hDc => va_runS S hM cw (ob_preS hK hE hS hF hPc hDc) rfl hn hl.1 hst (lv_room hw8) hdg hf) hP hD hS hA hc kk
theorem ob_Sl {r : Int64} (S : CallFix p m c cc nL s args Ts own) (hM : ob_M l y wl rm D tys X As wc H.size (ob_Ql D r w1)) (cw : CallB R s args own index y bytes maxL ret wl rm rm.cells rm.slots n ∧ (Cond.static y).before args s = true) (hK : va_K D vwCl tys s) (hE : ob_E X A s s.heap) (hP : va_P D vwCl ws H) (hD : va_D A ws) (hS : va_S A s.heap H locs) (hA : ∀ q, s.heap.size ≤ q → A q) (hc : ob_cut isC isR is2 ws wc wr w1 w2)
    (hl : lv_has ls nL lv) (hn : As.length = n) (hst : st0 = As.reverse ++ rest) (hw8 : (rest.map fun v => v.category).sum ≤ 8) (hf : cells + rm.cells ≤ R.cells ∧ slots + rm.slots ≤ R.slots) (hdg : decode cc pc = .ok (.invokestatic index, 3))
    (kk : ∀ (H1 : Heap) (locs1 : List Loc), va_P D vwCl w2 H1 → va_D A w2 → va_S A s.heap H1 locs1 → W p l e R s m args below meth c H1 locs1 (cells + rm.cells) (slots + rm.slots) Q (F0 m (pc + 3) ls (.long r :: rest))) : W p l e R s m args below meth c H locs cells slots Q (F0 m pc ls st0) :=
  ob_gol rfl (fun hF hPc hDc => va_runS S hM cw (ob_preS hK hE hS hF hPc hDc) rfl hn hl.1 hst (lv_room hw8) hdg hf) hP hD hS hA hc kk
theorem ob_Sv (S : CallFix p m c cc nL s args Ts own) (hM : ob_M l y wl rm D tys X As wc H.size (ob_Qv D w1)) (cw : CallB R s args own index y bytes maxL ret wl rm rm.cells rm.slots n ∧ (Cond.static y).before args s = true) (hK : va_K D vwCl tys s) (hE : ob_E X A s s.heap) (hP : va_P D vwCl ws H) (hD : va_D A ws) (hS : va_S A s.heap H locs) (hA : ∀ q, s.heap.size ≤ q → A q) (hc : ob_cut isC isR is2 ws wc wr w1 w2)
    (hl : lv_has ls nL lv) (hn : As.length = n) (hst : st0 = As.reverse ++ rest) (hw8 : (rest.map fun v => v.category).sum ≤ 8) (hf : cells + rm.cells ≤ R.cells ∧ slots + rm.slots ≤ R.slots) (hdg : decode cc pc = .ok (.invokestatic index, 3))
    (kk : ∀ (H1 : Heap) (locs1 : List Loc), va_P D vwCl w2 H1 → va_D A w2 → va_S A s.heap H1 locs1 → W p l e R s m args below meth c H1 locs1 (cells + rm.cells) (slots + rm.slots) Q (F0 m (pc + 3) ls rest)) : W p l e R s m args below meth c H locs cells slots Q (F0 m pc ls st0) :=
  ob_gov rfl (fun hF hPc hDc => va_runS S hM cw (ob_preS hK hE hS hF hPc hDc) rfl hn hl.1 hst (lv_room hw8) hdg hf) hP hD hS hA hc kk
end OB
/-! the worlds of the blocks -/
def ob_w1 (o : Nat) (a : Nat → Nat) (cI : ClassId) (b : ob_B) : va_W := [(o, .inr (1, [.int (b.1 0), .int (b.1 1), .int (b.1 2), .int (b.1 3), .int (b.1 4), .int (b.1 5), .int (b.1 6), .ref (a 7), .ref (a 8), .ref (a 9), .ref (a 10), .ref (a 11)])), (a 7, .inl (cI, 7, .inl (b.2 7))), (a 8, .inl (cI, 7, .inl (b.2 8))), (a 9, .inl (cI, 7, .inl (b.2 9))), (a 10, .inl (cI, 7, .inl (b.2 10))), (a 11, .inl (cI, 7, .inl (b.2 11)))]
def ob_w2 (o : Nat) (a : Nat → Nat) (cI : ClassId) (b : ob_B) : va_W := [(o, .inr (2, [.int (b.1 0), .int (b.1 1), .int (b.1 2), .ref (a 3)])), (a 3, .inl (cI, 40, .inl (b.2 3)))]
def ob_w3 (o : Nat) (a : Nat → Nat) (cI : ClassId) (b : ob_B) : va_W := [(o, .inr (3, [.ref (a 0), .int (b.1 1), .int (b.1 2), .int (b.1 3)])), (a 0, .inl (cI, 100, .inl (b.2 0)))]
def ob_w4 (o : Nat) (a : Nat → Nat) (cI : ClassId) (b : ob_B) : va_W := [(o, .inr (4, [.ref (a 0), .ref (a 1), .ref (a 2), .ref (a 3), .ref (a 4), .ref (a 5), .ref (a 6), .int (b.1 7), .int (b.1 8), .int (b.1 9)])), (a 6, .inl (cI, 16, .inl (b.2 6)))]
def ob_w5 (o : Nat) (a : Nat → Nat) (cI cZ : ClassId) (b : ob_B) : va_W := [(o, .inr (5, [.ref (a 0), .ref (a 1), .ref (a 2), .int (b.1 3), .int (b.1 4), .ref (a 5), .int (b.1 6), .int (b.1 7), .int (b.1 8), .int (b.1 9), .int (b.1 10), .int (b.1 11), .ref (a 12), .ref (a 13), .ref (a 14), .ref (a 15), .ref (a 16), .ref (a 17), .int (b.1 18), .ref (a 19), .int (b.1 20), .ref (a 21), .ref (a 22)])),
  (a 0, .inl (cI, 8, .inl (b.2 0))), (a 1, .inl (cI, 8, .inl (b.2 1))), (a 2, .inl (cI, 320, .inl (b.2 2))), (a 5, .inl (cI, 100, .inl (b.2 5))), (a 12, .inl (cI, 42, .inl (b.2 12))), (a 13, .inl (cI, 42, .inl (b.2 13))), (a 14, .inl (cI, 42, .inl (b.2 14))), (a 15, .inl (cI, 84, .inl (b.2 15))), (a 16, .inl (cZ, 2, .inl (b.2 16))), (a 17, .inl (cI, 1008, .inl (b.2 17))), (a 19, .inl (cI, 16, .inl (b.2 19))), (a 21, .inl (cI, 12, .inl (b.2 21))), (a 22, .inl (cI, 71, .inl (b.2 22)))]
def ob_wa (o : Nat) (cI : ClassId) (n : Nat) (f : Nat → Int32) : va_W := [(o, .inl (cI, n, .inl f))]
/-- an array of references -/
def ob_wr (o : Nat) (cA : ClassId) (n : Nat) (g : Nat → Option Nat) : va_W := [(o, .inl (cA, n, .inr (.inr (.inr (.inr g)))))]
def ob_w0 (o : Nat) (a : Nat → Nat) (b : ob_B) : va_W := [(o, .inr (0, [.ref (a 0), .int (b.1 1), .int (b.1 2)]))]
theorem ob_rf {p : Program} {l : Launch} {e : Env} {R : Room} {s : State} {m : MethodId} {args : Array Value} {below : List Frame} {meth : Method} {c : Code} {H : Heap} {locs : List Loc} {cells slots : Nat} {Q : State → Prop} {pc : Nat} {ls : Array Slot} {rest : List Value} {x : Option Nat} {o : Nat} (h : x = some o)
    (k : W p l e R s m args below meth c H locs cells slots Q (F0 m pc ls (.ref o :: rest))) : W p l e R s m args below meth c H locs cells slots Q (F0 m pc ls (va_rf x :: rest)) := by rw [h]; exact k
theorem ob_rn {p : Program} {l : Launch} {e : Env} {R : Room} {s : State} {m : MethodId} {args : Array Value} {below : List Frame} {meth : Method} {c : Code} {H : Heap} {locs : List Loc} {cells slots : Nat} {Q : State → Prop} {pc : Nat} {ls : Array Slot} {rest : List Value} {x : Option Nat} (h : x = none)
    (k : W p l e R s m args below meth c H locs cells slots Q (F0 m pc ls (.null :: rest))) : W p l e R s m args below meth c H locs cells slots Q (F0 m pc ls (va_rf x :: rest)) := by rw [h]; exact k
