/-! the law's own steps -/
def lw_K (p : Program) (s : State) (m : MethodId) (c : Code) (b L : Nat) (xs : Nat → Int32) (D : va_G) (cI cZ cR cW : ClassId) (X : Nat → Nat) : Prop :=
  p.tables.exec = Jvm.exec ∧ c.code = cL_law ∧ c.maxLocals = 4 ∧ s.vm.findClass RL = some m.cls ∧ (∀ w ∈ wsL_law, w.before #[Value.ref b] s = true) ∧ va_X b L xs s s.heap ∧ b < s.heap.size ∧ va_K D vwCl (ob_ty cI cZ cR cW) s ∧ ob_E X (fun q : Nat => s.heap.size ≤ q) s s.heap
section LW
variable {p : Program} {l : Launch} {e : Env} {s : State} {m : MethodId} {below : List Frame} {meth : Method} {c : Code} {H : Heap} {locs : List Loc} {cells slots : Nat} {Q : State → Prop} {pc : Nat} {ls : Array Slot} {rest : List Value} {b L : Nat} {xs : Nat → Int32} {D : va_G} {cI cZ cR cW : ClassId} {X : Nat → Nat} {o om : Nat} {am : Nat → Nat} {u : ob_AX} {S : ob_SX} {mm : ob_B} {i : Nat}
/-- an int of the script -/
theorem lw_arg {k : Nat} {n : Int} (C : lw_K p s m c b L xs D cI cZ cR cW X) (hS : va_S (fun q : Nat => s.heap.size ≤ q) s.heap H locs) (hl : lv_has ls 4 [(0, .ref b), (1, .ref o), (2, .ref om), (3, .int (nI i))]) (hi : i + 6 ≤ L) (hL : L ≤ 384) (hk : k < 6) (hn : Int32.ofInt n = nI k)
    (d0 : decode cL_law pc = .ok (.aload_n 0, 1)) (d1 : decode cL_law (pc + 1) = .ok (.iload_n 3, 1)) (d2 : decode cL_law (pc + 2) = .ok (.iconst n, 1)) (d3 : decode cL_law (pc + 3) = .ok (.iadd, 1)) (d4 : decode cL_law (pc + 4) = .ok (.iaload, 1))
    (kk : W p l e room_1 s m #[Value.ref b] below meth c H locs cells slots Q (F0 m (pc + 5) ls (.int (xs (i + k)) :: rest))) : W p l e room_1 s m #[Value.ref b] below meth c H locs cells slots Q (F0 m pc ls rest) := by
  obtain ⟨hx, hb, hml, hown, hts, hX, hbl, hK, hE⟩ := C
  have hbA : ¬ (fun q : Nat => s.heap.size ≤ q) b := Nat.not_le.mpr hbl
  refine lv_aload_n hx hb d0 rfl (lv_at hl 0 rfl) ?_
  refine lv_iload_n hx hb d1 rfl (lv_at hl 3 rfl) ?_
  refine lv_iconst (v := nI k) hx hb d2 hn ?_
  refine lv_iadd hx hb d3 ?_
  rw [nI_add]
  refine va_sld hx hb hX hbl hbA hS (vp_in_nI (show i + k < L by omega) (by omega)) d4 ?_
  rw [pu_cl (by omega)]
  exact kk
theorem lw_ps {α : Type} (a c : List α) : (a ++ c).Perm (c ++ a) := List.perm_append_comm
/-- a call on the OathCoach -/
theorem lw_x {r : Int32} {S' : ob_SX} {y : MethodName} {wl : List Cond} {As : List Value} {index n maxL : Nat} {bytes : ByteArray} {ret : Option FieldType} (C : lw_K p s m c b L xs D cI cZ cR cW X) (hM : ob_mx l y wl D (ob_ty cI cZ cR cW) X (.ref o :: As) (ob_wx o cI cR cW u S) (fun r' (_ : ob_AX) => r' = r) (fun u' => ob_wx o cI cR cW u' S'))
    (cw : ∀ rm : Room, rm.frames ≤ 16 → rm.locals ≤ 400 → CallW room_1 s #[Value.ref b] RL RX4 index y bytes maxL ret wl rm rm.cells rm.slots n)
    (hP : va_P D vwCl (ob_wx o cI cR cW u S ++ ob_w5 om am cI cZ mm) H) (hD : va_D (fun q : Nat => s.heap.size ≤ q) (ob_wx o cI cR cW u S ++ ob_w5 om am cI cZ mm)) (hS : va_S (fun q : Nat => s.heap.size ≤ q) s.heap H locs) (hl : lv_has ls 4 [(0, .ref b), (1, .ref o), (2, .ref om), (3, .int (nI i))]) (hn : As.length = n) (hcs : cells + 150 ≤ 600000 ∧ slots + 1175 ≤ 7302250) {st : List Value} (hst : st = As.reverse ++ [.ref o]) (hdg : decode cL_law pc = .ok (.invokevirtual index, 3))
    (kk : ∀ (u' : ob_AX) (H1 : Heap) (locs1 : List Loc), va_P D vwCl (ob_wx o cI cR cW u' S' ++ ob_w5 om am cI cZ mm) H1 → va_D (fun q : Nat => s.heap.size ≤ q) (ob_wx o cI cR cW u' S' ++ ob_w5 om am cI cZ mm) → va_S (fun q : Nat => s.heap.size ≤ q) s.heap H1 locs1 → W p l e room_1 s m #[Value.ref b] below meth c H1 locs1 (cells + 150) (slots + 1175) Q (F0 m (pc + 3) ls [.int r])) : W p l e room_1 s m #[Value.ref b] below meth c H locs cells slots Q (F0 m pc ls st) := by
  obtain ⟨hx, hb, hml, hown, hts, hX, hbl, hK, hE⟩ := C
  obtain ⟨rm, h1, h2, h3, h4, hM⟩ := hM
  refine ob_PVi (rest := []) (wr := ob_w5 om am cI cZ mm) ⟨hx, hb, hml, hown, hts⟩ (hM H.size) (cw rm h1 h2) hK hE hP hD hS (fun _ h => h) (List.Perm.refl _) 4 0 rfl rfl rfl hl hn hst (Nat.zero_le _) ⟨show cells + rm.cells ≤ 600000 by omega, show slots + rm.slots ≤ 7302250 by omega⟩ hdg (fun r' u' H1 locs1 e1 hP1 hD1 hS1 => ?_)
  have e2 : r' = r := e1
  subst e2
  exact W.widen (by omega) (by omega) (kk u' H1 locs1 (ob_Pp hP1 (lw_ps _ _)) (ob_Dp hD1 (lw_ps _ _)) hS1)
/-- a call on the reference -/
theorem lw_m {r : Int32} {m' : ob_B} {y : MethodName} {wl : List Cond} {As : List Value} {index n maxL : Nat} {bytes : ByteArray} {ret : Option FieldType} (C : lw_K p s m c b L xs D cI cZ cR cW X) (hM : ob_mx l y wl D (ob_ty cI cZ cR cW) X (.ref om :: As) (ob_w5 om am cI cZ mm) (fun r' (_ : Unit) => r' = r) (fun _ => ob_w5 om am cI cZ m'))
    (cw : ∀ rm : Room, rm.frames ≤ 16 → rm.locals ≤ 400 → CallW room_1 s #[Value.ref b] RL RX5 index y bytes maxL ret wl rm rm.cells rm.slots n)
    (hP : va_P D vwCl (ob_wx o cI cR cW u S ++ ob_w5 om am cI cZ mm) H) (hD : va_D (fun q : Nat => s.heap.size ≤ q) (ob_wx o cI cR cW u S ++ ob_w5 om am cI cZ mm)) (hS : va_S (fun q : Nat => s.heap.size ≤ q) s.heap H locs) (hl : lv_has ls 4 [(0, .ref b), (1, .ref o), (2, .ref om), (3, .int (nI i))]) (hn : As.length = n) (hcs : cells + 150 ≤ 600000 ∧ slots + 1175 ≤ 7302250) {st : List Value} (hw8 : (rest.map fun v => v.category).sum ≤ 8) (hst : st = As.reverse ++ .ref om :: rest) (hdg : decode cL_law pc = .ok (.invokevirtual index, 3))
    (kk : ∀ (H1 : Heap) (locs1 : List Loc), va_P D vwCl (ob_wx o cI cR cW u S ++ ob_w5 om am cI cZ m') H1 → va_D (fun q : Nat => s.heap.size ≤ q) (ob_wx o cI cR cW u S ++ ob_w5 om am cI cZ m') → va_S (fun q : Nat => s.heap.size ≤ q) s.heap H1 locs1 → W p l e room_1 s m #[Value.ref b] below meth c H1 locs1 (cells + 150) (slots + 1175) Q (F0 m (pc + 3) ls (.int r :: rest))) : W p l e room_1 s m #[Value.ref b] below meth c H locs cells slots Q (F0 m pc ls st) := by
  obtain ⟨hx, hb, hml, hown, hts, hX, hbl, hK, hE⟩ := C
  obtain ⟨rm, h1, h2, h3, h4, hM⟩ := hM
  refine ob_PVi (rest := rest) (wr := ob_wx o cI cR cW u S) ⟨hx, hb, hml, hown, hts⟩ (hM H.size) (cw rm h1 h2) hK hE hP hD hS (fun _ h => h) (lw_ps _ _) 5 0 rfl rfl rfl hl hn hst hw8 ⟨show cells + rm.cells ≤ 600000 by omega, show slots + rm.slots ≤ 7302250 by omega⟩ hdg (fun r' u' H1 locs1 e1 hP1 hD1 hS1 => ?_)
  have e2 : r' = r := e1
  subst e2
  exact W.widen (by omega) (by omega) (kk H1 locs1 hP1 hD1 hS1)
theorem lw_xl {r : Int64} {S' : ob_SX} {y : MethodName} {wl : List Cond} {As : List Value} {index n maxL : Nat} {bytes : ByteArray} {ret : Option FieldType} (C : lw_K p s m c b L xs D cI cZ cR cW X) (hM : ob_ml l y wl D (ob_ty cI cZ cR cW) X (.ref o :: As) (ob_wx o cI cR cW u S) (fun r' (_ : ob_AX) => r' = r) (fun u' => ob_wx o cI cR cW u' S'))
    (cw : ∀ rm : Room, rm.frames ≤ 16 → rm.locals ≤ 400 → CallW room_1 s #[Value.ref b] RL RX4 index y bytes maxL ret wl rm rm.cells rm.slots n)
    (hP : va_P D vwCl (ob_wx o cI cR cW u S ++ ob_w5 om am cI cZ mm) H) (hD : va_D (fun q : Nat => s.heap.size ≤ q) (ob_wx o cI cR cW u S ++ ob_w5 om am cI cZ mm)) (hS : va_S (fun q : Nat => s.heap.size ≤ q) s.heap H locs) (hl : lv_has ls 4 [(0, .ref b), (1, .ref o), (2, .ref om), (3, .int (nI i))]) (hn : As.length = n) (hcs : cells + 150 ≤ 600000 ∧ slots + 1175 ≤ 7302250) {st : List Value} (hst : st = As.reverse ++ [.ref o]) (hdg : decode cL_law pc = .ok (.invokevirtual index, 3))
    (kk : ∀ (u' : ob_AX) (H1 : Heap) (locs1 : List Loc), va_P D vwCl (ob_wx o cI cR cW u' S' ++ ob_w5 om am cI cZ mm) H1 → va_D (fun q : Nat => s.heap.size ≤ q) (ob_wx o cI cR cW u' S' ++ ob_w5 om am cI cZ mm) → va_S (fun q : Nat => s.heap.size ≤ q) s.heap H1 locs1 → W p l e room_1 s m #[Value.ref b] below meth c H1 locs1 (cells + 150) (slots + 1175) Q (F0 m (pc + 3) ls [.long r])) : W p l e room_1 s m #[Value.ref b] below meth c H locs cells slots Q (F0 m pc ls st) := by
  obtain ⟨hx, hb, hml, hown, hts, hX, hbl, hK, hE⟩ := C
  obtain ⟨rm, h1, h2, h3, h4, hM⟩ := hM
  refine ob_PVl (rest := []) (wr := ob_w5 om am cI cZ mm) ⟨hx, hb, hml, hown, hts⟩ (hM H.size) (cw rm h1 h2) hK hE hP hD hS (fun _ h => h) (List.Perm.refl _) 4 0 rfl rfl rfl hl hn hst (Nat.zero_le _) ⟨show cells + rm.cells ≤ 600000 by omega, show slots + rm.slots ≤ 7302250 by omega⟩ hdg (fun r' u' H1 locs1 e1 hP1 hD1 hS1 => ?_)
  have e2 : r' = r := e1
  subst e2
  exact W.widen (by omega) (by omega) (kk u' H1 locs1 (ob_Pp hP1 (lw_ps _ _)) (ob_Dp hD1 (lw_ps _ _)) hS1)
theorem lw_mll {r : Int64} {m' : ob_B} {y : MethodName} {wl : List Cond} {As : List Value} {index n maxL : Nat} {bytes : ByteArray} {ret : Option FieldType} (C : lw_K p s m c b L xs D cI cZ cR cW X) (hM : ob_ml l y wl D (ob_ty cI cZ cR cW) X (.ref om :: As) (ob_w5 om am cI cZ mm) (fun r' (_ : Unit) => r' = r) (fun _ => ob_w5 om am cI cZ m'))
    (cw : ∀ rm : Room, rm.frames ≤ 16 → rm.locals ≤ 400 → CallW room_1 s #[Value.ref b] RL RX5 index y bytes maxL ret wl rm rm.cells rm.slots n)
    (hP : va_P D vwCl (ob_wx o cI cR cW u S ++ ob_w5 om am cI cZ mm) H) (hD : va_D (fun q : Nat => s.heap.size ≤ q) (ob_wx o cI cR cW u S ++ ob_w5 om am cI cZ mm)) (hS : va_S (fun q : Nat => s.heap.size ≤ q) s.heap H locs) (hl : lv_has ls 4 [(0, .ref b), (1, .ref o), (2, .ref om), (3, .int (nI i))]) (hn : As.length = n) (hcs : cells + 150 ≤ 600000 ∧ slots + 1175 ≤ 7302250) {st : List Value} (hw8 : (rest.map fun v => v.category).sum ≤ 8) (hst : st = As.reverse ++ .ref om :: rest) (hdg : decode cL_law pc = .ok (.invokevirtual index, 3))
    (kk : ∀ (H1 : Heap) (locs1 : List Loc), va_P D vwCl (ob_wx o cI cR cW u S ++ ob_w5 om am cI cZ m') H1 → va_D (fun q : Nat => s.heap.size ≤ q) (ob_wx o cI cR cW u S ++ ob_w5 om am cI cZ m') → va_S (fun q : Nat => s.heap.size ≤ q) s.heap H1 locs1 → W p l e room_1 s m #[Value.ref b] below meth c H1 locs1 (cells + 150) (slots + 1175) Q (F0 m (pc + 3) ls (.long r :: rest))) : W p l e room_1 s m #[Value.ref b] below meth c H locs cells slots Q (F0 m pc ls st) := by
  obtain ⟨hx, hb, hml, hown, hts, hX, hbl, hK, hE⟩ := C
  obtain ⟨rm, h1, h2, h3, h4, hM⟩ := hM
  refine ob_PVl (rest := rest) (wr := ob_wx o cI cR cW u S) ⟨hx, hb, hml, hown, hts⟩ (hM H.size) (cw rm h1 h2) hK hE hP hD hS (fun _ h => h) (lw_ps _ _) 5 0 rfl rfl rfl hl hn hst hw8 ⟨show cells + rm.cells ≤ 600000 by omega, show slots + rm.slots ≤ 7302250 by omega⟩ hdg (fun r' u' H1 locs1 e1 hP1 hD1 hS1 => ?_)
  have e2 : r' = r := e1
  subst e2
  exact W.widen (by omega) (by omega) (kk H1 locs1 hP1 hD1 hS1)
end LW
