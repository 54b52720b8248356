/-! the history: its object, its array, and a Route in each slot that has one -/
abbrev ob_H : Type := ob_B × (Nat → Option ob_B)
abbrev ob_AH : Type := Nat → Nat × (Nat → Nat)
def ob_dc (cI : ClassId) (hb : Nat → Option ob_B) (ad : ob_AH) (i : Nat) : va_W := match hb i with
  | none => []
  | some c => ob_w1 (ad i).1 (ad i).2 cI c
def ob_dy (cI : ClassId) (hb : Nat → Option ob_B) (ad : ob_AH) (n : Nat) : va_W := (List.range n).flatMap (ob_dc cI hb ad)
def ob_hg (hb : Nat → Option ob_B) (ad : ob_AH) : Nat → Option Nat := fun i => (hb i).map (fun _ => (ad i).1)
def ob_hw (o : Nat) (a : Nat → Nat) (cI cR : ClassId) (h : ob_H) (ad : ob_AH) : va_W := ob_w0 o a h.1 ++ (ob_wr (a 0) cR 24 (ob_hg h.2 ad) ++ ob_dy cI h.2 ad 24)
theorem ob_fm {α : Type} (F : Nat → List α) (j : Nat) : ∀ n, j < n → ((List.range n).flatMap F).Perm (F j ++ (List.range n).flatMap (va_up F j []))
  | 0, h => absurd h (Nat.not_lt_zero _)
  | n + 1, h => by
    rw [List.range_succ, List.flatMap_append, List.flatMap_append]
    simp only [List.flatMap_cons, List.flatMap_nil, List.append_nil]
    by_cases hj : j = n
    · subst hj
      have h1 : (List.range j).flatMap (va_up F j []) = (List.range j).flatMap F := by
        have : ∀ i ∈ List.range j, va_up F j [] i = F i := fun i hi => va_up_ne _ _ (Nat.ne_of_lt (List.mem_range.mp hi))
        rw [List.flatMap_def, List.flatMap_def, List.map_congr_left this]
      rw [h1, va_up_self, List.append_nil]
      exact List.perm_append_comm
    · have h2 := ob_fm F j n (by omega)
      rw [va_up_ne F [] (fun e => hj e.symm), ← List.append_assoc]
      exact h2.append_right _
theorem ob_dcn (cI : ClassId) (hb : Nat → Option ob_B) (ad : ob_AH) (j : Nat) (x : Option ob_B) (q : Nat × (Nat → Nat)) : va_up (ob_dc cI (va_up hb j x) (va_up ad j q)) j [] = va_up (ob_dc cI hb ad) j [] := by
  funext i
  by_cases h : i = j
  · subst h
    rw [va_up_self, va_up_self]
  · rw [va_up_ne _ _ h, va_up_ne _ _ h]
    unfold ob_dc
    rw [va_up_ne _ _ h, va_up_ne _ _ h]
def ob_rs (cI : ClassId) (hb : Nat → Option ob_B) (ad : ob_AH) (j n : Nat) : va_W := (List.range n).flatMap (va_up (ob_dc cI hb ad) j [])
theorem ob_out {cI : ClassId} {hb : Nat → Option ob_B} {ad : ob_AH} {j n : Nat} {c : ob_B} (hj : j < n) (h : hb j = some c) : (ob_dy cI hb ad n).Perm (ob_w1 (ad j).1 (ad j).2 cI c ++ ob_rs cI hb ad j n) := by
  have h1 := ob_fm (ob_dc cI hb ad) j n hj
  have h2 : ob_dc cI hb ad j = ob_w1 (ad j).1 (ad j).2 cI c := by unfold ob_dc; rw [h]
  rw [h2] at h1
  exact h1
theorem ob_out0 {cI : ClassId} {hb : Nat → Option ob_B} {ad : ob_AH} {j n : Nat} (hj : j < n) (h : hb j = none) : (ob_dy cI hb ad n).Perm (ob_rs cI hb ad j n) := by
  have h1 := ob_fm (ob_dc cI hb ad) j n hj
  have h2 : ob_dc cI hb ad j = [] := by unfold ob_dc; rw [h]
  rw [h2] at h1
  exact h1
theorem ob_back {cI : ClassId} {hb : Nat → Option ob_B} {ad : ob_AH} {j n : Nat} (c : ob_B) (q : Nat × (Nat → Nat)) (hj : j < n) : (ob_dy cI (va_up hb j (some c)) (va_up ad j q) n).Perm (ob_w1 q.1 q.2 cI c ++ ob_rs cI hb ad j n) := by
  have h1 := ob_out (cI := cI) (hb := va_up hb j (some c)) (ad := va_up ad j q) (c := c) hj (va_up_self _ _ _)
  unfold ob_rs at h1 ⊢
  rw [ob_dcn, va_up_self] at h1
  exact h1
theorem ob_hg_up (hb : Nat → Option ob_B) (ad : ob_AH) (j : Nat) (c : ob_B) (q : Nat × (Nat → Nat)) : ob_hg (va_up hb j (some c)) (va_up ad j q) = va_up (ob_hg hb ad) j (some q.1) := by
  funext i
  by_cases h : i = j
  · subst h
    unfold ob_hg
    rw [va_up_self, va_up_self, va_up_self]
    rfl
  · unfold ob_hg
    rw [va_up_ne _ _ h, va_up_ne _ _ h, va_up_ne _ _ h]
theorem ob_hg_same (hb : Nat → Option ob_B) (ad : ob_AH) (j : Nat) (c c' : ob_B) (h : hb j = some c) : ob_hg (va_up hb j (some c')) ad = ob_hg hb ad := by
  funext i
  by_cases hi : i = j
  · subst hi
    unfold ob_hg
    rw [va_up_self, h]
    rfl
  · unfold ob_hg
    rw [va_up_ne _ _ hi]
theorem ob_upad (ad : ob_AH) (j : Nat) : va_up ad j (ad j) = ad := by
  funext i
  by_cases hi : i = j
  · subst hi; rw [va_up_self]
  · rw [va_up_ne _ _ hi]
theorem ob_h1 {F T dc wr : va_W} (h : F.Perm (dc ++ wr)) : (F ++ T).Perm ((T ++ dc) ++ wr) := (h.append_right T).trans ((List.perm_append_comm).trans (by rw [List.append_assoc]))
theorem ob_h2 {F T dc wr : va_W} (h : F.Perm (dc ++ wr)) : (wr ++ (T ++ dc)).Perm (F ++ T) := ((List.perm_append_comm (l₁ := wr)).trans (by rw [List.append_assoc]; exact (List.Perm.append_left T h.symm).trans List.perm_append_comm))
theorem ob_h3 {F T wc wr : va_W} (h : F.Perm (wc ++ wr)) : (F ++ T).Perm (wc ++ (wr ++ T)) := by rw [← List.append_assoc]; exact h.append_right T
theorem ob_h4 {F T w1 wr : va_W} (h : F.Perm (w1 ++ wr)) : ((wr ++ T) ++ w1).Perm (F ++ T) := (List.perm_append_comm).trans (by rw [← List.append_assoc]; exact h.symm.append_right T)
section OBH
variable {p : Program} {l : Launch} {e : Env} {R : Room} {s : State} {m : MethodId} {args : Array Value} {below : List Frame} {meth : Method} {c : Code} {H : Heap} {locs : List Loc} {cells slots : Nat} {Q : State → Prop}
variable {cc : ByteArray} {pc : Nat} {ls : Array Slot} {rest : List Value} {A : Nat → Prop} {D : va_G}
variable {Ts wl wl' : List Cond} {bytes : ByteArray} {nL maxL index n : Nat} {own C : String} {y : MethodName} {ret : Option FieldType} {rm : Room} {tys : List (ClassId × FieldType)} {X : Nat → Nat} {b : Addr} {As : List Value} {st0 : List Value} {ws wc wr : va_W} {lv : List (Nat × Value)}
theorem ob_PSi {S : Type} {post : Int32 → S → Prop} {w1 : S → va_W} (F : CallFix p m c cc nL s args Ts own) (hM : ob_M l y wl rm D tys X As wc H.size (ob_QiE D post w1)) (cw : CallB R s args own index y bytes maxL ret wl rm rm.cells rm.slots n ∧ (Cond.static y).before args s = true) (hK : va_K D vwCl tys s) (hE : ob_E X A s s.heap) (hP : va_P D vwCl ws H) (hD : va_D A ws) (hS : va_S A s.heap H locs) (hA : ∀ q, s.heap.size ≤ q → A q) (hp : ws.Perm (wc ++ wr))
    (hl : lv_has ls nL lv) (hn : As.length = n) (hst : st0 = As.reverse ++ rest) (hw8 : (rest.map fun v => v.category).sum ≤ 8) (hf : cells + rm.cells ≤ R.cells ∧ slots + rm.slots ≤ R.slots) (hdg : decode cc pc = .ok (.invokestatic index, 3))
    (kk : ∀ (r : Int32) (u : S) (H1 : Heap) (locs1 : List Loc), post r u → va_P D vwCl (wr ++ w1 u) H1 → va_D A (wr ++ w1 u) → va_S A s.heap H1 locs1 → W p l e R s m args below meth c H1 locs1 (cells + rm.cells) (slots + rm.slots) Q (F0 m (pc + 3) ls (.int r :: rest))) : W p l e R s m args below meth c H locs cells slots Q (F0 m pc ls st0) :=
  ob_gPi (fun hF hPc hDc => va_runS F hM cw (ob_preS hK hE hS hF hPc hDc) rfl hn hl.1 hst (lv_room hw8) hdg hf) hP hD hS hA hp kk
end OBH
