/-! the world of an OathCoach -/
def ob_rg (ar : ob_AH) (n : Nat) : Nat → Option Nat := fun i => if i < n then some (ar i).1 else none
def ob_ry (cI : ClassId) (ar : ob_AH) (w : Nat → ob_B) (n : Nat) : va_W := (List.range n).flatMap (fun i => ob_w2 (ar i).1 (ar i).2 cI (w i))
theorem ob_rg_s (ar : ob_AH) (n q : Nat) (u : Nat → Nat) : va_up (ob_rg ar n) n (some q) = ob_rg (va_up ar n (q, u)) (n + 1) := by
  funext i
  unfold ob_rg
  by_cases h : i = n
  · subst h
    rw [va_up_self, if_pos (by omega), va_up_self]
  · rw [va_up_ne _ _ h]
    by_cases h2 : i < n
    · rw [if_pos h2, if_pos (by omega), va_up_ne _ _ h]
    · rw [if_neg h2, if_neg (by omega)]
theorem ob_ry_s (cI : ClassId) (ar : ob_AH) (w : Nat → ob_B) (n q : Nat) (u : Nat → Nat) : ob_ry cI (va_up ar n (q, u)) w (n + 1) = ob_ry cI ar w n ++ ob_w2 q u cI (w n) := by
  unfold ob_ry
  rw [List.range_succ, List.flatMap_append]
  have h1 : (List.range n).flatMap (fun i => ob_w2 (va_up ar n (q, u) i).1 (va_up ar n (q, u) i).2 cI (w i)) = (List.range n).flatMap (fun i => ob_w2 (ar i).1 (ar i).2 cI (w i)) := by
    have : ∀ i ∈ List.range n, (fun i => ob_w2 (va_up ar n (q, u) i).1 (va_up ar n (q, u) i).2 cI (w i)) i = (fun i => ob_w2 (ar i).1 (ar i).2 cI (w i)) i := fun i hi => by
      dsimp only
      rw [va_up_ne _ _ (Nat.ne_of_lt (List.mem_range.mp hi))]
    rw [List.flatMap_def, List.flatMap_def, List.map_congr_left this]
  rw [h1]
  simp only [List.flatMap_cons, List.flatMap_nil, List.append_nil, va_up_self]
/-- x, rows, tape, route, trial, history, images -/
abbrev ob_SX : Type := ob_B × (Nat → ob_B) × ob_B × ob_B × ob_B × ob_H × (Nat → Option ob_B)
/-- where they lie -/
abbrev ob_AX : Type := (Nat → Nat) × ob_AH × (Nat → Nat) × (Nat → Nat) × (Nat → Nat) × (Nat → Nat) × ob_AH × ob_AH
def ob_wx (o : Nat) (cI cR cW : ClassId) (u : ob_AX) (S : ob_SX) : va_W :=
  ob_w4 o u.1 cI S.1 ++ (ob_wr (u.1 0) cW 8 (ob_rg u.2.1 8) ++ (ob_ry cI u.2.1 S.2.1 8 ++ (ob_w3 (u.1 1) u.2.2.1 cI S.2.2.1 ++ (ob_w1 (u.1 2) u.2.2.2.1 cI S.2.2.2.1 ++ (ob_w1 (u.1 3) u.2.2.2.2.1 cI S.2.2.2.2.1 ++ (ob_w0 (u.1 4) u.2.2.2.2.2.1 S.2.2.2.2.2.1.1 ++ (ob_wr (u.2.2.2.2.2.1 0) cR 24 (ob_hg S.2.2.2.2.2.1.2 u.2.2.2.2.2.2.1) ++ (ob_dy cI S.2.2.2.2.2.1.2 u.2.2.2.2.2.2.1 24 ++ (ob_wr (u.1 5) cR 2 (ob_hg S.2.2.2.2.2.2 u.2.2.2.2.2.2.2) ++ ob_dy cI S.2.2.2.2.2.2 u.2.2.2.2.2.2.2 2)))))))))
def ob_SZ : ob_SX := (ob_z, fun _ => ob_zr, ob_z, ob_z, ob_z, (ob_z, fun _ => none), fun _ => none)
theorem ob_dy0 (cI : ClassId) (ad : ob_AH) : ∀ n, ob_dy cI (fun _ => none) ad n = []
  | 0 => rfl
  | n + 1 => by
    have h := ob_dy0 cI ad n
    unfold ob_dy at h ⊢
    rw [List.range_succ, List.flatMap_append, h]
    rfl
/-- blocks in another order -/
theorem ob_pm {α : Type} (L : List (List α)) (is js : List Nat) (h : is.Perm js) : (is.flatMap (fun i => L.getD i [])).Perm (js.flatMap (fun i => L.getD i [])) := h.flatMap_right _
theorem ob_pc {α : Type} (o b r t y z h g i k : List α) : (o ++ (b ++ (r ++ (t ++ (y ++ (z ++ (h ++ (g ++ (i ++ k))))))))).Perm (o ++ (k ++ (b ++ (r ++ (t ++ (y ++ (z ++ (h ++ (g ++ i))))))))) := by
  refine List.Perm.append_left _ ?_
  have e : b ++ (r ++ (t ++ (y ++ (z ++ (h ++ (g ++ (i ++ k))))))) = (b ++ (r ++ (t ++ (y ++ (z ++ (h ++ (g ++ i))))))) ++ k := by simp only [List.append_assoc]
  rw [e]
  exact List.perm_append_comm
