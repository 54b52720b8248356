set_option maxRecDepth 100000 in
set_option maxHeartbeats 4000000 in
theorem pu_askb (m : ob_B) {k w j : Nat} (k1 : 1 ≤ k) (k5 : k ≤ 5) (hw : w < 2) (hj : j < 7) : (if nI w = 0 then fd_X5_sizeOf (ob_I (ob_A m 12 (upd (m.2 12) (7 + j) (nI k))) 20 0) (nI j) else fd_X5_markOf (ob_I (ob_A m 12 (upd (m.2 12) (7 + j) (nI k))) 20 0) (nI j)) = some (pu_R (nI j) (m.2 12 (14 + j)) (m.2 12 (21 + j)) k w, (pu_L k w).foldl pu_bh (ob_I (ob_A m 12 (upd (m.2 12) (7 + j) (nI k))) 20 0)) := by
  have hk : k = 1 ∨ k = 2 ∨ k = 3 ∨ k = 4 ∨ k = 5 := by omega
  have hw' : w = 0 ∨ w = 1 := by omega
  have hj' : j = 0 ∨ j = 1 ∨ j = 2 ∨ j = 3 ∨ j = 4 ∨ j = 5 ∨ j = 6 := by omega
  rcases hk with rfl | rfl | rfl | rfl | rfl <;> rcases hw' with rfl | rfl <;> rcases hj' with rfl | rfl | rfl | rfl | rfl | rfl | rfl <;> rfl
theorem pu_Asf (b : ob_B) (s k : Nat) (v : Int32) (h : b.2 s k = v) : ob_A b s (upd (b.2 s) k v) = b := by
  subst h
  rw [pu_usf]
  refine Prod.ext rfl ?_
  funext i
  show ob_U b.2 s (b.2 s) i = b.2 i
  unfold ob_U
  by_cases hi : i = s
  · rw [if_pos hi, hi]
  · rw [if_neg hi]
theorem pu_eith2 (c : Int32) : (fd_X4_isEither c = some 0 ∧ fd_X5_in c 0 1 = some 0) ∨ (∃ w, w < 2 ∧ c = nI w ∧ fd_X4_isEither c = some 1 ∧ fd_X5_in c 0 1 = some 1) := by
  unfold fd_X4_isEither
  rcases pu_in c 0 1 with g | ⟨g, g1, g2⟩
  · refine Or.inl ⟨?_, g⟩
    rw [if_neg (fun q => by rw [q] at g; exact absurd g (by decide)), if_neg (fun q => by rw [q] at g; exact absurd g (by decide))]
  · obtain ⟨w, -, hw, rfl⟩ := pu_rng (lo := 0) (hi := 1) (by omega) (by omega) g1 g2
    refine Or.inr ⟨w, by omega, rfl, ?_, g⟩
    have : w = 0 ∨ w = 1 := by omega
    rcases this with rfl | rfl <;> rfl
theorem pu_ask {x y m : ob_B} {n : Nat} (ho : pu_ok (m.2 12) n) (hr : pu_rr y (m.2 12) n) (ht : pu_tc x m) (a c : Int32) : ∃ r x' m', fd_X4_ask x y a c = some (r, x') ∧ fd_X5_ask m a c = some (r, m') ∧ pu_tc x' m' ∧ pu_kq x m x' m' := by
  have hn := ho.1
  unfold fd_X4_ask fd_X5_ask
  rcases pu_one (x := x) ho hr a with ⟨h1, h5⟩ | ⟨j, hj, rfl, h1, h5⟩
  · rw [h1, h5, pu_b1, pu_b1, if_pos rfl, if_pos rfl]
    exact ⟨_, _, _, rfl, rfl, ht, pu_kq_rf⟩
  rw [h1, h5, pu_b1, pu_b1, if_neg pu_10, if_neg pu_10]
  rcases pu_eith2 c with ⟨g1, g2⟩ | ⟨w, hw, rfl, g1, g2⟩
  · rw [g1, g2, pu_b1, pu_b1, if_pos rfl, if_pos rfl]
    exact ⟨_, _, _, rfl, rfl, ht, pu_kq_rf⟩
  rw [g1, g2, pu_b1, pu_b1, if_neg pu_10, if_neg pu_10, pu_lt, pu_lt]
  obtain ⟨⟨k, k1, k5, ek⟩, -, -⟩ := ho.2.2.2 j hj
  obtain ⟨a7, a8, a9, a10, a11⟩ := hr.2.2.2.2.2.2.2 j hj
  have ha := pu_aska x y k1 k5 hw (show j < 7 by omega)
  have hb := pu_askb m k1 k5 hw (show j < 7 by omega)
  rw [pu_Asf y 7 j (nI k) (a7.trans ek), a8, a9] at ha
  rw [pu_Asf m 12 (7 + j) (nI k) ek] at hb
  rw [ha, pu_b2]
  have hlen : (pu_L k w).length ≤ 16 := by
    have hk : k = 1 ∨ k = 2 ∨ k = 3 ∨ k = 4 ∨ k = 5 := by omega
    have hw' : w = 0 ∨ w = 1 := by omega
    rcases hk with rfl | rfl | rfl | rfl | rfl <;> rcases hw' with rfl | rfl <;> decide
  obtain ⟨t1, t2⟩ := pu_bgs (pu_L k w) 0 (ob_I x 7 0) (ob_I m 20 0) (by omega) (pu_II _ _ _) (pu_II _ _ _) (fun j hj => absurd hj (Nat.not_lt_zero _))
  have t0 : pu_kq x m (ob_I x 7 0) (ob_I m 20 0) := ⟨fun k hk => pu_un _ _ hk, fun _ _ => rfl, fun k hk => pu_un _ _ hk, fun _ _ => rfl⟩
  refine ⟨_, _, (pu_L k w).foldl pu_bh (ob_I m 20 0), rfl, ?_, t1, pu_kq_tr t0 t2⟩
  have hw' : w = 0 ∨ w = 1 := by omega
  rcases hw' with rfl | rfl
  · rw [if_pos (show nI 0 = 0 from rfl)] at hb ⊢
    rw [hb, pu_b2]
  · rw [if_neg (show ¬ nI 1 = 0 by decide)] at hb ⊢
    rw [hb, pu_b2]
