def pu_bg (x : ob_B) (v : Int32) : ob_B := ob_A (ob_I x 7 (x.1 7 + 1)) 6 (upd (x.2 6) (Int32.toNatClampNeg (x.1 7)) v)
def pu_bh (m : ob_B) (v : Int32) : ob_B := ob_I (ob_A m 19 (upd (m.2 19) (Int32.toNatClampNeg (m.1 20)) v)) 20 (m.1 20 + 1)
/-- what an ask leaves -/
def pu_kq (x m x' m' : ob_B) : Prop := (∀ k, k ≠ 7 → x'.1 k = x.1 k) ∧ (∀ k, k ≠ 6 → x'.2 k = x.2 k) ∧ (∀ k, k ≠ 20 → m'.1 k = m.1 k) ∧ ∀ k, k ≠ 19 → m'.2 k = m.2 k
theorem pu_kq_rf {x m : ob_B} : pu_kq x m x m := ⟨fun _ _ => rfl, fun _ _ => rfl, fun _ _ => rfl, fun _ _ => rfl⟩
theorem pu_kq_tr {x m x1 m1 x2 m2 : ob_B} (h : pu_kq x m x1 m1) (g : pu_kq x1 m1 x2 m2) : pu_kq x m x2 m2 :=
  ⟨fun k hk => (g.1 k hk).trans (h.1 k hk), fun k hk => (g.2.1 k hk).trans (h.2.1 k hk), fun k hk => (g.2.2.1 k hk).trans (h.2.2.1 k hk), fun k hk => (g.2.2.2 k hk).trans (h.2.2.2 k hk)⟩
theorem pu_bgs : ∀ (L : List Int32) (c : Nat) (x m : ob_B), c + L.length ≤ 16 → x.1 7 = nI c → m.1 20 = nI c → (∀ j, j < c → x.2 6 j = m.2 19 j) → pu_tc (L.foldl pu_bg x) (L.foldl pu_bh m) ∧ pu_kq x m (L.foldl pu_bg x) (L.foldl pu_bh m) := by
  intro L
  induction L with
  | nil =>
    intro c x m hc h7 h20 hj
    exact ⟨⟨c, hc, h7, h20, hj⟩, pu_kq_rf⟩
  | cons v L ih =>
    intro c x m hc h7 h20 hj
    rw [List.length_cons] at hc
    have e7 : (pu_bg x v).1 7 = nI (c + 1) := by
      unfold pu_bg
      rw [show (ob_A (ob_I x 7 (x.1 7 + 1)) 6 (upd (x.2 6) (Int32.toNatClampNeg (x.1 7)) v)).1 7 = (ob_I x 7 (x.1 7 + 1)).1 7 from rfl, pu_II, h7, nI_1]
    have e20 : (pu_bh m v).1 20 = nI (c + 1) := by
      unfold pu_bh
      rw [pu_II, h20, nI_1]
    have e6 : (pu_bg x v).2 6 = upd (x.2 6) c v := by
      unfold pu_bg
      rw [h7, pu_cl (by omega)]
      funext j
      exact pu_AA _ 6 _ j
    have e19 : (pu_bh m v).2 19 = upd (m.2 19) c v := by
      unfold pu_bh
      rw [h20, pu_cl (by omega)]
      funext j
      exact pu_AA m 19 _ j
    obtain ⟨g1, g2⟩ := ih (c + 1) (pu_bg x v) (pu_bh m v) (by omega) e7 e20 (fun j hj' => by
      rw [e6, e19]
      by_cases q : j = c
      · rw [q, pu_us, pu_us]
      · rw [pu_un _ _ q, pu_un _ _ q]; exact hj j (by omega))
    refine ⟨g1, pu_kq_tr ⟨fun k hk => pu_un _ _ hk, fun k hk => pu_UN _ _ hk, fun k hk => pu_un _ _ hk, fun k hk => pu_UN _ _ hk⟩ g2⟩
def pu_L : Nat → Nat → List Int32
  | 1, 0 => [11, 10, 21, 20]
  | 2, 0 => [12, 11, 10, 24, 21, 20]
  | 3, 0 => [11, 10, 22, 21, 20]
  | 4, 0 => [13, 10]
  | 5, 0 => [14, 13, 10]
  | 1, _ => [21, 20]
  | 2, _ => [24, 21, 20]
  | 3, _ => [22, 21, 20]
  | 4, _ => [23, 20, 13, 10]
  | _, _ => [23, 20, 14, 13, 10]
def pu_R (o p w : Int32) : Nat → Nat → Int32
  | 1, 0 => w + (o + p)
  | 2, 0 => -(w + 2 * (o + p))
  | 3, 0 => w + (o + p - 1000)
  | 4, 0 => w - 100
  | 5, 0 => 2 * (w - 100)
  | 1, _ => o + p
  | 2, _ => 2 * (o + p)
  | 3, _ => o + p - 1000
  | 4, _ => o - (w - 100)
  | _, _ => o - 2 * (w - 100)
set_option maxRecDepth 100000 in
set_option maxHeartbeats 4000000 in
theorem pu_aska (x y : ob_B) {k w j : Nat} (k1 : 1 ≤ k) (k5 : k ≤ 5) (hw : w < 2) (hj : j < 7) : fd_X4_askAnew7 (ob_I x 7 0) (ob_A y 7 (upd (y.2 7) j (nI k))) (nI j) (nI w) 0 = some (pu_R (nI j) (y.2 8 j) (y.2 9 j) k w, (pu_L k w).foldl pu_bg (ob_I x 7 0)) := by
  have hk : k = 1 ∨ k = 2 ∨ k = 3 ∨ k = 4 ∨ k = 5 := by omega
  have hw' : w = 0 ∨ w = 1 := by omega
  have hj' : j = 0 ∨ j = 1 ∨ j = 2 ∨ j = 3 ∨ j = 4 ∨ j = 5 ∨ j = 6 := by omega
  rcases hk with rfl | rfl | rfl | rfl | rfl <;> rcases hw' with rfl | rfl <;> rcases hj' with rfl | rfl | rfl | rfl | rfl | rfl | rfl <;> rfl
