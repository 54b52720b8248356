theorem zr_no {a : Int32} (hz : ∀ j, j < 8 → a ≠ nI j) : fd_X4_isRow a = some 0 := by
  rcases pu_isRow a with ⟨h4, -, -⟩ | ⟨p, hp, e, -⟩
  · exact h4
  · exact absurd e (hz p hp)
theorem zr_row {x w x' w' : ob_B} {a c e r : Int32} (hd : fd_X4_row x w a c e = some (r, x', w')) (hz : ∀ j, j < 8 → a ≠ nI j) : w' = w := by
  unfold fd_X4_row at hd
  rw [zr_no hz, pu_b1, if_pos rfl] at hd
  exact (ob_pq hd).2.2.symm
theorem zr_set {x w x' w' : ob_B} {a c e r : Int32} (hd : fd_X4_set x w a c e = some (r, x', w')) (hz : ∀ j, j < 8 → a ≠ nI j) : w' = w := by
  unfold fd_X4_set at hd
  rw [zr_no hz, pu_b1, if_pos rfl] at hd
  exact (ob_pq hd).2.2.symm
theorem zr_drop {x w x' w' : ob_B} {a r : Int32} (hd : fd_X4_drop x w a = some (r, x', w')) (hz : ∀ j, j < 8 → a ≠ nI j) : w' = w := by
  unfold fd_X4_drop at hd
  rw [zr_no hz, pu_b1, if_pos rfl] at hd
  exact (ob_pq hd).2.2.symm
theorem zr_copy {x w v x' v' : ob_B} {a b c d e r : Int32} (hd : fd_X4_copyTwo x w v a b c d e = some (r, x', v')) (hz : ∀ j, j < 8 → c ≠ nI j) : v' = v := by
  unfold fd_X4_copyTwo at hd
  rcases pu_isRow a with ⟨h4, -, -⟩ | ⟨p, hp, -, h4, -⟩
  · rw [h4, pu_b1, if_pos rfl] at hd
    exact (ob_pq hd).2.2.symm
  · rw [h4, pu_b1, if_neg pu_10, zr_no hz, pu_b1, if_pos rfl] at hd
    exact (ob_pq hd).2.2.symm
section OP
variable {l : Launch} {dC : Nat → ClassId} {dI : Nat → Nat → Nat} {cI cZ cR cW : ClassId} {X : Nat → Nat} {o om : Nat} {am : Nat → Nat}
theorem op_fault : ob_op l (dC, dI) (ob_ty cI cZ cR cW) X o om am cI cZ cR cW yX4_fault wsX4_fault yX5_fault wsX5_fault [] := by
  rintro u ⟨x, w, q, y, t, h, im⟩ m hv
  have e : fd_X4_fault x = some (m.1 11) := congrArg some hv.2.1
  exact ⟨_, _, m, bx_fault _ e, ob_mi (fun sz => mt_X5_fault l dC dI cI cZ cR cW X sz om am m  _  rfl) ⟨by decide, by decide, by decide, by decide⟩, hv⟩
theorem op_status : ob_op l (dC, dI) (ob_ty cI cZ cR cW) X o om am cI cZ cR cW yX4_status wsX4_status yX5_status wsX5_status [] := by
  rintro u ⟨x, w, q, y, t, h, im⟩ m hv
  have e : fd_X4_status x = some (m.1 3) := congrArg some hv.1
  exact ⟨_, _, m, bx_status _ e, ob_mi (fun sz => mt_X5_status l dC dI cI cZ cR cW X sz om am m  _  rfl) ⟨by decide, by decide, by decide, by decide⟩, hv⟩
theorem op_trace (z1 : Int32) : ob_op l (dC, dI) (ob_ty cI cZ cR cW) X o om am cI cZ cR cW yX4_trace wsX4_trace yX5_trace wsX5_trace [.int z1] := by
  rintro u ⟨x, w, q, y, t, h, im⟩ m hv
  obtain ⟨r, a1, a2⟩ := pu_trace hv.2.2.1 z1
  exact ⟨r, _, m, bx_trace z1 r a1, ob_mi (fun sz => mt_X5_trace l dC dI cI cZ cR cW X sz om am m z1 r  a2) ⟨by decide, by decide, by decide, by decide⟩, hv⟩
theorem op_oath (z1 z2 : Int32) : ob_op l (dC, dI) (ob_ty cI cZ cR cW) X o om am cI cZ cR cW yX4_oath wsX4_oath yX5_oath wsX5_oath [.int z1, .int z2] := by
  rintro u ⟨x, w, q, y, t, h, im⟩ m hv
  obtain ⟨n, ho, hr⟩ := hv.2.2.2.2.2.1
  obtain ⟨r, a1, a2⟩ := pu_oath (x := x) ho hr z1 z2
  exact ⟨r, _, m, bx_oath z1 z2 r a1, ob_mi (fun sz => mt_X5_oath l dC dI cI cZ cR cW X sz om am m z1 z2 r  a2) ⟨by decide, by decide, by decide, by decide⟩, hv⟩
theorem op_coach (z1 : Int32) : ob_op l (dC, dI) (ob_ty cI cZ cR cW) X o om am cI cZ cR cW yX4_coach wsX4_coach yX5_coach wsX5_coach [.int z1] := by
  rintro u ⟨x, w, q, y, t, h, im⟩ m hv
  obtain ⟨n, ho, hr⟩ := hv.2.2.2.2.2.1
  obtain ⟨r, a1, a2⟩ := pu_coach (x := x) ho hr z1
  exact ⟨r, _, m, bx_coach z1 r a1, ob_mi (fun sz => mt_X5_coach l dC dI cI cZ cR cW X sz om am m z1 r  a2) ⟨by decide, by decide, by decide, by decide⟩, hv⟩
theorem op_kind (z1 : Int32) : ob_op l (dC, dI) (ob_ty cI cZ cR cW) X o om am cI cZ cR cW yX4_kind wsX4_kind yX5_kind wsX5_kind [.int z1] := by
  rintro u ⟨x, w, q, y, t, h, im⟩ m hv
  obtain ⟨n, ho, hr⟩ := hv.2.2.2.2.2.1
  obtain ⟨r, a1, a2⟩ := pu_kind (x := x) ho hr z1
  exact ⟨r, _, m, bx_kind z1 r a1, ob_mi (fun sz => mt_X5_kind l dC dI cI cZ cR cW X sz om am m z1 r  a2) ⟨by decide, by decide, by decide, by decide⟩, hv⟩
theorem op_late (z1 : Int32) : ob_op l (dC, dI) (ob_ty cI cZ cR cW) X o om am cI cZ cR cW yX4_late wsX4_late yX5_late wsX5_late [.int z1] := by
  rintro u ⟨x, w, q, y, t, h, im⟩ m hv
  obtain ⟨n, ho, hr⟩ := hv.2.2.2.2.2.1
  obtain ⟨r, a1, a2⟩ := pu_late (x := x) ho hr z1
  exact ⟨r, _, m, bx_late z1 r a1, ob_mi (fun sz => mt_X5_late l dC dI cI cZ cR cW X sz om am m z1 r  a2) ⟨by decide, by decide, by decide, by decide⟩, hv⟩
theorem op_lies (z1 z2 z3 : Int32) : ob_ol l (dC, dI) (ob_ty cI cZ cR cW) X o om am cI cZ cR cW yX4_lies wsX4_lies yX5_lies wsX5_lies [.int z1, .int z2, .int z3] := by
  rintro u ⟨x, w, q, y, t, h, im⟩ m hv
  obtain ⟨n, ho, hr⟩ := hv.2.2.2.2.2.1
  obtain ⟨r, a1, a2⟩ := pu_lies (x := x) ho hr z1 z2 z3
  exact ⟨r, _, m, bx_lies z1 z2 z3 r a1, ob_mli (fun sz => mt_X5_lies l dC dI cI cZ cR cW X sz om am m z1 z2 z3 r  a2) ⟨by decide, by decide, by decide, by decide⟩, hv⟩
theorem op_ahead (z1 : Int32) : ob_op l (dC, dI) (ob_ty cI cZ cR cW) X o om am cI cZ cR cW yX4_ahead wsX4_ahead yX5_ahead wsX5_ahead [.int z1] := by
  rintro u ⟨x, w, q, y, t, h, im⟩ m hv
  obtain ⟨n, ho, hr⟩ := hv.2.2.2.2.2.1
  obtain ⟨r, t', m', a1, a2, a3⟩ := pu_ahead (x := x) (t := t) ho hr z1
  exact ⟨r, _, m', bx_ahead z1 r t' a1, ob_mi (fun sz => mt_X5_ahead l dC dI cI cZ cR cW X sz om am m z1 r m' a2) ⟨by decide, by decide, by decide, by decide⟩, iv_sm hv a3⟩
theorem op_comesTo (z1 z2 : Int32) : ob_op l (dC, dI) (ob_ty cI cZ cR cW) X o om am cI cZ cR cW yX4_comesTo wsX4_comesTo yX5_comesTo wsX5_comesTo [.int z1, .int z2] := by
  rintro u ⟨x, w, q, y, t, h, im⟩ m hv
  obtain ⟨n, ho, hr⟩ := hv.2.2.2.2.2.1
  obtain ⟨r, t', m', a1, a2, a3⟩ := pu_comesTo (x := x) (t := t) ho hr z1 z2
  exact ⟨r, _, m', bx_comesTo z1 z2 r t' a1, ob_mi (fun sz => mt_X5_comesTo l dC dI cI cZ cR cW X sz om am m z1 z2 r m' a2) ⟨by decide, by decide, by decide, by decide⟩, iv_sm hv a3⟩
theorem op_kept (z1 : Int32) : ob_op l (dC, dI) (ob_ty cI cZ cR cW) X o om am cI cZ cR cW yX4_kept wsX4_kept yX5_kept wsX5_kept [.int z1] := by
  rintro u ⟨x, w, q, y, t, h, im⟩ m hv
  obtain ⟨n, ho, hr⟩ := hv.2.2.2.2.2.1
  obtain ⟨r, t', m', a1, a2, a3⟩ := pu_kept (x := x) (t := t) ho hr z1
  exact ⟨r, _, m', bx_kept z1 r t' a1, ob_mi (fun sz => mt_X5_kept l dC dI cI cZ cR cW X sz om am m z1 r m' a2) ⟨by decide, by decide, by decide, by decide⟩, iv_sm hv a3⟩
theorem op_past (z1 : Int32) : ob_op l (dC, dI) (ob_ty cI cZ cR cW) X o om am cI cZ cR cW yX4_past wsX4_past yX5_past wsX5_past [.int z1] := by
  rintro u ⟨x, w, q, y, t, h, im⟩ m hv
  obtain ⟨n, ho, hr⟩ := hv.2.2.2.2.2.1
  obtain ⟨r, t', m', a1, a2, a3⟩ := pu_past (x := x) (t := t) ho hr z1
  exact ⟨r, _, m', bx_past z1 r t' a1, ob_mi (fun sz => mt_X5_past l dC dI cI cZ cR cW X sz om am m z1 r m' a2) ⟨by decide, by decide, by decide, by decide⟩, iv_sm hv a3⟩
theorem op_visits (z1 : Int32) : ob_op l (dC, dI) (ob_ty cI cZ cR cW) X o om am cI cZ cR cW yX4_visits wsX4_visits yX5_visits wsX5_visits [.int z1] := by
  rintro u ⟨x, w, q, y, t, h, im⟩ m hv
  obtain ⟨n, ho, hr⟩ := hv.2.2.2.2.2.1
  obtain ⟨r, t', m', a1, a2, a3⟩ := pu_visits (x := x) (t := t) ho hr z1
  exact ⟨r, _, m', bx_visits z1 r t' a1, ob_mi (fun sz => mt_X5_visits l dC dI cI cZ cR cW X sz om am m z1 r m' a2) ⟨by decide, by decide, by decide, by decide⟩, iv_sm hv a3⟩
theorem op_rest : ob_op l (dC, dI) (ob_ty cI cZ cR cW) X o om am cI cZ cR cW yX4_rest wsX4_rest yX5_rest wsX5_rest [] := by
  rintro u ⟨x, w, q, y, t, h, im⟩ m hv
  obtain ⟨n, ho, hr⟩ := hv.2.2.2.2.2.1
  obtain ⟨r, t', m', a1, a2, a3⟩ := pu_rest (x := x) (t := t) ho hr 
  exact ⟨r, _, m', bx_rest  r t' a1, ob_mi (fun sz => mt_X5_rest l dC dI cI cZ cR cW X sz om am m  r m' a2) ⟨by decide, by decide, by decide, by decide⟩, iv_sm hv a3⟩
theorem op_least (z1 z2 z3 : Int32) : ob_op l (dC, dI) (ob_ty cI cZ cR cW) X o om am cI cZ cR cW yX4_least wsX4_least yX5_least wsX5_least [.int z1, .int z2, .int z3] := by
  rintro u ⟨x, w, q, y, t, h, im⟩ m hv
  obtain ⟨n, ho, hr⟩ := hv.2.2.2.2.2.1
  obtain ⟨r, t', m', a1, a2, a3⟩ := pu_least (x := x) (t := t) ho hr z1 z2 z3
  exact ⟨r, _, m', bx_least z1 z2 z3 r t' a1, ob_mi (fun sz => mt_X5_least l dC dI cI cZ cR cW X sz om am m z1 z2 z3 r m' a2) ⟨by decide, by decide, by decide, by decide⟩, iv_sm hv a3⟩
theorem op_buyOff (z1 z2 z3 : Int32) : ob_op l (dC, dI) (ob_ty cI cZ cR cW) X o om am cI cZ cR cW yX4_buyOff wsX4_buyOff yX5_buyOff wsX5_buyOff [.int z1, .int z2, .int z3] := by
  rintro u ⟨x, w, q, y, t, h, im⟩ m hv
  obtain ⟨n, ho, hr⟩ := hv.2.2.2.2.2.1
  obtain ⟨r, t', m', a1, a2, a3⟩ := pu_buyOff (x := x) (t := t) ho hr z1 z2 z3
  exact ⟨r, _, m', bx_buyOff z1 z2 z3 r t' a1, ob_mi (fun sz => mt_X5_buyOff l dC dI cI cZ cR cW X sz om am m z1 z2 z3 r m' a2) ⟨by decide, by decide, by decide, by decide⟩, iv_sm hv a3⟩
theorem op_holds (z1 : Int32) : ob_op l (dC, dI) (ob_ty cI cZ cR cW) X o om am cI cZ cR cW yX4_holds wsX4_holds yX5_holds wsX5_holds [.int z1] := by
  rintro u ⟨x, w, q, y, t, h, im⟩ m hv
  obtain ⟨n, ho, hr⟩ := hv.2.2.2.2.2.1
  obtain ⟨r, t', m', a1, a2, a3⟩ := pu_holds (x := x) (t := t) ho hr z1
  exact ⟨r, _, m', bx_holds z1 r t' a1, ob_mi (fun sz => mt_X5_holds l dC dI cI cZ cR cW X sz om am m z1 r m' a2) ⟨by decide, by decide, by decide, by decide⟩, iv_sm hv a3⟩
theorem op_order (z1 : Int32) : ob_op l (dC, dI) (ob_ty cI cZ cR cW) X o om am cI cZ cR cW yX4_order wsX4_order yX5_order wsX5_order [.int z1] := by
  rintro u ⟨x, w, q, y, t, h, im⟩ m hv
  obtain ⟨n, ho, hr⟩ := hv.2.2.2.2.2.1
  obtain ⟨r, t', m', a1, a2, a3⟩ := pu_order (x := x) (t := t) ho hr z1
  exact ⟨r, _, m', bx_order z1 r t' a1, ob_mi (fun sz => mt_X5_order l dC dI cI cZ cR cW X sz om am m z1 r m' a2) ⟨by decide, by decide, by decide, by decide⟩, iv_sm hv a3⟩
theorem op_drawn (z1 z2 z3 : Int32) : ob_op l (dC, dI) (ob_ty cI cZ cR cW) X o om am cI cZ cR cW yX4_drawn wsX4_drawn yX5_drawn wsX5_drawn [.int z1, .int z2, .int z3] := by
  rintro u ⟨x, w, q, y, t, h, im⟩ m hv
  obtain ⟨n, ho, hr⟩ := hv.2.2.2.2.2.1
  obtain ⟨r, t', m', a1, a2, a3⟩ := pu_drawn (x := x) (t := t) ho hr z1 z2 z3
  exact ⟨r, _, m', bx_drawn z1 z2 z3 r t' a1, ob_mi (fun sz => mt_X5_drawn l dC dI cI cZ cR cW X sz om am m z1 z2 z3 r m' a2) ⟨by decide, by decide, by decide, by decide⟩, iv_sm hv a3⟩
theorem op_as (z1 z2 : Int32) : ob_op l (dC, dI) (ob_ty cI cZ cR cW) X o om am cI cZ cR cW yX4_as wsX4_as yX5_as wsX5_as [.int z1, .int z2] := by
  rintro u ⟨x, w, q, y, t, h, im⟩ m hv
  obtain ⟨n, ho, hr⟩ := hv.2.2.2.2.2.1
  obtain ⟨r, x', m', a1, a2, a3⟩ := pu_as ho hr z1 z2 hv.1
  exact ⟨r, _, m', bx_as z1 z2 r x' a1, ob_mi (fun sz => mt_X5_as l dC dI cI cZ cR cW X sz om am m z1 z2 r m' a2) ⟨by decide, by decide, by decide, by decide⟩, iv_kt hv a3⟩
theorem op_ask (z1 z2 : Int32) : ob_op l (dC, dI) (ob_ty cI cZ cR cW) X o om am cI cZ cR cW yX4_ask wsX4_ask yX5_ask wsX5_ask [.int z1, .int z2] := by
  rintro u ⟨x, w, q, y, t, h, im⟩ m hv
  obtain ⟨n, ho, hr⟩ := hv.2.2.2.2.2.1
  obtain ⟨r, x', m', a1, a2, a3, k1, k2, k3, k4⟩ := pu_ask ho hr hv.2.2.1 z1 z2
  refine ⟨r, _, m', bx_ask z1 z2 r x' a1, ob_mi (fun sz => mt_X5_ask l dC dI cI cZ cR cW X sz om am m z1 z2 r m' a2) ⟨by decide, by decide, by decide, by decide⟩, ?_⟩
  obtain ⟨h1, h2, h3, h4, h5, h6, h7, h8⟩ := hv
  exact ⟨(k1 9 (by decide)).trans (h1.trans (k3 3 (by decide)).symm), (k1 8 (by decide)).trans (h2.trans (k3 11 (by decide)).symm), a3, cg_iw h4 (k4 0 (by decide)) (k4 1 (by decide)) (k4 2 (by decide)), cg_tp h5 (k3 4 (by decide)) (k4 5 (by decide)), cg_io h6 (k4 12 (by decide)), cg_hs h7 (k3 18 (by decide)) (k4 17 (by decide)), cg_ii h8 (k4 15 (by decide)) (k4 16 (by decide))⟩
theorem op_feed (z1 : Int32) : ob_op l (dC, dI) (ob_ty cI cZ cR cW) X o om am cI cZ cR cW yX4_feed wsX4_feed yX5_feed wsX5_feed [.int z1] := by
  rintro u ⟨x, w, q, y, t, h, im⟩ m hv
  obtain ⟨r, q', m', a1, a2, a3, k1, k2⟩ := pu_feed (x := x) hv.2.2.2.2.1 z1
  refine ⟨r, _, m', bx_feed z1 r q' a1, ob_mi (fun sz => mt_X5_feed l dC dI cI cZ cR cW X sz om am m z1 r m' a2) ⟨by decide, by decide, by decide, by decide⟩, ?_⟩
  obtain ⟨h1, h2, h3, h4, h5, h6, h7, h8⟩ := hv
  exact ⟨h1.trans (k1 3 (by decide)).symm, h2.trans (k1 11 (by decide)).symm, cg_tc h3 rfl rfl (k1 20 (by decide)) (k2 19 (by decide)), cg_iw h4 (k2 0 (by decide)) (k2 1 (by decide)) (k2 2 (by decide)), a3, cg_io h6 (k2 12 (by decide)), cg_hs h7 (k1 18 (by decide)) (k2 17 (by decide)), cg_ii h8 (k2 15 (by decide)) (k2 16 (by decide))⟩
theorem op_hours (z1 : Int32) : ob_op l (dC, dI) (ob_ty cI cZ cR cW) X o om am cI cZ cR cW yX4_hours wsX4_hours yX5_hours wsX5_hours [.int z1] := by
  rintro u ⟨x, w, q, y, t, h, im⟩ m hv
  obtain ⟨n, ho, hr⟩ := hv.2.2.2.2.2.1
  obtain ⟨r, y', h', m', a1, a2, a3, a4, a5, a6⟩ := pu_hours (x := x) ho hr hv.2.2.2.2.2.2.1 z1
  exact ⟨r, _, m', bx_hours z1 r y' h' a1, ob_mi (fun sz => mt_X5_hours l dC dI cI cZ cR cW X sz om am m z1 r m' a2) ⟨by decide, by decide, by decide, by decide⟩, iv_kd hv a6 ⟨n, a3, a4⟩ a5⟩
theorem op_swear (z1 z2 z3 : Int32) : ob_op l (dC, dI) (ob_ty cI cZ cR cW) X o om am cI cZ cR cW yX4_swear wsX4_swear yX5_swear wsX5_swear [.int z1, .int z2, .int z3] := by
  rintro u ⟨x, w, q, y, t, h, im⟩ m hv
  obtain ⟨n, ho, hr⟩ := hv.2.2.2.2.2.1
  obtain ⟨r, y', h', m', a1, a2, a3, a4, a5, a6⟩ := pu_swear (x := x) ho hr hv.2.2.2.2.2.2.1 z1 z2 z3
  exact ⟨r, _, m', bx_swear z1 z2 z3 r y' h' a1, ob_mi (fun sz => mt_X5_swear l dC dI cI cZ cR cW X sz om am m z1 z2 z3 r m' a2) ⟨by decide, by decide, by decide, by decide⟩, iv_kd hv a6 ⟨n, a3, a4⟩ a5⟩
theorem op_buy (z1 : Int32) : ob_op l (dC, dI) (ob_ty cI cZ cR cW) X o om am cI cZ cR cW yX4_buy wsX4_buy yX5_buy wsX5_buy [.int z1] := by
  rintro u ⟨x, w, q, y, t, h, im⟩ m hv
  obtain ⟨n, ho, hr⟩ := hv.2.2.2.2.2.1
  obtain ⟨r, y', h', m', a1, a2, a3, a4, a5, a6⟩ := pu_buy (x := x) ho hr hv.2.2.2.2.2.2.1 z1
  exact ⟨r, _, m', bx_buy z1 r y' h' a1, ob_mi (fun sz => mt_X5_buy l dC dI cI cZ cR cW X sz om am m z1 r m' a2) ⟨by decide, by decide, by decide, by decide⟩, iv_kd hv a6 ⟨n, a3, a4⟩ a5⟩
theorem op_snow (z1 z2 : Int32) : ob_op l (dC, dI) (ob_ty cI cZ cR cW) X o om am cI cZ cR cW yX4_snow wsX4_snow yX5_snow wsX5_snow [.int z1, .int z2] := by
  rintro u ⟨x, w, q, y, t, h, im⟩ m hv
  obtain ⟨n, ho, hr⟩ := hv.2.2.2.2.2.1
  obtain ⟨r, y', h', m', a1, a2, a3, a4, a5, a6⟩ := pu_snow (x := x) ho hr hv.2.2.2.2.2.2.1 z1 z2
  exact ⟨r, _, m', bx_snow z1 z2 r y' h' a1, ob_mi (fun sz => mt_X5_snow l dC dI cI cZ cR cW X sz om am m z1 z2 r m' a2) ⟨by decide, by decide, by decide, by decide⟩, iv_kd hv a6 ⟨n, a3, a4⟩ a5⟩
theorem op_undo : ob_op l (dC, dI) (ob_ty cI cZ cR cW) X o om am cI cZ cR cW yX4_undo wsX4_undo yX5_undo wsX5_undo [] := by
  rintro u ⟨x, w, q, y, t, h, im⟩ m hv
  obtain ⟨n, ho, hr⟩ := hv.2.2.2.2.2.1
  obtain ⟨r, y', h', m', n', a1, a2, a3, a4, a5, a6⟩ := pu_undo (x := x) ho hr hv.2.2.2.2.2.2.1
  exact ⟨r, _, m', bx_undo r y' h' a1, ob_mi (fun sz => mt_X5_undo l dC dI cI cZ cR cW X sz om am m  r m' a2) ⟨by decide, by decide, by decide, by decide⟩, iv_kd hv a6 ⟨n', a3, a4⟩ a5⟩
theorem op_row (z1 z2 z3 : Int32) : ob_op l (dC, dI) (ob_ty cI cZ cR cW) X o om am cI cZ cR cW yX4_row wsX4_row yX5_row wsX5_row [.int z1, .int z2, .int z3] := by
  rintro u ⟨x, w, q, y, t, h, im⟩ m hv
  obtain ⟨i, hi, hx, hg⟩ := ob_ixr z1
  obtain ⟨r, x', w', m', a1, a2, a3, a4⟩ := pu_row (w := w i) z1 z2 z3 hv.1 (fun j hj e => by have e2 := hx j hj e; subst e2; exact hv.2.2.2.1 i hi)
  exact ⟨r, _, m', bx_row z1 z2 z3 r i hi hg x' w' a1, ob_mi (fun sz => mt_X5_row l dC dI cI cZ cR cW X sz om am m z1 z2 z3 r m' a2) ⟨by decide, by decide, by decide, by decide⟩, iv_k hv hi hx a3 a4 (fun hz => zr_row a1 hz)⟩
theorem op_set (z1 z2 z3 : Int32) : ob_op l (dC, dI) (ob_ty cI cZ cR cW) X o om am cI cZ cR cW yX4_set wsX4_set yX5_set wsX5_set [.int z1, .int z2, .int z3] := by
  rintro u ⟨x, w, q, y, t, h, im⟩ m hv
  obtain ⟨i, hi, hx, hg⟩ := ob_ixr z1
  obtain ⟨r, x', w', m', a1, a2, a3, a4⟩ := pu_set (w := w i) z1 z2 z3 hv.1 (fun j hj e => by have e2 := hx j hj e; subst e2; exact hv.2.2.2.1 i hi)
  exact ⟨r, _, m', bx_set z1 z2 z3 r i hi hg x' w' a1, ob_mi (fun sz => mt_X5_set l dC dI cI cZ cR cW X sz om am m z1 z2 z3 r m' a2) ⟨by decide, by decide, by decide, by decide⟩, iv_k hv hi hx a3 a4 (fun hz => zr_set a1 hz)⟩
theorem op_drop (z1 : Int32) : ob_op l (dC, dI) (ob_ty cI cZ cR cW) X o om am cI cZ cR cW yX4_drop wsX4_drop yX5_drop wsX5_drop [.int z1] := by
  rintro u ⟨x, w, q, y, t, h, im⟩ m hv
  obtain ⟨i, hi, hx, hg⟩ := ob_ixr z1
  obtain ⟨r, x', w', m', a1, a2, a3, a4⟩ := pu_drop (w := w i) z1 hv.1 (fun j hj e => by have e2 := hx j hj e; subst e2; exact hv.2.2.2.1 i hi)
  exact ⟨r, _, m', bx_drop z1 r i hi hg x' w' a1, ob_mi (fun sz => mt_X5_drop l dC dI cI cZ cR cW X sz om am m z1 r m' a2) ⟨by decide, by decide, by decide, by decide⟩, iv_k hv hi hx a3 a4 (fun hz => zr_drop a1 hz)⟩
theorem op_copy (z1 z2 z3 z4 z5 : Int32) : ob_op l (dC, dI) (ob_ty cI cZ cR cW) X o om am cI cZ cR cW yX4_copy wsX4_copy yX5_copy wsX5_copy [.int z1, .int z2, .int z3, .int z4, .int z5] := by
  rintro u ⟨x, w, q, y, t, h, im⟩ m hv
  obtain ⟨i, hi, hx, hg⟩ := ob_ixr z1
  obtain ⟨j, hj, hx2, hg2⟩ := ob_ixr z3
  obtain ⟨r, x', w', m', a1, a2, a3, a4⟩ := pu_copy (w := w i) (v := w j) z1 z2 z3 z4 z5 hv.1 (fun s hs e => by have e2 := hx s hs e; subst e2; exact hv.2.2.2.1 i hi) (fun s hs e => by have e2 := hx2 s hs e; subst e2; exact hv.2.2.2.1 j hj)
  by_cases hij : i = j
  · subst hij
    exact ⟨r, _, m', bx_copyOne z1 z2 z3 z4 z5 r i hi hg hg2 x' w' a1, ob_mi (fun sz => mt_X5_copy l dC dI cI cZ cR cW X sz om am m z1 z2 z3 z4 z5 r m' a2) ⟨by decide, by decide, by decide, by decide⟩, iv_k hv hi hx2 a3 a4 (fun hz => zr_copy a1 hz)⟩
  · exact ⟨r, _, m', bx_copyTwo z1 z2 z3 z4 z5 r i j hi hj hij hg hg2 x' w' a1, ob_mi (fun sz => mt_X5_copy l dC dI cI cZ cR cW X sz om am m z1 z2 z3 z4 z5 r m' a2) ⟨by decide, by decide, by decide, by decide⟩, iv_k hv hj hx2 a3 a4 (fun hz => zr_copy a1 hz)⟩
theorem op_broke (z1 z2 z3 : Int32) : ob_op l (dC, dI) (ob_ty cI cZ cR cW) X o om am cI cZ cR cW yX4_broke wsX4_broke yX5_broke wsX5_broke [.int z1, .int z2, .int z3] := by
  rintro u ⟨x, w, q, y, t, h, im⟩ m hv
  obtain ⟨n, ho, hr⟩ := hv.2.2.2.2.2.1
  obtain ⟨i, hi, hx, hg⟩ := ob_ixr z1
  obtain ⟨r, x', t', m', a1, a2, a3⟩ := pu_broke (w := w i) (t := t) ho hr z1 z2 z3 hv.1 (fun j hj e => by have e2 := hx j hj e; subst e2; exact hv.2.2.2.1 i hi)
  exact ⟨r, _, m', bx_broke z1 z2 z3 r i hi hg x' t' a1, ob_mi (fun sz => mt_X5_broke l dC dI cI cZ cR cW X sz om am m z1 z2 z3 r m' a2) ⟨by decide, by decide, by decide, by decide⟩, iv_kt hv a3⟩
theorem op_sworn (z1 z2 z3 z4 : Int32) : ob_op l (dC, dI) (ob_ty cI cZ cR cW) X o om am cI cZ cR cW yX4_sworn wsX4_sworn yX5_sworn wsX5_sworn [.int z1, .int z2, .int z3, .int z4] := by
  rintro u ⟨x, w, q, y, t, h, im⟩ m hv
  obtain ⟨n, ho, hr⟩ := hv.2.2.2.2.2.1
  obtain ⟨i, hi, hx, hg⟩ := ob_ixr z2
  obtain ⟨r, x', t', m', a1, a2, a3⟩ := pu_sworn (w := w i) (t := t) ho hr z1 z2 z3 z4 hv.1 (fun j hj e => by have e2 := hx j hj e; subst e2; exact hv.2.2.2.1 i hi)
  exact ⟨r, _, m', bx_sworn z1 z2 z3 z4 r i hi hg x' t' a1, ob_mi (fun sz => mt_X5_sworn l dC dI cI cZ cR cW X sz om am m z1 z2 z3 z4 r m' a2) ⟨by decide, by decide, by decide, by decide⟩, iv_kt hv a3⟩
theorem op_who (z1 z2 z3 z4 : Int32) : ob_op l (dC, dI) (ob_ty cI cZ cR cW) X o om am cI cZ cR cW yX4_who wsX4_who yX5_who wsX5_who [.int z1, .int z2, .int z3, .int z4] := by
  rintro u ⟨x, w, q, y, t, h, im⟩ m hv
  obtain ⟨n, ho, hr⟩ := hv.2.2.2.2.2.1
  obtain ⟨i, hi, hx, hg⟩ := ob_ixr z2
  obtain ⟨r, x', t', m', a1, a2, a3⟩ := pu_who (w := w i) (t := t) ho hr z1 z2 z3 z4 hv.1 (fun j hj e => by have e2 := hx j hj e; subst e2; exact hv.2.2.2.1 i hi)
  exact ⟨r, _, m', bx_who z1 z2 z3 z4 r i hi hg x' t' a1, ob_mi (fun sz => mt_X5_who l dC dI cI cZ cR cW X sz om am m z1 z2 z3 z4 r m' a2) ⟨by decide, by decide, by decide, by decide⟩, iv_kt hv a3⟩
theorem op_count (z1 : Int32) : ob_op l (dC, dI) (ob_ty cI cZ cR cW) X o om am cI cZ cR cW yX4_count wsX4_count yX5_count wsX5_count [.int z1] := by
  rintro u ⟨x, w, q, y, t, h, im⟩ m hv
  by_cases hz : z1 = 0
  · subst hz
    obtain ⟨r, a1, a2⟩ := pu_count0 (x := x) w hv.2.2.2.1
    exact ⟨r, _, m, bx_countR 0 r a1, ob_mi (fun sz => mt_X5_count l dC dI cI cZ cR cW X sz om am m 0 r a2) ⟨by decide, by decide, by decide, by decide⟩, hv⟩
  · obtain ⟨n, ho, hr⟩ := hv.2.2.2.2.2.1
    obtain ⟨r, a1, a2⟩ := pu_countN (x := x) w hv.2.2.2.1 ho hr hv.2.2.2.2.2.2.1 hv.2.2.2.2.1 hz
    exact ⟨r, _, m, bx_countN z1 r a1, ob_mi (fun sz => mt_X5_count l dC dI cI cZ cR cW X sz om am m z1 r  a2) ⟨by decide, by decide, by decide, by decide⟩, hv⟩
theorem op_route : ob_op l (dC, dI) (ob_ty cI cZ cR cW) X o om am cI cZ cR cW yX4_route wsX4_route yX5_route wsX5_route [] := by
  rintro u ⟨x, w, q, y, t, h, im⟩ m hv
  obtain ⟨r, x', q', y', t', h', m', a1, a2, a3, k1, k2, k3, k4, k5⟩ := pu_route (x := x) (y := y) (t := t) (hb := h.1) hv.2.2.2.2.1
  refine ⟨r, _, m', bx_route r x' q' y' t' h' a1, ob_mi (fun sz => mt_X5_route l dC dI cI cZ cR cW X sz om am m  r m' a2) ⟨by decide, by decide, by decide, by decide⟩, ?_⟩
  obtain ⟨h1, h2, h3, h4, h5, h6, h7, h8⟩ := hv
  have d3 : ∀ s, s = 3 ∨ s = 20 → m'.1 s = m.1 s := fun s hs => k3 s (by omega) (by omega) (by omega) (by omega) (by omega) (by omega) (by omega) (by omega)
  refine ⟨(k2 9 (by decide)).trans (h1.trans (d3 3 (by omega)).symm), ?_, cg_tc h3 (k2 7 (by decide)) (by rw [k1]) (d3 20 (by omega)) (k4 19 (by decide) (by decide)), cg_iw h4 (k4 0 (by decide) (by decide)) (k4 1 (by decide) (by decide)) (k4 2 (by decide) (by decide)), a3, ?_, ?_, cg_ii h8 (k4 15 (by decide) (by decide)) (k4 16 (by decide) (by decide))⟩
  · rcases k5 with ⟨e1, e2, -⟩ | ⟨e1, -⟩
    · exact e1.trans (h2.trans e2.symm)
    · exact e1
  · rcases k5 with ⟨-, -, -, -, n, e1, e2⟩ | ⟨-, -, -, e1, e2⟩
    · exact ⟨n, e1, e2⟩
    · show ob_io y' m'
      rw [e1]
      exact cg_io h6 e2
  · rcases k5 with ⟨-, -, e1, e2, -⟩ | ⟨-, e1, e2, -⟩
    · show pu_hs (h', h.2) m'
      rw [e2]
      exact ⟨0, 0, by omega, by omega, pu_II _ _ _, e1, (pu_In _ _ (by decide)).trans (pu_II _ _ _), fun k hk => absurd hk (Nat.not_lt_zero _)⟩
    · show pu_hs (h', h.2) m'
      rw [e2]
      exact cg_hs h7 e1 (k4 17 (by decide) (by decide))
theorem op_image (z1 : Int32) : ob_op l (dC, dI) (ob_ty cI cZ cR cW) X o om am cI cZ cR cW yX4_image wsX4_image yX5_image wsX5_image [.int z1] := by
  rintro u ⟨x, w, q, y, t, h, im⟩ m hv
  obtain ⟨n, ho, hr⟩ := hv.2.2.2.2.2.1
  rcases pu_image (x := x) ho hr z1 with ⟨r, a1, a2⟩ | ⟨k, m', hk, ha, a2, b1, ⟨w2, b2, b3⟩, c1, c2, c3, c4, c5, c6⟩
  · exact ⟨r, _, m, bx_imgBad z1 r a1, ob_mi (fun sz => mt_X5_image l dC dI cI cZ cR cW X sz om am m z1 r m a2) ⟨by decide, by decide, by decide, by decide⟩, hv⟩
  have hiv : ∀ w', pu_rr w' (m.2 12) n → ob_iv (x, w, q, y, t, h, va_up im k (some w')) m' := by
    intro w' hw
    obtain ⟨h1, h2, h3, h4, h5, h6, h7, h8⟩ := hv
    refine ⟨by rw [c1]; exact h1, by rw [c1]; exact h2, cg_tc h3 rfl rfl (by rw [c1]) (c2 19 (by decide) (by decide)), cg_iw h4 (c2 0 (by decide) (by decide)) (c2 1 (by decide) (by decide)) (c2 2 (by decide) (by decide)), cg_tp h5 (by rw [c1]) (c2 5 (by decide) (by decide)), cg_io h6 (c2 12 (by decide) (by decide)), cg_hs h7 (by rw [c1]) (c2 17 (by decide) (by decide)), fun j hj => ?_⟩
    show (va_up im k (some w') j = none ∧ _) ∨ ∃ c n, va_up im k (some w') j = some c ∧ _
    by_cases hjk : j = k
    · subst hjk
      rw [va_up_self]
      exact Or.inr ⟨w', n, rfl, c3, pu_ok_cg ho c5, pu_rr_cg ho.1 hw c5⟩
    · rw [va_up_ne _ _ hjk]
      have e : ∀ s, s < 42 → m'.2 15 (42 * j + s) = m.2 15 (42 * j + s) := fun s hs => c6 _ (by omega)
      rcases h8 j hj with ⟨d1, d2⟩ | ⟨c, n', d1, d2, d3, d4⟩
      · exact Or.inl ⟨d1, (c4 j hjk).trans d2⟩
      · exact Or.inr ⟨c, n', d1, (c4 j hjk).trans d2, pu_ok_cg d3 e, pu_rr_cg d3.1 d4 e⟩
  cases hs : im k with
  | none => exact ⟨1, _, m', bx_imgNew z1 1 k hk ha w2 hs b2, ob_mi (fun sz => mt_X5_image l dC dI cI cZ cR cW X sz om am m z1 1 m' a2) ⟨by decide, by decide, by decide, by decide⟩, hiv w2 b3⟩
  | some c =>
    obtain ⟨w', e1, e2⟩ := b1 c
    exact ⟨1, _, m', bx_imgOld z1 1 k hk ha c w' hs e1, ob_mi (fun sz => mt_X5_image l dC dI cI cZ cR cW X sz om am m z1 1 m' a2) ⟨by decide, by decide, by decide, by decide⟩, hiv w' e2⟩
theorem op_restore (z1 : Int32) : ob_op l (dC, dI) (ob_ty cI cZ cR cW) X o om am cI cZ cR cW yX4_restore wsX4_restore yX5_restore wsX5_restore [.int z1] := by
  rintro u ⟨x, w, q, y, t, h, im⟩ m hv
  rcases pu_restore (x := x) (m := m) z1 with ⟨a1, a2⟩ | ⟨k, hk, ha, b0, b1⟩
  · have hn : ¬ (z1 < 0 ∨ 2 ≤ Int32.toNatClampNeg z1) → ob_hg im u.2.2.2.2.2.2.2 (Int32.toNatClampNeg z1) = none := fun hz => by
      exfalso
      obtain ⟨p, hp, rfl⟩ := pu_nn (fun q => hz (Or.inl q))
      have hp2 : p < 2 := by
        have := Nat.not_le.mp (fun q => hz (Or.inr q))
        rw [pu_cl hp] at this
        exact this
      have : p = 0 ∨ p = 1 := by omega
      rcases this with rfl | rfl
      · exact absurd ((show fd_X4_resNone x (nI 0) = some (-1000002) from rfl).symm.trans a1) (by decide)
      · exact absurd ((show fd_X4_resNone x (nI 1) = some (-1000002) from rfl).symm.trans a1) (by decide)
    exact ⟨_, _, m, bx_resNone z1 _ hn a1, ob_mi (fun sz => mt_X5_restore l dC dI cI cZ cR cW X sz om am m z1 _ m a2) ⟨by decide, by decide, by decide, by decide⟩, hv⟩
  · rcases hv.2.2.2.2.2.2.2 k hk with ⟨d1, d2⟩ | ⟨c, n', d1, d2, d3, d4⟩
    · obtain ⟨a1, a2⟩ := b0 d2
      exact ⟨_, _, m, bx_resNone z1 _ (ob_hgN d1 hk ha) a1, ob_mi (fun sz => mt_X5_restore l dC dI cI cZ cR cW X sz om am m z1 _ m a2) ⟨by decide, by decide, by decide, by decide⟩, hv⟩
    · obtain ⟨m', a2, c0, c1, c2, c3, c4⟩ := b1 d2
      obtain ⟨y', h', a1, e1, e2⟩ := c0 y c h.1
      refine ⟨1, _, m', bx_resOld z1 1 k hk ha c y' h' d1 a1, ob_mi (fun sz => mt_X5_restore l dC dI cI cZ cR cW X sz om am m z1 1 m' a2) ⟨by decide, by decide, by decide, by decide⟩, ?_⟩
      obtain ⟨h1, h2, h3, h4, h5, h6, h7, h8⟩ := hv
      have eh : h' = ob_I (ob_I h.1 1 0) 2 0 := (Option.some.inj e1).symm
      refine ⟨h1.trans (c2 3 (by decide)).symm, h2.trans (c2 11 (by decide)).symm, cg_tc h3 rfl rfl (c2 20 (by decide)) (c3 19 (by decide)), cg_iw h4 (c3 0 (by decide)) (c3 1 (by decide)) (c3 2 (by decide)), cg_tp h5 (c2 4 (by decide)) (c3 5 (by decide)), ⟨n', pu_ok_cg d3 c4, pu_rr_cg d3.1 (e2 _ _ d3.1 d4) c4⟩, ?_, cg_ii h8 (c3 15 (by decide)) (c3 16 (by decide))⟩
      show pu_hs (h', h.2) m'
      rw [eh]
      exact ⟨0, 0, by omega, by omega, pu_II _ _ _, c1, (pu_In _ _ (by decide)).trans (pu_II _ _ _), fun k hk => absurd hk (Nat.not_lt_zero _)⟩
end OP
