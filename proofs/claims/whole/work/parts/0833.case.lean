set_option maxHeartbeats 1000000 in
set_option maxRecDepth 20000 in
theorem lc_20 {p : Program} {l : Launch} {e : Env} {s : State} {m : MethodId} {below : List Frame} {meth : Method} {c : Code} {H : Heap} {locs : List Loc} {cells slots : Nat} {Q : State → Prop} {ls : Array Slot} {b L : Nat} {xs : Nat → Int32} {dC : Nat → ClassId} {dI : Nat → Nat → Nat} {cI cZ cR cW : ClassId} {X : Nat → Nat} {o om : Nat} {am : Nat → Nat} {u : ob_AX} {S : ob_SX} {mm : ob_B} {i : Nat} (C : lw_K p s m c b L xs (dC, dI) cI cZ cR cW X) (hiv : ob_iv S mm) (hP : va_P (dC, dI) vwCl (ob_wx o cI cR cW u S ++ ob_w5 om am cI cZ mm) H) (hD : va_D (fun q : Nat => s.heap.size ≤ q) (ob_wx o cI cR cW u S ++ ob_w5 om am cI cZ mm)) (hS : va_S (fun q : Nat => s.heap.size ≤ q) s.heap H locs) (hl : lv_has ls 4 [(0, .ref b), (1, .ref o), (2, .ref om), (3, .int (nI i))]) (hi : i + 6 ≤ L) (hL : L ≤ 384) (hcs : cells + 300 ≤ 600000 ∧ slots + 2350 ≤ 7302250)
    (kk : ∀ (u' : ob_AX) (S' : ob_SX) (m' : ob_B) (H1 : Heap) (locs1 : List Loc), ob_iv S' m' → va_P (dC, dI) vwCl (ob_wx o cI cR cW u' S' ++ ob_w5 om am cI cZ m') H1 → va_D (fun q : Nat => s.heap.size ≤ q) (ob_wx o cI cR cW u' S' ++ ob_w5 om am cI cZ m') → va_S (fun q : Nat => s.heap.size ≤ q) s.heap H1 locs1 → W p l e room_1 s m #[Value.ref b] below meth c H1 locs1 (cells + 300) (slots + 2350) Q (F0 m 1335 ls [])) : W p l e room_1 s m #[Value.ref b] below meth c H locs cells slots Q (F0 m 750 ls []) := by
  obtain ⟨hx, hb, -, -, hts, -⟩ := id C
  obtain ⟨r, S', m', hX, hM, hv⟩ := op_least (l := l) (dC := dC) (dI := dI) (cI := cI) (cZ := cZ) (cR := cR) (cW := cW) (X := X) (o := o) (om := om) (am := am) (xs (i + 1)) (xs (i + 2)) (xs (i + 3)) u S mm hiv
  refine lv_aload_n hx hb dL_law_750 rfl (lv_at hl 1 rfl) ?_
  refine lw_arg (k := 1) C hS hl hi hL (by decide) rfl dL_law_751 dL_law_752 dL_law_753 dL_law_754 dL_law_755 ?_
  refine lw_arg (k := 2) C hS hl hi hL (by decide) rfl dL_law_756 dL_law_757 dL_law_758 dL_law_759 dL_law_760 ?_
  refine lw_arg (k := 3) C hS hl hi hL (by decide) rfl dL_law_761 dL_law_762 dL_law_763 dL_law_764 dL_law_765 ?_
  refine lw_x C hX (fun rm h1 h2 => cwV 3 hts gL_law_X4_least rfl rfl rfl (by decide +kernel) ⟨show rm.frames + 1 ≤ 2048 by omega, show 8 + (5 + 11) + rm.locals ≤ 84000 by omega⟩) hP hD hS hl rfl ⟨by omega, by omega⟩ rfl dL_law_766 (fun u' H locs hP hD hS => ?_)
  refine lv_aload_n hx hb dL_law_769 rfl (lv_at hl 2 rfl) ?_
  refine lw_arg (k := 1) C hS hl hi hL (by decide) rfl dL_law_770 dL_law_771 dL_law_772 dL_law_773 dL_law_774 ?_
  refine lw_arg (k := 2) C hS hl hi hL (by decide) rfl dL_law_775 dL_law_776 dL_law_777 dL_law_778 dL_law_779 ?_
  refine lw_arg (k := 3) C hS hl hi hL (by decide) rfl dL_law_780 dL_law_781 dL_law_782 dL_law_783 dL_law_784 ?_
  refine lw_m (rest := [.int r]) C hM (fun rm h1 h2 => cwV 3 hts gL_law_X5_least rfl rfl rfl (by decide +kernel) ⟨show rm.frames + 1 ≤ 2048 by omega, show 8 + (5 + 11) + rm.locals ≤ 84000 by omega⟩) hP hD hS hl rfl ⟨by omega, by omega⟩ (Nat.le_of_ble_eq_true rfl) rfl dL_law_785 (fun H locs hP hD hS => ?_)
  refine lv_icmp_eq (tgt := 1335) hx hb dL_law_788 (by decide) (fun _ => ?_) (fun hc => absurd rfl hc)
  exact W.widen (k := cells + 300) (n := slots + 2350) (by omega) (by omega) (kk u' S' m' H locs hv hP hD hS)
set_option maxHeartbeats 1000000 in
set_option maxRecDepth 20000 in
theorem lc_21 {p : Program} {l : Launch} {e : Env} {s : State} {m : MethodId} {below : List Frame} {meth : Method} {c : Code} {H : Heap} {locs : List Loc} {cells slots : Nat} {Q : State → Prop} {ls : Array Slot} {b L : Nat} {xs : Nat → Int32} {dC : Nat → ClassId} {dI : Nat → Nat → Nat} {cI cZ cR cW : ClassId} {X : Nat → Nat} {o om : Nat} {am : Nat → Nat} {u : ob_AX} {S : ob_SX} {mm : ob_B} {i : Nat} (C : lw_K p s m c b L xs (dC, dI) cI cZ cR cW X) (hiv : ob_iv S mm) (hP : va_P (dC, dI) vwCl (ob_wx o cI cR cW u S ++ ob_w5 om am cI cZ mm) H) (hD : va_D (fun q : Nat => s.heap.size ≤ q) (ob_wx o cI cR cW u S ++ ob_w5 om am cI cZ mm)) (hS : va_S (fun q : Nat => s.heap.size ≤ q) s.heap H locs) (hl : lv_has ls 4 [(0, .ref b), (1, .ref o), (2, .ref om), (3, .int (nI i))]) (hi : i + 6 ≤ L) (hL : L ≤ 384) (hcs : cells + 300 ≤ 600000 ∧ slots + 2350 ≤ 7302250)
    (kk : ∀ (u' : ob_AX) (S' : ob_SX) (m' : ob_B) (H1 : Heap) (locs1 : List Loc), ob_iv S' m' → va_P (dC, dI) vwCl (ob_wx o cI cR cW u' S' ++ ob_w5 om am cI cZ m') H1 → va_D (fun q : Nat => s.heap.size ≤ q) (ob_wx o cI cR cW u' S' ++ ob_w5 om am cI cZ m') → va_S (fun q : Nat => s.heap.size ≤ q) s.heap H1 locs1 → W p l e room_1 s m #[Value.ref b] below meth c H1 locs1 (cells + 300) (slots + 2350) Q (F0 m 1335 ls [])) : W p l e room_1 s m #[Value.ref b] below meth c H locs cells slots Q (F0 m 793 ls []) := by
  obtain ⟨hx, hb, -, -, hts, -⟩ := id C
  obtain ⟨r, S', m', hX, hM, hv⟩ := op_buyOff (l := l) (dC := dC) (dI := dI) (cI := cI) (cZ := cZ) (cR := cR) (cW := cW) (X := X) (o := o) (om := om) (am := am) (xs (i + 1)) (xs (i + 2)) (xs (i + 3)) u S mm hiv
  refine lv_aload_n hx hb dL_law_793 rfl (lv_at hl 1 rfl) ?_
  refine lw_arg (k := 1) C hS hl hi hL (by decide) rfl dL_law_794 dL_law_795 dL_law_796 dL_law_797 dL_law_798 ?_
  refine lw_arg (k := 2) C hS hl hi hL (by decide) rfl dL_law_799 dL_law_800 dL_law_801 dL_law_802 dL_law_803 ?_
  refine lw_arg (k := 3) C hS hl hi hL (by decide) rfl dL_law_804 dL_law_805 dL_law_806 dL_law_807 dL_law_808 ?_
  refine lw_x C hX (fun rm h1 h2 => cwV 3 hts gL_law_X4_buyOff rfl rfl rfl (by decide +kernel) ⟨show rm.frames + 1 ≤ 2048 by omega, show 8 + (9 + 11) + rm.locals ≤ 84000 by omega⟩) hP hD hS hl rfl ⟨by omega, by omega⟩ rfl dL_law_809 (fun u' H locs hP hD hS => ?_)
  refine lv_aload_n hx hb dL_law_812 rfl (lv_at hl 2 rfl) ?_
  refine lw_arg (k := 1) C hS hl hi hL (by decide) rfl dL_law_813 dL_law_814 dL_law_815 dL_law_816 dL_law_817 ?_
  refine lw_arg (k := 2) C hS hl hi hL (by decide) rfl dL_law_818 dL_law_819 dL_law_820 dL_law_821 dL_law_822 ?_
  refine lw_arg (k := 3) C hS hl hi hL (by decide) rfl dL_law_823 dL_law_824 dL_law_825 dL_law_826 dL_law_827 ?_
  refine lw_m (rest := [.int r]) C hM (fun rm h1 h2 => cwV 3 hts gL_law_X5_buyOff rfl rfl rfl (by decide +kernel) ⟨show rm.frames + 1 ≤ 2048 by omega, show 8 + (7 + 11) + rm.locals ≤ 84000 by omega⟩) hP hD hS hl rfl ⟨by omega, by omega⟩ (Nat.le_of_ble_eq_true rfl) rfl dL_law_828 (fun H locs hP hD hS => ?_)
  refine lv_icmp_eq (tgt := 1335) hx hb dL_law_831 (by decide) (fun _ => ?_) (fun hc => absurd rfl hc)
  exact W.widen (k := cells + 300) (n := slots + 2350) (by omega) (by omega) (kk u' S' m' H locs hv hP hD hS)
set_option maxHeartbeats 1000000 in
set_option maxRecDepth 20000 in
theorem lc_22 {p : Program} {l : Launch} {e : Env} {s : State} {m : MethodId} {below : List Frame} {meth : Method} {c : Code} {H : Heap} {locs : List Loc} {cells slots : Nat} {Q : State → Prop} {ls : Array Slot} {b L : Nat} {xs : Nat → Int32} {dC : Nat → ClassId} {dI : Nat → Nat → Nat} {cI cZ cR cW : ClassId} {X : Nat → Nat} {o om : Nat} {am : Nat → Nat} {u : ob_AX} {S : ob_SX} {mm : ob_B} {i : Nat} (C : lw_K p s m c b L xs (dC, dI) cI cZ cR cW X) (hiv : ob_iv S mm) (hP : va_P (dC, dI) vwCl (ob_wx o cI cR cW u S ++ ob_w5 om am cI cZ mm) H) (hD : va_D (fun q : Nat => s.heap.size ≤ q) (ob_wx o cI cR cW u S ++ ob_w5 om am cI cZ mm)) (hS : va_S (fun q : Nat => s.heap.size ≤ q) s.heap H locs) (hl : lv_has ls 4 [(0, .ref b), (1, .ref o), (2, .ref om), (3, .int (nI i))]) (hi : i + 6 ≤ L) (hL : L ≤ 384) (hcs : cells + 300 ≤ 600000 ∧ slots + 2350 ≤ 7302250)
    (kk : ∀ (u' : ob_AX) (S' : ob_SX) (m' : ob_B) (H1 : Heap) (locs1 : List Loc), ob_iv S' m' → va_P (dC, dI) vwCl (ob_wx o cI cR cW u' S' ++ ob_w5 om am cI cZ m') H1 → va_D (fun q : Nat => s.heap.size ≤ q) (ob_wx o cI cR cW u' S' ++ ob_w5 om am cI cZ m') → va_S (fun q : Nat => s.heap.size ≤ q) s.heap H1 locs1 → W p l e room_1 s m #[Value.ref b] below meth c H1 locs1 (cells + 300) (slots + 2350) Q (F0 m 1335 ls [])) : W p l e room_1 s m #[Value.ref b] below meth c H locs cells slots Q (F0 m 836 ls []) := by
  obtain ⟨hx, hb, -, -, hts, -⟩ := id C
  obtain ⟨r, S', m', hX, hM, hv⟩ := op_holds (l := l) (dC := dC) (dI := dI) (cI := cI) (cZ := cZ) (cR := cR) (cW := cW) (X := X) (o := o) (om := om) (am := am) (xs (i + 1)) u S mm hiv
  refine lv_aload_n hx hb dL_law_836 rfl (lv_at hl 1 rfl) ?_
  refine lw_arg (k := 1) C hS hl hi hL (by decide) rfl dL_law_837 dL_law_838 dL_law_839 dL_law_840 dL_law_841 ?_
  refine lw_x C hX (fun rm h1 h2 => cwV 1 hts gL_law_X4_holds rfl rfl rfl (by decide +kernel) ⟨show rm.frames + 1 ≤ 2048 by omega, show 8 + (7 + 11) + rm.locals ≤ 84000 by omega⟩) hP hD hS hl rfl ⟨by omega, by omega⟩ rfl dL_law_842 (fun u' H locs hP hD hS => ?_)
  refine lv_aload_n hx hb dL_law_845 rfl (lv_at hl 2 rfl) ?_
  refine lw_arg (k := 1) C hS hl hi hL (by decide) rfl dL_law_846 dL_law_847 dL_law_848 dL_law_849 dL_law_850 ?_
  refine lw_m (rest := [.int r]) C hM (fun rm h1 h2 => cwV 1 hts gL_law_X5_holds rfl rfl rfl (by decide +kernel) ⟨show rm.frames + 1 ≤ 2048 by omega, show 8 + (5 + 11) + rm.locals ≤ 84000 by omega⟩) hP hD hS hl rfl ⟨by omega, by omega⟩ (Nat.le_of_ble_eq_true rfl) rfl dL_law_851 (fun H locs hP hD hS => ?_)
  refine lv_icmp_eq (tgt := 1335) hx hb dL_law_854 (by decide) (fun _ => ?_) (fun hc => absurd rfl hc)
  exact W.widen (k := cells + 300) (n := slots + 2350) (by omega) (by omega) (kk u' S' m' H locs hv hP hD hS)
set_option maxHeartbeats 1000000 in
set_option maxRecDepth 20000 in
theorem lc_23 {p : Program} {l : Launch} {e : Env} {s : State} {m : MethodId} {below : List Frame} {meth : Method} {c : Code} {H : Heap} {locs : List Loc} {cells slots : Nat} {Q : State → Prop} {ls : Array Slot} {b L : Nat} {xs : Nat → Int32} {dC : Nat → ClassId} {dI : Nat → Nat → Nat} {cI cZ cR cW : ClassId} {X : Nat → Nat} {o om : Nat} {am : Nat → Nat} {u : ob_AX} {S : ob_SX} {mm : ob_B} {i : Nat} (C : lw_K p s m c b L xs (dC, dI) cI cZ cR cW X) (hiv : ob_iv S mm) (hP : va_P (dC, dI) vwCl (ob_wx o cI cR cW u S ++ ob_w5 om am cI cZ mm) H) (hD : va_D (fun q : Nat => s.heap.size ≤ q) (ob_wx o cI cR cW u S ++ ob_w5 om am cI cZ mm)) (hS : va_S (fun q : Nat => s.heap.size ≤ q) s.heap H locs) (hl : lv_has ls 4 [(0, .ref b), (1, .ref o), (2, .ref om), (3, .int (nI i))]) (hi : i + 6 ≤ L) (hL : L ≤ 384) (hcs : cells + 300 ≤ 600000 ∧ slots + 2350 ≤ 7302250)
    (kk : ∀ (u' : ob_AX) (S' : ob_SX) (m' : ob_B) (H1 : Heap) (locs1 : List Loc), ob_iv S' m' → va_P (dC, dI) vwCl (ob_wx o cI cR cW u' S' ++ ob_w5 om am cI cZ m') H1 → va_D (fun q : Nat => s.heap.size ≤ q) (ob_wx o cI cR cW u' S' ++ ob_w5 om am cI cZ m') → va_S (fun q : Nat => s.heap.size ≤ q) s.heap H1 locs1 → W p l e room_1 s m #[Value.ref b] below meth c H1 locs1 (cells + 300) (slots + 2350) Q (F0 m 1335 ls [])) : W p l e room_1 s m #[Value.ref b] below meth c H locs cells slots Q (F0 m 859 ls []) := by
  obtain ⟨hx, hb, -, -, hts, -⟩ := id C
  obtain ⟨r, S', m', hX, hM, hv⟩ := op_broke (l := l) (dC := dC) (dI := dI) (cI := cI) (cZ := cZ) (cR := cR) (cW := cW) (X := X) (o := o) (om := om) (am := am) (xs (i + 1)) (xs (i + 2)) (xs (i + 3)) u S mm hiv
  refine lv_aload_n hx hb dL_law_859 rfl (lv_at hl 1 rfl) ?_
  refine lw_arg (k := 1) C hS hl hi hL (by decide) rfl dL_law_860 dL_law_861 dL_law_862 dL_law_863 dL_law_864 ?_
  refine lw_arg (k := 2) C hS hl hi hL (by decide) rfl dL_law_865 dL_law_866 dL_law_867 dL_law_868 dL_law_869 ?_
  refine lw_arg (k := 3) C hS hl hi hL (by decide) rfl dL_law_870 dL_law_871 dL_law_872 dL_law_873 dL_law_874 ?_
  refine lw_x C hX (fun rm h1 h2 => cwV 3 hts gL_law_X4_broke rfl rfl rfl (by decide +kernel) ⟨show rm.frames + 1 ≤ 2048 by omega, show 8 + (7 + 11) + rm.locals ≤ 84000 by omega⟩) hP hD hS hl rfl ⟨by omega, by omega⟩ rfl dL_law_875 (fun u' H locs hP hD hS => ?_)
  refine lv_aload_n hx hb dL_law_878 rfl (lv_at hl 2 rfl) ?_
  refine lw_arg (k := 1) C hS hl hi hL (by decide) rfl dL_law_879 dL_law_880 dL_law_881 dL_law_882 dL_law_883 ?_
  refine lw_arg (k := 2) C hS hl hi hL (by decide) rfl dL_law_884 dL_law_885 dL_law_886 dL_law_887 dL_law_888 ?_
  refine lw_arg (k := 3) C hS hl hi hL (by decide) rfl dL_law_889 dL_law_890 dL_law_891 dL_law_892 dL_law_893 ?_
  refine lw_m (rest := [.int r]) C hM (fun rm h1 h2 => cwV 3 hts gL_law_X5_broke rfl rfl rfl (by decide +kernel) ⟨show rm.frames + 1 ≤ 2048 by omega, show 8 + (7 + 11) + rm.locals ≤ 84000 by omega⟩) hP hD hS hl rfl ⟨by omega, by omega⟩ (Nat.le_of_ble_eq_true rfl) rfl dL_law_894 (fun H locs hP hD hS => ?_)
  refine lv_icmp_eq (tgt := 1335) hx hb dL_law_897 (by decide) (fun _ => ?_) (fun hc => absurd rfl hc)
  exact W.widen (k := cells + 300) (n := slots + 2350) (by omega) (by omega) (kk u' S' m' H locs hv hP hD hS)
set_option maxHeartbeats 1000000 in
set_option maxRecDepth 20000 in
theorem lc_24 {p : Program} {l : Launch} {e : Env} {s : State} {m : MethodId} {below : List Frame} {meth : Method} {c : Code} {H : Heap} {locs : List Loc} {cells slots : Nat} {Q : State → Prop} {ls : Array Slot} {b L : Nat} {xs : Nat → Int32} {dC : Nat → ClassId} {dI : Nat → Nat → Nat} {cI cZ cR cW : ClassId} {X : Nat → Nat} {o om : Nat} {am : Nat → Nat} {u : ob_AX} {S : ob_SX} {mm : ob_B} {i : Nat} (C : lw_K p s m c b L xs (dC, dI) cI cZ cR cW X) (hiv : ob_iv S mm) (hP : va_P (dC, dI) vwCl (ob_wx o cI cR cW u S ++ ob_w5 om am cI cZ mm) H) (hD : va_D (fun q : Nat => s.heap.size ≤ q) (ob_wx o cI cR cW u S ++ ob_w5 om am cI cZ mm)) (hS : va_S (fun q : Nat => s.heap.size ≤ q) s.heap H locs) (hl : lv_has ls 4 [(0, .ref b), (1, .ref o), (2, .ref om), (3, .int (nI i))]) (hi : i + 6 ≤ L) (hL : L ≤ 384) (hcs : cells + 300 ≤ 600000 ∧ slots + 2350 ≤ 7302250)
    (kk : ∀ (u' : ob_AX) (S' : ob_SX) (m' : ob_B) (H1 : Heap) (locs1 : List Loc), ob_iv S' m' → va_P (dC, dI) vwCl (ob_wx o cI cR cW u' S' ++ ob_w5 om am cI cZ m') H1 → va_D (fun q : Nat => s.heap.size ≤ q) (ob_wx o cI cR cW u' S' ++ ob_w5 om am cI cZ m') → va_S (fun q : Nat => s.heap.size ≤ q) s.heap H1 locs1 → W p l e room_1 s m #[Value.ref b] below meth c H1 locs1 (cells + 300) (slots + 2350) Q (F0 m 1335 ls [])) : W p l e room_1 s m #[Value.ref b] below meth c H locs cells slots Q (F0 m 902 ls []) := by
  obtain ⟨hx, hb, -, -, hts, -⟩ := id C
  obtain ⟨r, S', m', hX, hM, hv⟩ := op_sworn (l := l) (dC := dC) (dI := dI) (cI := cI) (cZ := cZ) (cR := cR) (cW := cW) (X := X) (o := o) (om := om) (am := am) (xs (i + 1)) (xs (i + 2)) (xs (i + 3)) (xs (i + 4)) u S mm hiv
  refine lv_aload_n hx hb dL_law_902 rfl (lv_at hl 1 rfl) ?_
  refine lw_arg (k := 1) C hS hl hi hL (by decide) rfl dL_law_903 dL_law_904 dL_law_905 dL_law_906 dL_law_907 ?_
  refine lw_arg (k := 2) C hS hl hi hL (by decide) rfl dL_law_908 dL_law_909 dL_law_910 dL_law_911 dL_law_912 ?_
  refine lw_arg (k := 3) C hS hl hi hL (by decide) rfl dL_law_913 dL_law_914 dL_law_915 dL_law_916 dL_law_917 ?_
  refine lw_arg (k := 4) C hS hl hi hL (by decide) rfl dL_law_918 dL_law_919 dL_law_920 dL_law_921 dL_law_922 ?_
  refine lw_x C hX (fun rm h1 h2 => cwV 4 hts gL_law_X4_sworn rfl rfl rfl (by decide +kernel) ⟨show rm.frames + 1 ≤ 2048 by omega, show 8 + (8 + 11) + rm.locals ≤ 84000 by omega⟩) hP hD hS hl rfl ⟨by omega, by omega⟩ rfl dL_law_923 (fun u' H locs hP hD hS => ?_)
  refine lv_aload_n hx hb dL_law_926 rfl (lv_at hl 2 rfl) ?_
  refine lw_arg (k := 1) C hS hl hi hL (by decide) rfl dL_law_927 dL_law_928 dL_law_929 dL_law_930 dL_law_931 ?_
  refine lw_arg (k := 2) C hS hl hi hL (by decide) rfl dL_law_932 dL_law_933 dL_law_934 dL_law_935 dL_law_936 ?_
  refine lw_arg (k := 3) C hS hl hi hL (by decide) rfl dL_law_937 dL_law_938 dL_law_939 dL_law_940 dL_law_941 ?_
  refine lw_arg (k := 4) C hS hl hi hL (by decide) rfl dL_law_942 dL_law_943 dL_law_944 dL_law_945 dL_law_946 ?_
  refine lw_m (rest := [.int r]) C hM (fun rm h1 h2 => cwV 4 hts gL_law_X5_sworn rfl rfl rfl (by decide +kernel) ⟨show rm.frames + 1 ≤ 2048 by omega, show 8 + (8 + 11) + rm.locals ≤ 84000 by omega⟩) hP hD hS hl rfl ⟨by omega, by omega⟩ (Nat.le_of_ble_eq_true rfl) rfl dL_law_947 (fun H locs hP hD hS => ?_)
  refine lv_icmp_eq (tgt := 1335) hx hb dL_law_950 (by decide) (fun _ => ?_) (fun hc => absurd rfl hc)
  exact W.widen (k := cells + 300) (n := slots + 2350) (by omega) (by omega) (kk u' S' m' H locs hv hP hD hS)
set_option maxHeartbeats 1000000 in
set_option maxRecDepth 20000 in
theorem lc_25 {p : Program} {l : Launch} {e : Env} {s : State} {m : MethodId} {below : List Frame} {meth : Method} {c : Code} {H : Heap} {locs : List Loc} {cells slots : Nat} {Q : State → Prop} {ls : Array Slot} {b L : Nat} {xs : Nat → Int32} {dC : Nat → ClassId} {dI : Nat → Nat → Nat} {cI cZ cR cW : ClassId} {X : Nat → Nat} {o om : Nat} {am : Nat → Nat} {u : ob_AX} {S : ob_SX} {mm : ob_B} {i : Nat} (C : lw_K p s m c b L xs (dC, dI) cI cZ cR cW X) (hiv : ob_iv S mm) (hP : va_P (dC, dI) vwCl (ob_wx o cI cR cW u S ++ ob_w5 om am cI cZ mm) H) (hD : va_D (fun q : Nat => s.heap.size ≤ q) (ob_wx o cI cR cW u S ++ ob_w5 om am cI cZ mm)) (hS : va_S (fun q : Nat => s.heap.size ≤ q) s.heap H locs) (hl : lv_has ls 4 [(0, .ref b), (1, .ref o), (2, .ref om), (3, .int (nI i))]) (hi : i + 6 ≤ L) (hL : L ≤ 384) (hcs : cells + 300 ≤ 600000 ∧ slots + 2350 ≤ 7302250)
    (kk : ∀ (u' : ob_AX) (S' : ob_SX) (m' : ob_B) (H1 : Heap) (locs1 : List Loc), ob_iv S' m' → va_P (dC, dI) vwCl (ob_wx o cI cR cW u' S' ++ ob_w5 om am cI cZ m') H1 → va_D (fun q : Nat => s.heap.size ≤ q) (ob_wx o cI cR cW u' S' ++ ob_w5 om am cI cZ m') → va_S (fun q : Nat => s.heap.size ≤ q) s.heap H1 locs1 → W p l e room_1 s m #[Value.ref b] below meth c H1 locs1 (cells + 300) (slots + 2350) Q (F0 m 1335 ls [])) : W p l e room_1 s m #[Value.ref b] below meth c H locs cells slots Q (F0 m 955 ls []) := by
  obtain ⟨hx, hb, -, -, hts, -⟩ := id C
  obtain ⟨r, S', m', hX, hM, hv⟩ := op_who (l := l) (dC := dC) (dI := dI) (cI := cI) (cZ := cZ) (cR := cR) (cW := cW) (X := X) (o := o) (om := om) (am := am) (xs (i + 1)) (xs (i + 2)) (xs (i + 3)) (xs (i + 4)) u S mm hiv
  refine lv_aload_n hx hb dL_law_955 rfl (lv_at hl 1 rfl) ?_
  refine lw_arg (k := 1) C hS hl hi hL (by decide) rfl dL_law_956 dL_law_957 dL_law_958 dL_law_959 dL_law_960 ?_
  refine lw_arg (k := 2) C hS hl hi hL (by decide) rfl dL_law_961 dL_law_962 dL_law_963 dL_law_964 dL_law_965 ?_
  refine lw_arg (k := 3) C hS hl hi hL (by decide) rfl dL_law_966 dL_law_967 dL_law_968 dL_law_969 dL_law_970 ?_
  refine lw_arg (k := 4) C hS hl hi hL (by decide) rfl dL_law_971 dL_law_972 dL_law_973 dL_law_974 dL_law_975 ?_
  refine lw_x C hX (fun rm h1 h2 => cwV 4 hts gL_law_X4_who rfl rfl rfl (by decide +kernel) ⟨show rm.frames + 1 ≤ 2048 by omega, show 8 + (8 + 11) + rm.locals ≤ 84000 by omega⟩) hP hD hS hl rfl ⟨by omega, by omega⟩ rfl dL_law_976 (fun u' H locs hP hD hS => ?_)
  refine lv_aload_n hx hb dL_law_979 rfl (lv_at hl 2 rfl) ?_
  refine lw_arg (k := 1) C hS hl hi hL (by decide) rfl dL_law_980 dL_law_981 dL_law_982 dL_law_983 dL_law_984 ?_
  refine lw_arg (k := 2) C hS hl hi hL (by decide) rfl dL_law_985 dL_law_986 dL_law_987 dL_law_988 dL_law_989 ?_
  refine lw_arg (k := 3) C hS hl hi hL (by decide) rfl dL_law_990 dL_law_991 dL_law_992 dL_law_993 dL_law_994 ?_
  refine lw_arg (k := 4) C hS hl hi hL (by decide) rfl dL_law_995 dL_law_996 dL_law_997 dL_law_998 dL_law_999 ?_
  refine lw_m (rest := [.int r]) C hM (fun rm h1 h2 => cwV 4 hts gL_law_X5_who rfl rfl rfl (by decide +kernel) ⟨show rm.frames + 1 ≤ 2048 by omega, show 8 + (8 + 11) + rm.locals ≤ 84000 by omega⟩) hP hD hS hl rfl ⟨by omega, by omega⟩ (Nat.le_of_ble_eq_true rfl) rfl dL_law_1000 (fun H locs hP hD hS => ?_)
  refine lv_icmp_eq (tgt := 1335) hx hb dL_law_1003 (by decide) (fun _ => ?_) (fun hc => absurd rfl hc)
  exact W.widen (k := cells + 300) (n := slots + 2350) (by omega) (by omega) (kk u' S' m' H locs hv hP hD hS)
set_option maxHeartbeats 1000000 in
set_option maxRecDepth 20000 in
theorem lc_26 {p : Program} {l : Launch} {e : Env} {s : State} {m : MethodId} {below : List Frame} {meth : Method} {c : Code} {H : Heap} {locs : List Loc} {cells slots : Nat} {Q : State → Prop} {ls : Array Slot} {b L : Nat} {xs : Nat → Int32} {dC : Nat → ClassId} {dI : Nat → Nat → Nat} {cI cZ cR cW : ClassId} {X : Nat → Nat} {o om : Nat} {am : Nat → Nat} {u : ob_AX} {S : ob_SX} {mm : ob_B} {i : Nat} (C : lw_K p s m c b L xs (dC, dI) cI cZ cR cW X) (hiv : ob_iv S mm) (hP : va_P (dC, dI) vwCl (ob_wx o cI cR cW u S ++ ob_w5 om am cI cZ mm) H) (hD : va_D (fun q : Nat => s.heap.size ≤ q) (ob_wx o cI cR cW u S ++ ob_w5 om am cI cZ mm)) (hS : va_S (fun q : Nat => s.heap.size ≤ q) s.heap H locs) (hl : lv_has ls 4 [(0, .ref b), (1, .ref o), (2, .ref om), (3, .int (nI i))]) (hi : i + 6 ≤ L) (hL : L ≤ 384) (hcs : cells + 300 ≤ 600000 ∧ slots + 2350 ≤ 7302250)
    (kk : ∀ (u' : ob_AX) (S' : ob_SX) (m' : ob_B) (H1 : Heap) (locs1 : List Loc), ob_iv S' m' → va_P (dC, dI) vwCl (ob_wx o cI cR cW u' S' ++ ob_w5 om am cI cZ m') H1 → va_D (fun q : Nat => s.heap.size ≤ q) (ob_wx o cI cR cW u' S' ++ ob_w5 om am cI cZ m') → va_S (fun q : Nat => s.heap.size ≤ q) s.heap H1 locs1 → W p l e room_1 s m #[Value.ref b] below meth c H1 locs1 (cells + 300) (slots + 2350) Q (F0 m 1335 ls [])) : W p l e room_1 s m #[Value.ref b] below meth c H locs cells slots Q (F0 m 1008 ls []) := by
  obtain ⟨hx, hb, -, -, hts, -⟩ := id C
  obtain ⟨r, S', m', hX, hM, hv⟩ := op_late (l := l) (dC := dC) (dI := dI) (cI := cI) (cZ := cZ) (cR := cR) (cW := cW) (X := X) (o := o) (om := om) (am := am) (xs (i + 1)) u S mm hiv
  refine lv_aload_n hx hb dL_law_1008 rfl (lv_at hl 1 rfl) ?_
  refine lw_arg (k := 1) C hS hl hi hL (by decide) rfl dL_law_1009 dL_law_1010 dL_law_1011 dL_law_1012 dL_law_1013 ?_
  refine lw_x C hX (fun rm h1 h2 => cwV 1 hts gL_law_X4_late rfl rfl rfl (by decide +kernel) ⟨show rm.frames + 1 ≤ 2048 by omega, show 8 + (6 + 11) + rm.locals ≤ 84000 by omega⟩) hP hD hS hl rfl ⟨by omega, by omega⟩ rfl dL_law_1014 (fun u' H locs hP hD hS => ?_)
  refine lv_aload_n hx hb dL_law_1017 rfl (lv_at hl 2 rfl) ?_
  refine lw_arg (k := 1) C hS hl hi hL (by decide) rfl dL_law_1018 dL_law_1019 dL_law_1020 dL_law_1021 dL_law_1022 ?_
  refine lw_m (rest := [.int r]) C hM (fun rm h1 h2 => cwV 1 hts gL_law_X5_late rfl rfl rfl (by decide +kernel) ⟨show rm.frames + 1 ≤ 2048 by omega, show 8 + (6 + 11) + rm.locals ≤ 84000 by omega⟩) hP hD hS hl rfl ⟨by omega, by omega⟩ (Nat.le_of_ble_eq_true rfl) rfl dL_law_1023 (fun H locs hP hD hS => ?_)
  refine lv_icmp_eq (tgt := 1335) hx hb dL_law_1026 (by decide) (fun _ => ?_) (fun hc => absurd rfl hc)
  exact W.widen (k := cells + 300) (n := slots + 2350) (by omega) (by omega) (kk u' S' m' H locs hv hP hD hS)
set_option maxHeartbeats 1000000 in
set_option maxRecDepth 20000 in
theorem lc_27 {p : Program} {l : Launch} {e : Env} {s : State} {m : MethodId} {below : List Frame} {meth : Method} {c : Code} {H : Heap} {locs : List Loc} {cells slots : Nat} {Q : State → Prop} {ls : Array Slot} {b L : Nat} {xs : Nat → Int32} {dC : Nat → ClassId} {dI : Nat → Nat → Nat} {cI cZ cR cW : ClassId} {X : Nat → Nat} {o om : Nat} {am : Nat → Nat} {u : ob_AX} {S : ob_SX} {mm : ob_B} {i : Nat} (C : lw_K p s m c b L xs (dC, dI) cI cZ cR cW X) (hiv : ob_iv S mm) (hP : va_P (dC, dI) vwCl (ob_wx o cI cR cW u S ++ ob_w5 om am cI cZ mm) H) (hD : va_D (fun q : Nat => s.heap.size ≤ q) (ob_wx o cI cR cW u S ++ ob_w5 om am cI cZ mm)) (hS : va_S (fun q : Nat => s.heap.size ≤ q) s.heap H locs) (hl : lv_has ls 4 [(0, .ref b), (1, .ref o), (2, .ref om), (3, .int (nI i))]) (hi : i + 6 ≤ L) (hL : L ≤ 384) (hcs : cells + 300 ≤ 600000 ∧ slots + 2350 ≤ 7302250)
    (kk : ∀ (u' : ob_AX) (S' : ob_SX) (m' : ob_B) (H1 : Heap) (locs1 : List Loc), ob_iv S' m' → va_P (dC, dI) vwCl (ob_wx o cI cR cW u' S' ++ ob_w5 om am cI cZ m') H1 → va_D (fun q : Nat => s.heap.size ≤ q) (ob_wx o cI cR cW u' S' ++ ob_w5 om am cI cZ m') → va_S (fun q : Nat => s.heap.size ≤ q) s.heap H1 locs1 → W p l e room_1 s m #[Value.ref b] below meth c H1 locs1 (cells + 300) (slots + 2350) Q (F0 m 1335 ls [])) : W p l e room_1 s m #[Value.ref b] below meth c H locs cells slots Q (F0 m 1031 ls []) := by
  obtain ⟨hx, hb, -, -, hts, -⟩ := id C
  obtain ⟨r, S', m', hX, hM, hv⟩ := op_lies (l := l) (dC := dC) (dI := dI) (cI := cI) (cZ := cZ) (cR := cR) (cW := cW) (X := X) (o := o) (om := om) (am := am) (xs (i + 1)) (xs (i + 2)) (xs (i + 3)) u S mm hiv
  refine lv_aload_n hx hb dL_law_1031 rfl (lv_at hl 1 rfl) ?_
  refine lw_arg (k := 1) C hS hl hi hL (by decide) rfl dL_law_1032 dL_law_1033 dL_law_1034 dL_law_1035 dL_law_1036 ?_
  refine lw_arg (k := 2) C hS hl hi hL (by decide) rfl dL_law_1037 dL_law_1038 dL_law_1039 dL_law_1040 dL_law_1041 ?_
  refine lw_arg (k := 3) C hS hl hi hL (by decide) rfl dL_law_1042 dL_law_1043 dL_law_1044 dL_law_1045 dL_law_1046 ?_
  refine lw_xl C hX (fun rm h1 h2 => cwV 3 hts gL_law_X4_lies rfl rfl rfl (by decide +kernel) ⟨show rm.frames + 1 ≤ 2048 by omega, show 8 + (12 + 11) + rm.locals ≤ 84000 by omega⟩) hP hD hS hl rfl ⟨by omega, by omega⟩ rfl dL_law_1047 (fun u' H locs hP hD hS => ?_)
  refine lv_aload_n hx hb dL_law_1050 rfl (lv_at hl 2 rfl) ?_
  refine lw_arg (k := 1) C hS hl hi hL (by decide) rfl dL_law_1051 dL_law_1052 dL_law_1053 dL_law_1054 dL_law_1055 ?_
  refine lw_arg (k := 2) C hS hl hi hL (by decide) rfl dL_law_1056 dL_law_1057 dL_law_1058 dL_law_1059 dL_law_1060 ?_
  refine lw_arg (k := 3) C hS hl hi hL (by decide) rfl dL_law_1061 dL_law_1062 dL_law_1063 dL_law_1064 dL_law_1065 ?_
  refine lw_mll (rest := [.long r]) C hM (fun rm h1 h2 => cwV 3 hts gL_law_X5_lies rfl rfl rfl (by decide +kernel) ⟨show rm.frames + 1 ≤ 2048 by omega, show 8 + (15 + 11) + rm.locals ≤ 84000 by omega⟩) hP hD hS hl rfl ⟨by omega, by omega⟩ (Nat.le_of_ble_eq_true rfl) rfl dL_law_1066 (fun H locs hP hD hS => ?_)
  refine W.lcmp hx hb dL_law_1069 ?_
  refine lv_if_eq (tgt := 1335) hx hb dL_law_1070 (by decide) (fun _ => ?_) (fun hc => absurd (show lg_cmp r r = 0 by unfold lg_cmp; rw [if_neg (fun h => Int64.lt_irrefl h), if_pos rfl]) hc)
  exact W.widen (k := cells + 300) (n := slots + 2350) (by omega) (by omega) (kk u' S' m' H locs hv hP hD hS)
set_option maxHeartbeats 1000000 in
set_option maxRecDepth 20000 in
theorem lc_28 {p : Program} {l : Launch} {e : Env} {s : State} {m : MethodId} {below : List Frame} {meth : Method} {c : Code} {H : Heap} {locs : List Loc} {cells slots : Nat} {Q : State → Prop} {ls : Array Slot} {b L : Nat} {xs : Nat → Int32} {dC : Nat → ClassId} {dI : Nat → Nat → Nat} {cI cZ cR cW : ClassId} {X : Nat → Nat} {o om : Nat} {am : Nat → Nat} {u : ob_AX} {S : ob_SX} {mm : ob_B} {i : Nat} (C : lw_K p s m c b L xs (dC, dI) cI cZ cR cW X) (hiv : ob_iv S mm) (hP : va_P (dC, dI) vwCl (ob_wx o cI cR cW u S ++ ob_w5 om am cI cZ mm) H) (hD : va_D (fun q : Nat => s.heap.size ≤ q) (ob_wx o cI cR cW u S ++ ob_w5 om am cI cZ mm)) (hS : va_S (fun q : Nat => s.heap.size ≤ q) s.heap H locs) (hl : lv_has ls 4 [(0, .ref b), (1, .ref o), (2, .ref om), (3, .int (nI i))]) (hi : i + 6 ≤ L) (hL : L ≤ 384) (hcs : cells + 300 ≤ 600000 ∧ slots + 2350 ≤ 7302250)
    (kk : ∀ (u' : ob_AX) (S' : ob_SX) (m' : ob_B) (H1 : Heap) (locs1 : List Loc), ob_iv S' m' → va_P (dC, dI) vwCl (ob_wx o cI cR cW u' S' ++ ob_w5 om am cI cZ m') H1 → va_D (fun q : Nat => s.heap.size ≤ q) (ob_wx o cI cR cW u' S' ++ ob_w5 om am cI cZ m') → va_S (fun q : Nat => s.heap.size ≤ q) s.heap H1 locs1 → W p l e room_1 s m #[Value.ref b] below meth c H1 locs1 (cells + 300) (slots + 2350) Q (F0 m 1335 ls [])) : W p l e room_1 s m #[Value.ref b] below meth c H locs cells slots Q (F0 m 1075 ls []) := by
  obtain ⟨hx, hb, -, -, hts, -⟩ := id C
  obtain ⟨r, S', m', hX, hM, hv⟩ := op_order (l := l) (dC := dC) (dI := dI) (cI := cI) (cZ := cZ) (cR := cR) (cW := cW) (X := X) (o := o) (om := om) (am := am) (xs (i + 1)) u S mm hiv
  refine lv_aload_n hx hb dL_law_1075 rfl (lv_at hl 1 rfl) ?_
  refine lw_arg (k := 1) C hS hl hi hL (by decide) rfl dL_law_1076 dL_law_1077 dL_law_1078 dL_law_1079 dL_law_1080 ?_
  refine lw_x C hX (fun rm h1 h2 => cwV 1 hts gL_law_X4_order rfl rfl rfl (by decide +kernel) ⟨show rm.frames + 1 ≤ 2048 by omega, show 8 + (6 + 11) + rm.locals ≤ 84000 by omega⟩) hP hD hS hl rfl ⟨by omega, by omega⟩ rfl dL_law_1081 (fun u' H locs hP hD hS => ?_)
  refine lv_aload_n hx hb dL_law_1084 rfl (lv_at hl 2 rfl) ?_
  refine lw_arg (k := 1) C hS hl hi hL (by decide) rfl dL_law_1085 dL_law_1086 dL_law_1087 dL_law_1088 dL_law_1089 ?_
  refine lw_m (rest := [.int r]) C hM (fun rm h1 h2 => cwV 1 hts gL_law_X5_order rfl rfl rfl (by decide +kernel) ⟨show rm.frames + 1 ≤ 2048 by omega, show 8 + (6 + 11) + rm.locals ≤ 84000 by omega⟩) hP hD hS hl rfl ⟨by omega, by omega⟩ (Nat.le_of_ble_eq_true rfl) rfl dL_law_1090 (fun H locs hP hD hS => ?_)
  refine lv_icmp_eq (tgt := 1335) hx hb dL_law_1093 (by decide) (fun _ => ?_) (fun hc => absurd rfl hc)
  exact W.widen (k := cells + 300) (n := slots + 2350) (by omega) (by omega) (kk u' S' m' H locs hv hP hD hS)
set_option maxHeartbeats 1000000 in
set_option maxRecDepth 20000 in
theorem lc_29 {p : Program} {l : Launch} {e : Env} {s : State} {m : MethodId} {below : List Frame} {meth : Method} {c : Code} {H : Heap} {locs : List Loc} {cells slots : Nat} {Q : State → Prop} {ls : Array Slot} {b L : Nat} {xs : Nat → Int32} {dC : Nat → ClassId} {dI : Nat → Nat → Nat} {cI cZ cR cW : ClassId} {X : Nat → Nat} {o om : Nat} {am : Nat → Nat} {u : ob_AX} {S : ob_SX} {mm : ob_B} {i : Nat} (C : lw_K p s m c b L xs (dC, dI) cI cZ cR cW X) (hiv : ob_iv S mm) (hP : va_P (dC, dI) vwCl (ob_wx o cI cR cW u S ++ ob_w5 om am cI cZ mm) H) (hD : va_D (fun q : Nat => s.heap.size ≤ q) (ob_wx o cI cR cW u S ++ ob_w5 om am cI cZ mm)) (hS : va_S (fun q : Nat => s.heap.size ≤ q) s.heap H locs) (hl : lv_has ls 4 [(0, .ref b), (1, .ref o), (2, .ref om), (3, .int (nI i))]) (hi : i + 6 ≤ L) (hL : L ≤ 384) (hcs : cells + 300 ≤ 600000 ∧ slots + 2350 ≤ 7302250)
    (kk : ∀ (u' : ob_AX) (S' : ob_SX) (m' : ob_B) (H1 : Heap) (locs1 : List Loc), ob_iv S' m' → va_P (dC, dI) vwCl (ob_wx o cI cR cW u' S' ++ ob_w5 om am cI cZ m') H1 → va_D (fun q : Nat => s.heap.size ≤ q) (ob_wx o cI cR cW u' S' ++ ob_w5 om am cI cZ m') → va_S (fun q : Nat => s.heap.size ≤ q) s.heap H1 locs1 → W p l e room_1 s m #[Value.ref b] below meth c H1 locs1 (cells + 300) (slots + 2350) Q (F0 m 1335 ls [])) : W p l e room_1 s m #[Value.ref b] below meth c H locs cells slots Q (F0 m 1098 ls []) := by
  obtain ⟨hx, hb, -, -, hts, -⟩ := id C
  obtain ⟨r, S', m', hX, hM, hv⟩ := op_drawn (l := l) (dC := dC) (dI := dI) (cI := cI) (cZ := cZ) (cR := cR) (cW := cW) (X := X) (o := o) (om := om) (am := am) (xs (i + 1)) (xs (i + 2)) (xs (i + 3)) u S mm hiv
  refine lv_aload_n hx hb dL_law_1098 rfl (lv_at hl 1 rfl) ?_
  refine lw_arg (k := 1) C hS hl hi hL (by decide) rfl dL_law_1099 dL_law_1100 dL_law_1101 dL_law_1102 dL_law_1103 ?_
  refine lw_arg (k := 2) C hS hl hi hL (by decide) rfl dL_law_1104 dL_law_1105 dL_law_1106 dL_law_1107 dL_law_1108 ?_
  refine lw_arg (k := 3) C hS hl hi hL (by decide) rfl dL_law_1109 dL_law_1110 dL_law_1111 dL_law_1112 dL_law_1113 ?_
  refine lw_x C hX (fun rm h1 h2 => cwV 3 hts gL_law_X4_drawn rfl rfl rfl (by decide +kernel) ⟨show rm.frames + 1 ≤ 2048 by omega, show 8 + (7 + 11) + rm.locals ≤ 84000 by omega⟩) hP hD hS hl rfl ⟨by omega, by omega⟩ rfl dL_law_1114 (fun u' H locs hP hD hS => ?_)
  refine lv_aload_n hx hb dL_law_1117 rfl (lv_at hl 2 rfl) ?_
  refine lw_arg (k := 1) C hS hl hi hL (by decide) rfl dL_law_1118 dL_law_1119 dL_law_1120 dL_law_1121 dL_law_1122 ?_
  refine lw_arg (k := 2) C hS hl hi hL (by decide) rfl dL_law_1123 dL_law_1124 dL_law_1125 dL_law_1126 dL_law_1127 ?_
  refine lw_arg (k := 3) C hS hl hi hL (by decide) rfl dL_law_1128 dL_law_1129 dL_law_1130 dL_law_1131 dL_law_1132 ?_
  refine lw_m (rest := [.int r]) C hM (fun rm h1 h2 => cwV 3 hts gL_law_X5_drawn rfl rfl rfl (by decide +kernel) ⟨show rm.frames + 1 ≤ 2048 by omega, show 8 + (8 + 11) + rm.locals ≤ 84000 by omega⟩) hP hD hS hl rfl ⟨by omega, by omega⟩ (Nat.le_of_ble_eq_true rfl) rfl dL_law_1133 (fun H locs hP hD hS => ?_)
  refine lv_icmp_eq (tgt := 1335) hx hb dL_law_1136 (by decide) (fun _ => ?_) (fun hc => absurd rfl hc)
  exact W.widen (k := cells + 300) (n := slots + 2350) (by omega) (by omega) (kk u' S' m' H locs hv hP hD hS)
