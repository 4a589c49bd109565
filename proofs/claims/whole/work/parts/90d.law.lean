set_option maxHeartbeats 4000000 in
set_option maxRecDepth 100000 in
theorem law_15 (l : Launch) {p : Program} {e : Env} {s : State} {m : MethodId} {b : Nat} {below : List Frame} {meth : Method} {c : Code} {D : DT} {A : Nat → Prop} {cs sl : Nat} {Q : State → Prop} {a a2 : Nat → Nat} {xs : Nat → Int32} {L i : Nat} (hG : GX p l e room_1 s m #[Value.ref b] below meth c D A 4 code RL wsL_law) (hAg : ∀ q, s.heap.size ≤ q → A q) (hX : va_X b L xs s s.heap) (hbl : b < s.heap.size) (hbA : ¬ A b) (hL : L ≤ 3072) (hi : i + 6 ≤ L) (hcs : cs + 18 ≤ 600000) (hsl : sl + 420 ≤ 7302250) (f : Nat → Int32) (na : Nat → Nat → Int32) (w td vl : Nat → Int32) (Lp pt fl : Nat) (kd : Int32) (kp : Nat) (pq ps : Nat → Option HH) (fp fs fv fg fw ft fn : Nat → Int32) (i1 : Nat) (wk sp iw od : Int32) (sv : Nat → Bool) (hI : INV f na td Lp kp kp pq ps fp fs fv i1 sv)
    (hback : LGO p l e s m b below meth c D A a a2 (cs + 18) (sl + 420) Q i) : GG p l e room_1 s m #[Value.ref b] below meth c D A 4 false cs sl Q (wL D a a2 f na w td vl Lp pt fl kd kp kp pq ps fp fs fv fg fw ft fn i1 wk sp iw od) 677 [(0, .ref b), (1, .ref (a 19)), (2, .ref (a2 0)), (3, .int (nI i))] [] := by
  obtain ⟨hx, hNx, hF, hLp, hch, hkp, -, hi1, hpast, hslot, hsv⟩ := id hI
  obtain ⟨mk, n, b8, hW⟩ := id hx
  have hNR := hNx.to hW
  have hn8 : n ≤ 8 := Nat.le_trans hW.2.2.2.2.2.2.1 hW.2.2.2.2.2.1
  refine g_aload_n hG dL_law_677 rfl 1 rfl rfl ?_
  refine g_aload_n hG dL_law_678 rfl 0 rfl rfl ?_
  refine g_iload_n hG dL_law_679 rfl 3 rfl rfl ?_
  refine g_iconst (v := (1 : Int32)) hG dL_law_680 (by decide) rfl ?_
  refine g_iadd hG dL_law_681 rfl ?_
  refine g_topi (y := nI (i + 1)) (nI_add (i) (1)) ?_
  refine g_sld (k := (i + 1)) hG hX hbl hbA dL_law_682 rfl (by omega) (by omega) rfl ?_
  refine g_aload_n hG dL_law_683 rfl 0 rfl rfl ?_
  refine g_iload_n hG dL_law_684 rfl 3 rfl rfl ?_
  refine g_iconst (v := (2 : Int32)) hG dL_law_685 (by decide) rfl ?_
  refine g_iadd hG dL_law_686 rfl ?_
  refine g_topi (y := nI (i + 2)) (nI_add (i) (2)) ?_
  refine g_sld (k := (i + 2)) hG hX hbl hbA dL_law_687 rfl (by omega) (by omega) rfl ?_
  refine g_aload_n hG dL_law_688 rfl 0 rfl rfl ?_
  refine g_iload_n hG dL_law_689 rfl 3 rfl rfl ?_
  refine g_iconst (v := (3 : Int32)) hG dL_law_690 (by decide) rfl ?_
  refine g_iadd hG dL_law_691 rfl ?_
  refine g_topi (y := nI (i + 3)) (nI_add (i) (3)) ?_
  refine g_sld (k := (i + 3)) hG hX hbl hbA dL_law_692 rfl (by omega) (by omega) rfl ?_
  refine g_aload_n hG dL_law_693 rfl 0 rfl rfl ?_
  refine g_iload_n hG dL_law_694 rfl 3 rfl rfl ?_
  refine g_iconst (v := (4 : Int32)) hG dL_law_695 (by decide) rfl ?_
  refine g_iadd hG dL_law_696 rfl ?_
  refine g_topi (y := nI (i + 4)) (nI_add (i) (4)) ?_
  refine g_sld (k := (i + 4)) hG hX hbl hbA dL_law_697 rfl (by omega) (by omega) rfl ?_
  refine g_callVX (n := 4) (As := [_, _, _, _]) (rest := []) hG hAg rfl (c_X6_walk l D a f na w td vl Lp pt fl kd kp (fqa pq) (fqa ps) (tlW D pq ps) mk n b8 hW hNR (xs (i + 1)) (xs (i + 2)) (xs (i + 3)) (xs (i + 4))) gL_law_X6_walk rfl (by decide +kernel) ⟨Nat.le_of_ble_eq_true rfl, Nat.le_of_ble_eq_true rfl⟩ 20 rfl rfl rfl rfl rfl (Nat.le_of_ble_eq_true rfl) dL_law_698 ⟨by show _ ≤ 600000; omega, by show _ ≤ 7302250; omega⟩ rfl (fun v w9 hv => ?_)
  obtain ⟨rfl, w1, rfl⟩ := hv
  refine ⟨AD.rf rfl, ?_⟩
  refine g_st (st' := [_]) rfl ?_
  refine g_aload_n hG dL_law_701 rfl 2 rfl rfl ?_
  refine g_aload_n hG dL_law_702 rfl 0 rfl rfl ?_
  refine g_iload_n hG dL_law_703 rfl 3 rfl rfl ?_
  refine g_iconst (v := (1 : Int32)) hG dL_law_704 (by decide) rfl ?_
  refine g_iadd hG dL_law_705 rfl ?_
  refine g_topi (y := nI (i + 1)) (nI_add (i) (1)) ?_
  refine g_sld (k := (i + 1)) hG hX hbl hbA dL_law_706 rfl (by omega) (by omega) rfl ?_
  refine g_aload_n hG dL_law_707 rfl 0 rfl rfl ?_
  refine g_iload_n hG dL_law_708 rfl 3 rfl rfl ?_
  refine g_iconst (v := (2 : Int32)) hG dL_law_709 (by decide) rfl ?_
  refine g_iadd hG dL_law_710 rfl ?_
  refine g_topi (y := nI (i + 2)) (nI_add (i) (2)) ?_
  refine g_sld (k := (i + 2)) hG hX hbl hbA dL_law_711 rfl (by omega) (by omega) rfl ?_
  refine g_aload_n hG dL_law_712 rfl 0 rfl rfl ?_
  refine g_iload_n hG dL_law_713 rfl 3 rfl rfl ?_
  refine g_iconst (v := (3 : Int32)) hG dL_law_714 (by decide) rfl ?_
  refine g_iadd hG dL_law_715 rfl ?_
  refine g_topi (y := nI (i + 3)) (nI_add (i) (3)) ?_
  refine g_sld (k := (i + 3)) hG hX hbl hbA dL_law_716 rfl (by omega) (by omega) rfl ?_
  refine g_aload_n hG dL_law_717 rfl 0 rfl rfl ?_
  refine g_iload_n hG dL_law_718 rfl 3 rfl rfl ?_
  refine g_iconst (v := (4 : Int32)) hG dL_law_719 (by decide) rfl ?_
  refine g_iadd hG dL_law_720 rfl ?_
  refine g_topi (y := nI (i + 4)) (nI_add (i) (4)) ?_
  refine g_sld (k := (i + 4)) hG hX hbl hbA dL_law_721 rfl (by omega) (by omega) rfl ?_
  refine g_callVWp (n := 4) (As := [_, _, _, _]) (rest := [_]) hG hAg rfl (c_X7_walk l D a2 f fp fs fv fg fw td ft fn (nI i1) (nI kp) wk (nI Lp) sp iw od mk n b8 hW (xs (i + 1)) (xs (i + 2)) (xs (i + 3)) (xs (i + 4))) gL_law_X7_walk rfl (by decide +kernel) ⟨Nat.le_of_ble_eq_true rfl, Nat.le_of_ble_eq_true rfl⟩ 0 rfl rfl rfl rfl rfl (Nat.le_of_ble_eq_true rfl) dL_law_722 ⟨by show _ ≤ 600000; omega, by show _ ≤ 7302250; omega⟩ rfl (fun v w9 hv => ?_)
  obtain ⟨fg', wk', rfl, rfl⟩ := hv
  refine ⟨rfl, ?_⟩
  refine g_st (st' := [_, _]) rfl ?_
  refine g_icmp_eq hG dL_law_725 941 (by decide) rfl (fun _ => ?_) (fun h => absurd rfl h)
  refine g_widen (cs + 18) (sl + 420) (by omega) (by omega) ?_
  exact hback _ _ _ _ _ _ _ _ _ _ _ _ _ _ _ _ _ _ _ _ _ _ _ _ _ _ hI

set_option maxHeartbeats 4000000 in
set_option maxRecDepth 100000 in
theorem law_16 (l : Launch) {p : Program} {e : Env} {s : State} {m : MethodId} {b : Nat} {below : List Frame} {meth : Method} {c : Code} {D : DT} {A : Nat → Prop} {cs sl : Nat} {Q : State → Prop} {a a2 : Nat → Nat} {xs : Nat → Int32} {L i : Nat} (hG : GX p l e room_1 s m #[Value.ref b] below meth c D A 4 code RL wsL_law) (hAg : ∀ q, s.heap.size ≤ q → A q) (hX : va_X b L xs s s.heap) (hbl : b < s.heap.size) (hbA : ¬ A b) (hL : L ≤ 3072) (hi : i + 6 ≤ L) (hcs : cs + 18 ≤ 600000) (hsl : sl + 420 ≤ 7302250) (f : Nat → Int32) (na : Nat → Nat → Int32) (w td vl : Nat → Int32) (Lp pt fl : Nat) (kd : Int32) (kp : Nat) (pq ps : Nat → Option HH) (fp fs fv fg fw ft fn : Nat → Int32) (i1 : Nat) (wk sp iw od : Int32) (sv : Nat → Bool) (hI : INV f na td Lp kp kp pq ps fp fs fv i1 sv)
    (hback : LGO p l e s m b below meth c D A a a2 (cs + 18) (sl + 420) Q i) : GG p l e room_1 s m #[Value.ref b] below meth c D A 4 false cs sl Q (wL D a a2 f na w td vl Lp pt fl kd kp kp pq ps fp fs fv fg fw ft fn i1 wk sp iw od) 730 [(0, .ref b), (1, .ref (a 19)), (2, .ref (a2 0)), (3, .int (nI i))] [] := by
  obtain ⟨hx, hNx, hF, hLp, hch, hkp, -, hi1, hpast, hslot, hsv⟩ := id hI
  obtain ⟨mk, n, b8, hW⟩ := id hx
  have hNR := hNx.to hW
  have hn8 : n ≤ 8 := Nat.le_trans hW.2.2.2.2.2.2.1 hW.2.2.2.2.2.1
  refine g_aload_n hG dL_law_730 rfl 1 rfl rfl ?_
  refine g_aload_n hG dL_law_731 rfl 0 rfl rfl ?_
  refine g_iload_n hG dL_law_732 rfl 3 rfl rfl ?_
  refine g_iconst (v := (1 : Int32)) hG dL_law_733 (by decide) rfl ?_
  refine g_iadd hG dL_law_734 rfl ?_
  refine g_topi (y := nI (i + 1)) (nI_add (i) (1)) ?_
  refine g_sld (k := (i + 1)) hG hX hbl hbA dL_law_735 rfl (by omega) (by omega) rfl ?_
  refine g_callVRX (n := 1) (As := [_]) (rest := []) hG (c_X6_hides l D a f na w td vl Lp pt fl kd kp (fqa pq) (fqa ps) (tlW D pq ps) mk n b8 hW hNR (xs (i + 1))) gL_law_X6_hides rfl (by decide +kernel) ⟨Nat.le_of_ble_eq_true rfl, Nat.le_of_ble_eq_true rfl⟩ 20 rfl rfl rfl rfl rfl (Nat.le_of_ble_eq_true rfl) dL_law_736 ⟨by show _ ≤ 600000; omega, by show _ ≤ 7302250; omega⟩ rfl (fun v hv => ?_)
  obtain rfl := hv
  refine g_st (st' := [_]) rfl ?_
  refine g_aload_n hG dL_law_739 rfl 2 rfl rfl ?_
  refine g_aload_n hG dL_law_740 rfl 0 rfl rfl ?_
  refine g_iload_n hG dL_law_741 rfl 3 rfl rfl ?_
  refine g_iconst (v := (1 : Int32)) hG dL_law_742 (by decide) rfl ?_
  refine g_iadd hG dL_law_743 rfl ?_
  refine g_topi (y := nI (i + 1)) (nI_add (i) (1)) ?_
  refine g_sld (k := (i + 1)) hG hX hbl hbA dL_law_744 rfl (by omega) (by omega) rfl ?_
  refine g_callVWp (n := 1) (As := [_]) (rest := [_]) hG hAg rfl (c_X7_hides l D a2 f fp fs fv fg fw td ft fn (nI i1) (nI kp) wk (nI Lp) sp iw od mk n b8 hW (xs (i + 1))) gL_law_X7_hides rfl (by decide +kernel) ⟨Nat.le_of_ble_eq_true rfl, Nat.le_of_ble_eq_true rfl⟩ 0 rfl rfl rfl rfl rfl (Nat.le_of_ble_eq_true rfl) dL_law_745 ⟨by show _ ≤ 600000; omega, by show _ ≤ 7302250; omega⟩ rfl (fun v w9 hv => ?_)
  obtain ⟨fg', wk', rfl, rfl⟩ := hv
  refine ⟨rfl, ?_⟩
  refine g_st (st' := [_, _]) rfl ?_
  refine g_icmp_eq hG dL_law_748 941 (by decide) rfl (fun _ => ?_) (fun h => absurd rfl h)
  refine g_widen (cs + 18) (sl + 420) (by omega) (by omega) ?_
  exact hback _ _ _ _ _ _ _ _ _ _ _ _ _ _ _ _ _ _ _ _ _ _ _ _ _ _ hI

set_option maxHeartbeats 4000000 in
set_option maxRecDepth 100000 in
theorem law_17 (l : Launch) {p : Program} {e : Env} {s : State} {m : MethodId} {b : Nat} {below : List Frame} {meth : Method} {c : Code} {D : DT} {A : Nat → Prop} {cs sl : Nat} {Q : State → Prop} {a a2 : Nat → Nat} {xs : Nat → Int32} {L i : Nat} (hG : GX p l e room_1 s m #[Value.ref b] below meth c D A 4 code RL wsL_law) (hAg : ∀ q, s.heap.size ≤ q → A q) (hX : va_X b L xs s s.heap) (hbl : b < s.heap.size) (hbA : ¬ A b) (hL : L ≤ 3072) (hi : i + 6 ≤ L) (hcs : cs + 18 ≤ 600000) (hsl : sl + 420 ≤ 7302250) (f : Nat → Int32) (na : Nat → Nat → Int32) (w td vl : Nat → Int32) (Lp pt fl : Nat) (kd : Int32) (kp : Nat) (pq ps : Nat → Option HH) (fp fs fv fg fw ft fn : Nat → Int32) (i1 : Nat) (wk sp iw od : Int32) (sv : Nat → Bool) (hI : INV f na td Lp kp kp pq ps fp fs fv i1 sv)
    (hback : LGO p l e s m b below meth c D A a a2 (cs + 18) (sl + 420) Q i) : GG p l e room_1 s m #[Value.ref b] below meth c D A 4 false cs sl Q (wL D a a2 f na w td vl Lp pt fl kd kp kp pq ps fp fs fv fg fw ft fn i1 wk sp iw od) 753 [(0, .ref b), (1, .ref (a 19)), (2, .ref (a2 0)), (3, .int (nI i))] [] := by
  obtain ⟨hx, hNx, hF, hLp, hch, hkp, -, hi1, hpast, hslot, hsv⟩ := id hI
  obtain ⟨mk, n, b8, hW⟩ := id hx
  have hNR := hNx.to hW
  have hn8 : n ≤ 8 := Nat.le_trans hW.2.2.2.2.2.2.1 hW.2.2.2.2.2.1
  refine g_aload_n hG dL_law_753 rfl 1 rfl rfl ?_
  refine g_aload_n hG dL_law_754 rfl 0 rfl rfl ?_
  refine g_iload_n hG dL_law_755 rfl 3 rfl rfl ?_
  refine g_iconst (v := (1 : Int32)) hG dL_law_756 (by decide) rfl ?_
  refine g_iadd hG dL_law_757 rfl ?_
  refine g_topi (y := nI (i + 1)) (nI_add (i) (1)) ?_
  refine g_sld (k := (i + 1)) hG hX hbl hbA dL_law_758 rfl (by omega) (by omega) rfl ?_
  refine g_callVRX (n := 1) (As := [_]) (rest := []) hG (c_X6_needless l D a f na w td vl Lp pt fl kd kp (fqa pq) (fqa ps) (tlW D pq ps) mk n b8 hW hNR (xs (i + 1))) gL_law_X6_needless rfl (by decide +kernel) ⟨Nat.le_of_ble_eq_true rfl, Nat.le_of_ble_eq_true rfl⟩ 20 rfl rfl rfl rfl rfl (Nat.le_of_ble_eq_true rfl) dL_law_759 ⟨by show _ ≤ 600000; omega, by show _ ≤ 7302250; omega⟩ rfl (fun v hv => ?_)
  obtain rfl := hv
  refine g_st (st' := [_]) rfl ?_
  refine g_aload_n hG dL_law_762 rfl 2 rfl rfl ?_
  refine g_aload_n hG dL_law_763 rfl 0 rfl rfl ?_
  refine g_iload_n hG dL_law_764 rfl 3 rfl rfl ?_
  refine g_iconst (v := (1 : Int32)) hG dL_law_765 (by decide) rfl ?_
  refine g_iadd hG dL_law_766 rfl ?_
  refine g_topi (y := nI (i + 1)) (nI_add (i) (1)) ?_
  refine g_sld (k := (i + 1)) hG hX hbl hbA dL_law_767 rfl (by omega) (by omega) rfl ?_
  refine g_callVWp (n := 1) (As := [_]) (rest := [_]) hG hAg rfl (c_X7_needless l D a2 f fp fs fv fg fw td ft fn (nI i1) (nI kp) wk (nI Lp) sp iw od mk n b8 hW (xs (i + 1))) gL_law_X7_needless rfl (by decide +kernel) ⟨Nat.le_of_ble_eq_true rfl, Nat.le_of_ble_eq_true rfl⟩ 0 rfl rfl rfl rfl rfl (Nat.le_of_ble_eq_true rfl) dL_law_768 ⟨by show _ ≤ 600000; omega, by show _ ≤ 7302250; omega⟩ rfl (fun v w9 hv => ?_)
  obtain ⟨fg', wk', rfl, rfl⟩ := hv
  refine ⟨rfl, ?_⟩
  refine g_st (st' := [_, _]) rfl ?_
  refine g_lcmp hG dL_law_771 rfl ?_
  refine g_if_eq hG dL_law_772 941 (by decide) rfl (fun _ => ?_) (fun h => absurd (lg_self _) h)
  refine g_widen (cs + 18) (sl + 420) (by omega) (by omega) ?_
  exact hback _ _ _ _ _ _ _ _ _ _ _ _ _ _ _ _ _ _ _ _ _ _ _ _ _ _ hI

set_option maxHeartbeats 4000000 in
set_option maxRecDepth 100000 in
theorem law_18 (l : Launch) {p : Program} {e : Env} {s : State} {m : MethodId} {b : Nat} {below : List Frame} {meth : Method} {c : Code} {D : DT} {A : Nat → Prop} {cs sl : Nat} {Q : State → Prop} {a a2 : Nat → Nat} {xs : Nat → Int32} {L i : Nat} (hG : GX p l e room_1 s m #[Value.ref b] below meth c D A 4 code RL wsL_law) (hAg : ∀ q, s.heap.size ≤ q → A q) (hX : va_X b L xs s s.heap) (hbl : b < s.heap.size) (hbA : ¬ A b) (hL : L ≤ 3072) (hi : i + 6 ≤ L) (hcs : cs + 18 ≤ 600000) (hsl : sl + 420 ≤ 7302250) (f : Nat → Int32) (na : Nat → Nat → Int32) (w td vl : Nat → Int32) (Lp pt fl : Nat) (kd : Int32) (kp : Nat) (pq ps : Nat → Option HH) (fp fs fv fg fw ft fn : Nat → Int32) (i1 : Nat) (wk sp iw od : Int32) (sv : Nat → Bool) (hI : INV f na td Lp kp kp pq ps fp fs fv i1 sv)
    (hback : LGO p l e s m b below meth c D A a a2 (cs + 18) (sl + 420) Q i) : GG p l e room_1 s m #[Value.ref b] below meth c D A 4 false cs sl Q (wL D a a2 f na w td vl Lp pt fl kd kp kp pq ps fp fs fv fg fw ft fn i1 wk sp iw od) 777 [(0, .ref b), (1, .ref (a 19)), (2, .ref (a2 0)), (3, .int (nI i))] [] := by
  obtain ⟨hx, hNx, hF, hLp, hch, hkp, -, hi1, hpast, hslot, hsv⟩ := id hI
  obtain ⟨mk, n, b8, hW⟩ := id hx
  have hNR := hNx.to hW
  have hn8 : n ≤ 8 := Nat.le_trans hW.2.2.2.2.2.2.1 hW.2.2.2.2.2.1
  refine g_aload_n hG dL_law_777 rfl 1 rfl rfl ?_
  refine g_callVRX (n := 0) (As := []) (rest := []) hG (c_X6_longest l D a f na w td vl Lp pt fl kd kp (fqa pq) (fqa ps) (tlW D pq ps) mk n b8 hW hNR ) gL_law_X6_longest rfl (by decide +kernel) ⟨Nat.le_of_ble_eq_true rfl, Nat.le_of_ble_eq_true rfl⟩ 20 rfl rfl rfl rfl rfl (Nat.le_of_ble_eq_true rfl) dL_law_778 ⟨by show _ ≤ 600000; omega, by show _ ≤ 7302250; omega⟩ rfl (fun v hv => ?_)
  obtain rfl := hv
  refine g_st (st' := [_]) rfl ?_
  refine g_aload_n hG dL_law_781 rfl 2 rfl rfl ?_
  refine g_callVWp (n := 0) (As := []) (rest := [_]) hG hAg rfl (c_X7_longest l D a2 f fp fs fv fg fw td ft fn (nI i1) (nI kp) wk (nI Lp) sp iw od mk n b8 hW ) gL_law_X7_longest rfl (by decide +kernel) ⟨Nat.le_of_ble_eq_true rfl, Nat.le_of_ble_eq_true rfl⟩ 0 rfl rfl rfl rfl rfl (Nat.le_of_ble_eq_true rfl) dL_law_782 ⟨by show _ ≤ 600000; omega, by show _ ≤ 7302250; omega⟩ rfl (fun v w9 hv => ?_)
  obtain ⟨fg', wk', rfl, rfl⟩ := hv
  refine ⟨rfl, ?_⟩
  refine g_st (st' := [_, _]) rfl ?_
  refine g_icmp_eq hG dL_law_785 941 (by decide) rfl (fun _ => ?_) (fun h => absurd rfl h)
  refine g_widen (cs + 18) (sl + 420) (by omega) (by omega) ?_
  exact hback _ _ _ _ _ _ _ _ _ _ _ _ _ _ _ _ _ _ _ _ _ _ _ _ _ _ hI

set_option maxHeartbeats 4000000 in
set_option maxRecDepth 100000 in
theorem law_19 (l : Launch) {p : Program} {e : Env} {s : State} {m : MethodId} {b : Nat} {below : List Frame} {meth : Method} {c : Code} {D : DT} {A : Nat → Prop} {cs sl : Nat} {Q : State → Prop} {a a2 : Nat → Nat} {xs : Nat → Int32} {L i : Nat} (hG : GX p l e room_1 s m #[Value.ref b] below meth c D A 4 code RL wsL_law) (hAg : ∀ q, s.heap.size ≤ q → A q) (hX : va_X b L xs s s.heap) (hbl : b < s.heap.size) (hbA : ¬ A b) (hL : L ≤ 3072) (hi : i + 6 ≤ L) (hcs : cs + 18 ≤ 600000) (hsl : sl + 420 ≤ 7302250) (f : Nat → Int32) (na : Nat → Nat → Int32) (w td vl : Nat → Int32) (Lp pt fl : Nat) (kd : Int32) (kp : Nat) (pq ps : Nat → Option HH) (fp fs fv fg fw ft fn : Nat → Int32) (i1 : Nat) (wk sp iw od : Int32) (sv : Nat → Bool) (hI : INV f na td Lp kp kp pq ps fp fs fv i1 sv)
    (hback : LGO p l e s m b below meth c D A a a2 (cs + 18) (sl + 420) Q i) : GG p l e room_1 s m #[Value.ref b] below meth c D A 4 false cs sl Q (wL D a a2 f na w td vl Lp pt fl kd kp kp pq ps fp fs fv fg fw ft fn i1 wk sp iw od) 790 [(0, .ref b), (1, .ref (a 19)), (2, .ref (a2 0)), (3, .int (nI i))] [] := by
  obtain ⟨hx, hNx, hF, hLp, hch, hkp, -, hi1, hpast, hslot, hsv⟩ := id hI
  obtain ⟨mk, n, b8, hW⟩ := id hx
  have hNR := hNx.to hW
  have hn8 : n ≤ 8 := Nat.le_trans hW.2.2.2.2.2.2.1 hW.2.2.2.2.2.1
  refine g_aload_n hG dL_law_790 rfl 1 rfl rfl ?_
  refine g_aload_n hG dL_law_791 rfl 0 rfl rfl ?_
  refine g_iload_n hG dL_law_792 rfl 3 rfl rfl ?_
  refine g_iconst (v := (1 : Int32)) hG dL_law_793 (by decide) rfl ?_
  refine g_iadd hG dL_law_794 rfl ?_
  refine g_topi (y := nI (i + 1)) (nI_add (i) (1)) ?_
  refine g_sld (k := (i + 1)) hG hX hbl hbA dL_law_795 rfl (by omega) (by omega) rfl ?_
  refine g_i2l hG dL_law_796 rfl rfl ?_
  refine g_bipush (v := (32 : Int32)) hG dL_law_797 (by decide) rfl ?_
  refine g_lshl hG dL_law_799 rfl rfl ?_
  refine g_aload_n hG dL_law_800 rfl 0 rfl rfl ?_
  refine g_iload_n hG dL_law_801 rfl 3 rfl rfl ?_
  refine g_iconst (v := (2 : Int32)) hG dL_law_802 (by decide) rfl ?_
  refine g_iadd hG dL_law_803 rfl ?_
  refine g_topi (y := nI (i + 2)) (nI_add (i) (2)) ?_
  refine g_sld (k := (i + 2)) hG hX hbl hbA dL_law_804 rfl (by omega) (by omega) rfl ?_
  refine g_i2l hG dL_law_805 rfl rfl ?_
  refine g_ldc2 hG dL_law_806 (List.mem_of_getElem? (l := wsL_law) (i := 6) rfl) rfl ?_
  refine g_land hG dL_law_809 rfl ?_
  refine g_lor hG dL_law_810 rfl ?_
  refine g_toplN (fun nn hnn eN => ?_)
  refine g_callVX (n := 1) (As := [_]) (rest := []) hG hAg rfl (c_X6_put l D a f na w td vl Lp pt fl kd kp (fqa pq) (fqa ps) (tlW D pq ps) hLp nn hnn) gL_law_X6_put rfl (by decide +kernel) ⟨Nat.le_of_ble_eq_true rfl, Nat.le_of_ble_eq_true rfl⟩ 20 rfl rfl rfl rfl rfl (Nat.le_of_ble_eq_true rfl) dL_law_811 ⟨by show _ ≤ 600000; omega, by show _ ≤ 7302250; omega⟩ rfl (fun v w9 hv => ?_)
  obtain ⟨rfl, rfl⟩ := hv
  refine ⟨AD.rf rfl, ?_⟩
  refine g_st (st' := [_]) rfl ?_
  refine g_aload_n hG dL_law_814 rfl 2 rfl rfl ?_
  refine g_aload_n hG dL_law_815 rfl 0 rfl rfl ?_
  refine g_iload_n hG dL_law_816 rfl 3 rfl rfl ?_
  refine g_iconst (v := (1 : Int32)) hG dL_law_817 (by decide) rfl ?_
  refine g_iadd hG dL_law_818 rfl ?_
  refine g_topi (y := nI (i + 1)) (nI_add (i) (1)) ?_
  refine g_sld (k := (i + 1)) hG hX hbl hbA dL_law_819 rfl (by omega) (by omega) rfl ?_
  refine g_i2l hG dL_law_820 rfl rfl ?_
  refine g_bipush (v := (32 : Int32)) hG dL_law_821 (by decide) rfl ?_
  refine g_lshl hG dL_law_823 rfl rfl ?_
  refine g_aload_n hG dL_law_824 rfl 0 rfl rfl ?_
  refine g_iload_n hG dL_law_825 rfl 3 rfl rfl ?_
  refine g_iconst (v := (2 : Int32)) hG dL_law_826 (by decide) rfl ?_
  refine g_iadd hG dL_law_827 rfl ?_
  refine g_topi (y := nI (i + 2)) (nI_add (i) (2)) ?_
  refine g_sld (k := (i + 2)) hG hX hbl hbA dL_law_828 rfl (by omega) (by omega) rfl ?_
  refine g_i2l hG dL_law_829 rfl rfl ?_
  refine g_ldc2 hG dL_law_830 (List.mem_of_getElem? (l := wsL_law) (i := 6) rfl) rfl ?_
  refine g_land hG dL_law_833 rfl ?_
  refine g_lor hG dL_law_834 rfl ?_
  refine g_topl eN ?_
  refine g_callVWp (n := 1) (As := [_]) (rest := [_]) hG hAg rfl (c_X7_put l D a2 f fp fs fv fg fw td ft fn (nI i1) (nI kp) wk sp iw od Lp nn hLp hnn) gL_law_X7_put rfl (by decide +kernel) ⟨Nat.le_of_ble_eq_true rfl, Nat.le_of_ble_eq_true rfl⟩ 0 rfl rfl rfl rfl rfl (Nat.le_of_ble_eq_true rfl) dL_law_835 ⟨by show _ ≤ 600000; omega, by show _ ≤ 7302250; omega⟩ rfl (fun v w9 hv => ?_)
  obtain ⟨rfl, rfl⟩ := hv
  refine ⟨rfl, ?_⟩
  refine g_st (st' := [_, _]) rfl ?_
  refine g_icmp_eq hG dL_law_838 941 (by decide) rfl (fun _ => ?_) (fun h => absurd rfl h)
  refine g_widen (cs + 18) (sl + 420) (by omega) (by omega) ?_
  exact hback _ _ _ _ _ _ _ _ _ _ _ _ _ _ _ _ _ _ _ _ _ _ _ _ _ _ (inv_pad hI (put_ok hLp hch).1 (put_ok hLp hch).2)

set_option maxHeartbeats 4000000 in
set_option maxRecDepth 100000 in
theorem law_20 (l : Launch) {p : Program} {e : Env} {s : State} {m : MethodId} {b : Nat} {below : List Frame} {meth : Method} {c : Code} {D : DT} {A : Nat → Prop} {cs sl : Nat} {Q : State → Prop} {a a2 : Nat → Nat} {xs : Nat → Int32} {L i : Nat} (hG : GX p l e room_1 s m #[Value.ref b] below meth c D A 4 code RL wsL_law) (hAg : ∀ q, s.heap.size ≤ q → A q) (hX : va_X b L xs s s.heap) (hbl : b < s.heap.size) (hbA : ¬ A b) (hL : L ≤ 3072) (hi : i + 6 ≤ L) (hcs : cs + 18 ≤ 600000) (hsl : sl + 420 ≤ 7302250) (f : Nat → Int32) (na : Nat → Nat → Int32) (w td vl : Nat → Int32) (Lp pt fl : Nat) (kd : Int32) (kp : Nat) (pq ps : Nat → Option HH) (fp fs fv fg fw ft fn : Nat → Int32) (i1 : Nat) (wk sp iw od : Int32) (sv : Nat → Bool) (hI : INV f na td Lp kp kp pq ps fp fs fv i1 sv)
    (hback : LGO p l e s m b below meth c D A a a2 (cs + 18) (sl + 420) Q i) : GG p l e room_1 s m #[Value.ref b] below meth c D A 4 false cs sl Q (wL D a a2 f na w td vl Lp pt fl kd kp kp pq ps fp fs fv fg fw ft fn i1 wk sp iw od) 843 [(0, .ref b), (1, .ref (a 19)), (2, .ref (a2 0)), (3, .int (nI i))] [] := by
  obtain ⟨hx, hNx, hF, hLp, hch, hkp, -, hi1, hpast, hslot, hsv⟩ := id hI
  obtain ⟨mk, n, b8, hW⟩ := id hx
  have hNR := hNx.to hW
  have hn8 : n ≤ 8 := Nat.le_trans hW.2.2.2.2.2.2.1 hW.2.2.2.2.2.1
  refine g_aload_n hG dL_law_843 rfl 1 rfl rfl ?_
  refine g_callVX (n := 0) (As := []) (rest := []) hG hAg rfl (c_X6_wipe l D a f na w td vl Lp pt fl kd kp (fqa pq) (fqa ps) (tlW D pq ps) hLp) gL_law_X6_wipe rfl (by decide +kernel) ⟨Nat.le_of_ble_eq_true rfl, Nat.le_of_ble_eq_true rfl⟩ 20 rfl rfl rfl rfl rfl (Nat.le_of_ble_eq_true rfl) dL_law_844 ⟨by show _ ≤ 600000; omega, by show _ ≤ 7302250; omega⟩ rfl (fun v w9 hv => ?_)
  obtain ⟨rfl, rfl⟩ := hv
  refine ⟨AD.rf rfl, ?_⟩
  refine g_st (st' := [_]) rfl ?_
  refine g_aload_n hG dL_law_847 rfl 2 rfl rfl ?_
  refine g_callVWp (n := 0) (As := []) (rest := [_]) hG hAg rfl (c_X7_wipe l D a2 f fp fs fv fg fw td ft fn (nI i1) (nI kp) wk (nI Lp) sp iw od) gL_law_X7_wipe rfl (by decide +kernel) ⟨Nat.le_of_ble_eq_true rfl, Nat.le_of_ble_eq_true rfl⟩ 0 rfl rfl rfl rfl rfl (Nat.le_of_ble_eq_true rfl) dL_law_848 ⟨by show _ ≤ 600000; omega, by show _ ≤ 7302250; omega⟩ rfl (fun v w9 hv => ?_)
  obtain ⟨rfl, rfl⟩ := hv
  refine ⟨rfl, ?_⟩
  refine g_st (st' := [_, _]) rfl ?_
  refine g_icmp_eq hG dL_law_851 941 (by decide) rfl (fun _ => ?_) (fun h => absurd rfl h)
  refine g_widen (cs + 18) (sl + 420) (by omega) (by omega) ?_
  exact hback _ _ _ _ _ _ _ _ _ _ _ _ _ _ _ _ _ _ _ _ _ _ _ _ _ _ (inv_pad (L' := 0) (td' := td) hI (by omega) (fun k hk => absurd hk (Nat.not_lt_zero k)))

set_option maxHeartbeats 4000000 in
set_option maxRecDepth 100000 in
theorem law_21 (l : Launch) {p : Program} {e : Env} {s : State} {m : MethodId} {b : Nat} {below : List Frame} {meth : Method} {c : Code} {D : DT} {A : Nat → Prop} {cs sl : Nat} {Q : State → Prop} {a a2 : Nat → Nat} {xs : Nat → Int32} {L i : Nat} (hG : GX p l e room_1 s m #[Value.ref b] below meth c D A 4 code RL wsL_law) (hAg : ∀ q, s.heap.size ≤ q → A q) (hX : va_X b L xs s s.heap) (hbl : b < s.heap.size) (hbA : ¬ A b) (hL : L ≤ 3072) (hi : i + 6 ≤ L) (hcs : cs + 18 ≤ 600000) (hsl : sl + 420 ≤ 7302250) (f : Nat → Int32) (na : Nat → Nat → Int32) (w td vl : Nat → Int32) (Lp pt fl : Nat) (kd : Int32) (kp : Nat) (pq ps : Nat → Option HH) (fp fs fv fg fw ft fn : Nat → Int32) (i1 : Nat) (wk sp iw od : Int32) (sv : Nat → Bool) (hI : INV f na td Lp kp kp pq ps fp fs fv i1 sv)
    (hback : LGO p l e s m b below meth c D A a a2 (cs + 18) (sl + 420) Q i) : GG p l e room_1 s m #[Value.ref b] below meth c D A 4 false cs sl Q (wL D a a2 f na w td vl Lp pt fl kd kp kp pq ps fp fs fv fg fw ft fn i1 wk sp iw od) 856 [(0, .ref b), (1, .ref (a 19)), (2, .ref (a2 0)), (3, .int (nI i))] [] := by
  obtain ⟨hx, hNx, hF, hLp, hch, hkp, -, hi1, hpast, hslot, hsv⟩ := id hI
  obtain ⟨mk, n, b8, hW⟩ := id hx
  have hNR := hNx.to hW
  have hn8 : n ≤ 8 := Nat.le_trans hW.2.2.2.2.2.2.1 hW.2.2.2.2.2.1
  refine g_aload_n hG dL_law_856 rfl 1 rfl rfl ?_
  refine g_callVX (n := 0) (As := []) (rest := []) hG hAg rfl (c_X6_fault l D a f na w td vl Lp pt fl kd kp (fqa pq) (fqa ps) (tlW D pq ps) hLp hch) gL_law_X6_fault rfl (by decide +kernel) ⟨Nat.le_of_ble_eq_true rfl, Nat.le_of_ble_eq_true rfl⟩ 20 rfl rfl rfl rfl rfl (Nat.le_of_ble_eq_true rfl) dL_law_857 ⟨by show _ ≤ 600000; omega, by show _ ≤ 7302250; omega⟩ rfl (fun v w9 hv => ?_)
  obtain ⟨rfl, p9, f9, v9, k9, hp9, rfl⟩ := hv
  refine ⟨AD.rf rfl, ?_⟩
  refine g_st (st' := [_]) rfl ?_
  refine g_aload_n hG dL_law_860 rfl 2 rfl rfl ?_
  refine g_callVWp (n := 0) (As := []) (rest := [_]) hG hAg rfl (c_X7_fault l D a2 f fp fs fv fg fw td ft fn (nI i1) (nI kp) wk sp iw od Lp hLp) gL_law_X7_fault rfl (by decide +kernel) ⟨Nat.le_of_ble_eq_true rfl, Nat.le_of_ble_eq_true rfl⟩ 0 rfl rfl rfl rfl rfl (Nat.le_of_ble_eq_true rfl) dL_law_861 ⟨by show _ ≤ 600000; omega, by show _ ≤ 7302250; omega⟩ rfl (fun v w9 hv => ?_)
  obtain ⟨rfl, rfl, -, -⟩ := hv
  refine ⟨rfl, ?_⟩
  refine g_st (st' := [_, _]) rfl ?_
  refine g_icmp_eq hG dL_law_864 941 (by decide) rfl (fun _ => ?_) (fun h => absurd (flt_eq hLp) h)
  refine g_widen (cs + 18) (sl + 420) (by omega) (by omega) ?_
  exact hback _ _ _ _ _ _ _ _ _ _ _ _ _ _ _ _ _ _ _ _ _ _ _ _ _ _ hI
