set_option maxHeartbeats 4000000 in
set_option maxRecDepth 100000 in
theorem law_22a (l : Launch) {p : Program} {e : Env} {s : State} {m : MethodId} {b : Nat} {below : List Frame} {meth : Method} {c : Code} {D : DT} {A : Nat → Prop} {cs sl : Nat} {Q : State → Prop} {a a2 : Nat → Nat} {xs : Nat → Int32} {L i : Nat} (hG : GX p l e room_1 s m #[Value.ref b] below meth c D A 4 code RL wsL_law) (hAg : ∀ q, s.heap.size ≤ q → A q) (hX : va_X b L xs s s.heap) (hbl : b < s.heap.size) (hbA : ¬ A b) (hL : L ≤ 3072) (hi : i + 6 ≤ L) (hcs : cs + 18 ≤ 600000) (hsl : sl + 420 ≤ 7302250) (f : Nat → Int32) (na : Nat → Nat → Int32) (w td vl : Nat → Int32) (Lp pt fl : Nat) (kd : Int32) (kp : Nat) (pq ps : Nat → Option HH) (fp fs fv fg fw ft fn : Nat → Int32) (i1 : Nat) (wk sp iw od : Int32) (sv : Nat → Bool) (hI : INV f na td Lp kp kp pq ps fp fs fv i1 sv) (hz : (fltR td Lp fn ft).1.2.1 = true)
    (hback : LGO p l e s m b below meth c D A a a2 (cs + 18) (sl + 420) Q i) : GG p l e room_1 s m #[Value.ref b] below meth c D A 4 false cs sl Q (wL D a a2 f na w td vl Lp pt fl kd kp kp pq ps fp fs fv fg fw ft fn i1 wk sp iw od) 869 [(0, .ref b), (1, .ref (a 19)), (2, .ref (a2 0)), (3, .int (nI i))] [] := by
  obtain ⟨hx, hNx, hF, hLp, hch, hkp, -, hi1, hpast, hslot, hsv⟩ := id hI
  obtain ⟨mk, n, b8, hW⟩ := id hx
  have hNR := hNx.to hW
  have hn8 : n ≤ 8 := Nat.le_trans hW.2.2.2.2.2.2.1 hW.2.2.2.2.2.1
  have hn6 : ¬ yF td Lp 80 0 fl vl = -6 := fun z => by have := (flt_n6 (fn := fn) (ft := ft) hLp).mp z; rw [hz] at this; exact absurd this (by decide)
  refine g_aload_n hG dL_law_869 rfl 1 rfl rfl ?_
  refine g_callVX (n := 0) (As := []) (rest := []) hG hAg rfl (c_X6_carryOut l D a f na w td vl Lp pt fl kd kp pq ps mk n b8 hW hNR hF hkp hpast.hqs hLp hch) gL_law_X6_carryOut rfl (by decide +kernel) ⟨Nat.le_of_ble_eq_true rfl, Nat.le_of_ble_eq_true rfl⟩ 20 rfl rfl rfl rfl rfl (Nat.le_of_ble_eq_true rfl) dL_law_870 ⟨by show _ ≤ 600000; omega, by show _ ≤ 7302250; omega⟩ rfl (fun v w9 hv => ?_)
  obtain ⟨hAD, hv⟩ := hv
  obtain ⟨-, rfl, p9, f9, v9, k9, rfl⟩ := hv.resolve_right (fun z => hn6 z.1)
  refine ⟨hAD, ?_⟩
  refine g_st (st' := [_]) rfl ?_
  refine g_aload_n hG dL_law_873 rfl 2 rfl rfl ?_
  refine g_callVWp (n := 0) (As := []) (rest := [_]) hG hAg rfl (c_X7_carryOut l D a2 f fp fs fv fg fw td ft fn wk sp iw od i1 kp hi1 hkp hx Lp hLp) gL_law_X7_carryOut rfl (by decide +kernel) ⟨Nat.le_of_ble_eq_true rfl, Nat.le_of_ble_eq_true rfl⟩ 0 rfl rfl rfl rfl rfl (Nat.le_of_ble_eq_true rfl) dL_law_874 ⟨by show _ ≤ 600000; omega, by show _ ≤ 7302250; omega⟩ rfl (fun v w9 hv => ?_)
  obtain ⟨fg', fw', ft1, fn1, wk', sp', iw', od', hv1, -⟩ := hv
  obtain ⟨rfl, rfl⟩ := hv1 hz
  refine ⟨rfl, ?_⟩
  refine g_st (st' := [_, _]) rfl ?_
  refine g_icmp_eq hG dL_law_877 941 (by decide) rfl (fun _ => ?_) (fun h => absurd rfl h)
  refine g_widen (cs + 18) (sl + 420) (by omega) (by omega) ?_
  exact hback _ _ _ _ _ _ _ _ _ _ _ _ _ _ _ _ _ _ _ _ _ _ _ _ _ _ hI

set_option maxHeartbeats 4000000 in
set_option maxRecDepth 100000 in
theorem law_22b (l : Launch) {p : Program} {e : Env} {s : State} {m : MethodId} {b : Nat} {below : List Frame} {meth : Method} {c : Code} {D : DT} {A : Nat → Prop} {cs sl : Nat} {Q : State → Prop} {a a2 : Nat → Nat} {xs : Nat → Int32} {L i : Nat} (hG : GX p l e room_1 s m #[Value.ref b] below meth c D A 4 code RL wsL_law) (hAg : ∀ q, s.heap.size ≤ q → A q) (hX : va_X b L xs s s.heap) (hbl : b < s.heap.size) (hbA : ¬ A b) (hL : L ≤ 3072) (hi : i + 6 ≤ L) (hcs : cs + 18 ≤ 600000) (hsl : sl + 420 ≤ 7302250) (f : Nat → Int32) (na : Nat → Nat → Int32) (w td vl : Nat → Int32) (Lp pt fl : Nat) (kd : Int32) (kp : Nat) (pq ps : Nat → Option HH) (fp fs fv fg fw ft fn : Nat → Int32) (i1 : Nat) (wk sp iw od : Int32) (sv : Nat → Bool) (hI : INV f na td Lp kp kp pq ps fp fs fv i1 sv) (hz : (fltR td Lp fn ft).1.2.1 = false)
    (hback : LGO p l e s m b below meth c D A a a2 (cs + 18) (sl + 420) Q i) : GG p l e room_1 s m #[Value.ref b] below meth c D A 4 false cs sl Q (wL D a a2 f na w td vl Lp pt fl kd kp kp pq ps fp fs fv fg fw ft fn i1 wk sp iw od) 869 [(0, .ref b), (1, .ref (a 19)), (2, .ref (a2 0)), (3, .int (nI i))] [] := by
  obtain ⟨hx, hNx, hF, hLp, hch, hkp, -, hi1, hpast, hslot, hsv⟩ := id hI
  obtain ⟨mk, n, b8, hW⟩ := id hx
  have hNR := hNx.to hW
  have hn8 : n ≤ 8 := Nat.le_trans hW.2.2.2.2.2.2.1 hW.2.2.2.2.2.1
  have hn6 : yF td Lp 80 0 fl vl = -6 := (flt_n6 (fn := fn) (ft := ft) hLp).mpr hz
  refine g_aload_n hG dL_law_869 rfl 1 rfl rfl ?_
  refine g_callVX (n := 0) (As := []) (rest := []) hG hAg rfl (c_X6_carryOut l D a f na w td vl Lp pt fl kd kp pq ps mk n b8 hW hNR hF hkp hpast.hqs hLp hch) gL_law_X6_carryOut rfl (by decide +kernel) ⟨Nat.le_of_ble_eq_true rfl, Nat.le_of_ble_eq_true rfl⟩ 20 rfl rfl rfl rfl rfl (Nat.le_of_ble_eq_true rfl) dL_law_870 ⟨by show _ ≤ 600000; omega, by show _ ≤ 7302250; omega⟩ rfl (fun v w9 hv => ?_)
  obtain ⟨hAD, hv⟩ := hv
  obtain ⟨-, f9, v9, b9, nb, w2, vl2, p2, fl2, kd2, rfl, h80, hN9, rfl⟩ := hv.resolve_left (fun z => z.1 hn6)
  refine ⟨hAD, ?_⟩
  refine g_st (st' := [_]) rfl ?_
  refine g_aload_n hG dL_law_873 rfl 2 rfl rfl ?_
  refine g_callVWp (n := 0) (As := []) (rest := [_]) hG hAg rfl (c_X7_carryOut l D a2 f fp fs fv fg fw td ft fn wk sp iw od i1 kp hi1 hkp hx Lp hLp) gL_law_X7_carryOut rfl (by decide +kernel) ⟨Nat.le_of_ble_eq_true rfl, Nat.le_of_ble_eq_true rfl⟩ 0 rfl rfl rfl rfl rfl (Nat.le_of_ble_eq_true rfl) dL_law_874 ⟨by show _ ≤ 600000; omega, by show _ ≤ 7302250; omega⟩ rfl (fun v w9 hv => ?_)
  obtain ⟨fg', fw', ft1, fn1, wk', sp', iw', od', -, hv1⟩ := hv
  obtain ⟨rfl, rfl⟩ := hv1 hz
  have hx9 := cy_ok (td := td) (L := Lp) 80 0 0 f9 v9 f hx
  have hF9 := cy_fb (td := td) (L := Lp) 80 0 0 f9 v9 f hx hF
  have hcy := cy_eq (fl := f9) (vl := v9) (f := f) hLp hz
  rw [hcy] at h80 hN9 hx9 hF9
  refine ⟨rfl, ?_⟩
  refine g_st (st' := [_, _]) rfl ?_
  refine g_icmp_eq hG dL_law_877 941 (by decide) rfl (fun _ => ?_) (fun h => absurd (congrArg (fun z => nI z.1) hcy) h)
  refine g_widen (cs + 18) (sl + 420) (by omega) (by omega) ?_
  rw [hcy]
  exact hback _ _ _ _ _ 0 _ _ _ _ _ _ _ _ _ _ _ _ _ _ _ _ _ _ _ _ (inv_carry hI h80 hx9 hF9 hN9)

set_option maxHeartbeats 4000000 in
set_option maxRecDepth 100000 in
theorem law_23a (l : Launch) {p : Program} {e : Env} {s : State} {m : MethodId} {b : Nat} {below : List Frame} {meth : Method} {c : Code} {D : DT} {A : Nat → Prop} {cs sl : Nat} {Q : State → Prop} {a a2 : Nat → Nat} {xs : Nat → Int32} {L i : Nat} (hG : GX p l e room_1 s m #[Value.ref b] below meth c D A 4 code RL wsL_law) (hAg : ∀ q, s.heap.size ≤ q → A q) (hX : va_X b L xs s s.heap) (hbl : b < s.heap.size) (hbA : ¬ A b) (hL : L ≤ 3072) (hi : i + 6 ≤ L) (hcs : cs + 18 ≤ 600000) (hsl : sl + 420 ≤ 7302250) (f : Nat → Int32) (na : Nat → Nat → Int32) (w td vl : Nat → Int32) (Lp pt fl : Nat) (kd : Int32) (kp : Nat) (pq ps : Nat → Option HH) (fp fs fv fg fw ft fn : Nat → Int32) (i1 : Nat) (wk sp iw od : Int32) (sv : Nat → Bool) (hI : INV f na td Lp kp kp pq ps fp fs fv i1 sv) (hz : kp = 0)
    (hback : LGO p l e s m b below meth c D A a a2 (cs + 18) (sl + 420) Q i) : GG p l e room_1 s m #[Value.ref b] below meth c D A 4 false cs sl Q (wL D a a2 f na w td vl Lp pt fl kd kp kp pq ps fp fs fv fg fw ft fn i1 wk sp iw od) 882 [(0, .ref b), (1, .ref (a 19)), (2, .ref (a2 0)), (3, .int (nI i))] [] := by
  obtain ⟨hx, hNx, hF, hLp, hch, hkp, -, hi1, hpast, hslot, hsv⟩ := id hI
  obtain ⟨mk, n, b8, hW⟩ := id hx
  have hNR := hNx.to hW
  have hn8 : n ≤ 8 := Nat.le_trans hW.2.2.2.2.2.2.1 hW.2.2.2.2.2.1
  refine g_aload_n hG dL_law_882 rfl 1 rfl rfl ?_
  refine g_callVX (n := 0) (As := []) (rest := []) hG hAg rfl (c_X6_undo l D a f na w td vl Lp pt fl kd kp pq ps hkp hpast.hqs hpast.fbs) gL_law_X6_undo rfl (by decide +kernel) ⟨Nat.le_of_ble_eq_true rfl, Nat.le_of_ble_eq_true rfl⟩ 20 rfl rfl rfl rfl rfl (Nat.le_of_ble_eq_true rfl) dL_law_883 ⟨by show _ ≤ 600000; omega, by show _ ≤ 7302250; omega⟩ rfl (fun v w9 hv => ?_)
  obtain ⟨r9, rfl, hv⟩ := hv
  obtain ⟨-, rfl, rfl⟩ := hv.resolve_right (fun z => absurd z.1 (by omega))
  refine ⟨AD.rf rfl, ?_⟩
  refine g_st (st' := [_]) rfl ?_
  refine g_aload_n hG dL_law_886 rfl 2 rfl rfl ?_
  refine g_callVWp (n := 0) (As := []) (rest := [_]) hG hAg rfl (c_X7_undo l D a2 f fp fs fv fg fw td ft fn wk (nI Lp) sp iw od i1 kp hi1 hkp) gL_law_X7_undo rfl (by decide +kernel) ⟨Nat.le_of_ble_eq_true rfl, Nat.le_of_ble_eq_true rfl⟩ 0 rfl rfl rfl rfl rfl (Nat.le_of_ble_eq_true rfl) dL_law_887 ⟨by show _ ≤ 600000; omega, by show _ ≤ 7302250; omega⟩ rfl (fun v w9 hv => ?_)
  rw [if_pos hz] at hv
  obtain ⟨rfl, rfl⟩ := hv
  refine ⟨rfl, ?_⟩
  refine g_st (st' := [_, _]) rfl ?_
  refine g_icmp_eq hG dL_law_890 941 (by decide) rfl (fun _ => ?_) (fun h => absurd rfl h)
  refine g_widen (cs + 18) (sl + 420) (by omega) (by omega) ?_
  exact hback _ _ _ _ _ _ _ _ _ _ _ _ _ _ _ _ _ _ _ _ _ _ _ _ _ _ hI

set_option maxHeartbeats 4000000 in
set_option maxRecDepth 100000 in
theorem law_23b (l : Launch) {p : Program} {e : Env} {s : State} {m : MethodId} {b : Nat} {below : List Frame} {meth : Method} {c : Code} {D : DT} {A : Nat → Prop} {cs sl : Nat} {Q : State → Prop} {a a2 : Nat → Nat} {xs : Nat → Int32} {L i : Nat} (hG : GX p l e room_1 s m #[Value.ref b] below meth c D A 4 code RL wsL_law) (hAg : ∀ q, s.heap.size ≤ q → A q) (hX : va_X b L xs s s.heap) (hbl : b < s.heap.size) (hbA : ¬ A b) (hL : L ≤ 3072) (hi : i + 6 ≤ L) (hcs : cs + 18 ≤ 600000) (hsl : sl + 420 ≤ 7302250) (f : Nat → Int32) (na : Nat → Nat → Int32) (w td vl : Nat → Int32) (Lp pt fl : Nat) (kd : Int32) (kp : Nat) (pq ps : Nat → Option HH) (fp fs fv fg fw ft fn : Nat → Int32) (i1 : Nat) (wk sp iw od : Int32) (sv : Nat → Bool) (hI : INV f na td Lp kp kp pq ps fp fs fv i1 sv) (hz : 0 < kp)
    (hback : LGO p l e s m b below meth c D A a a2 (cs + 18) (sl + 420) Q i) : GG p l e room_1 s m #[Value.ref b] below meth c D A 4 false cs sl Q (wL D a a2 f na w td vl Lp pt fl kd kp kp pq ps fp fs fv fg fw ft fn i1 wk sp iw od) 882 [(0, .ref b), (1, .ref (a 19)), (2, .ref (a2 0)), (3, .int (nI i))] [] := by
  obtain ⟨hx, hNx, hF, hLp, hch, hkp, -, hi1, hpast, hslot, hsv⟩ := id hI
  obtain ⟨mk, n, b8, hW⟩ := id hx
  have hNR := hNx.to hW
  have hn8 : n ≤ 8 := Nat.le_trans hW.2.2.2.2.2.2.1 hW.2.2.2.2.2.1
  refine g_aload_n hG dL_law_882 rfl 1 rfl rfl ?_
  refine g_callVX (n := 0) (As := []) (rest := []) hG hAg rfl (c_X6_undo l D a f na w td vl Lp pt fl kd kp pq ps hkp hpast.hqs hpast.fbs) gL_law_X6_undo rfl (by decide +kernel) ⟨Nat.le_of_ble_eq_true rfl, Nat.le_of_ble_eq_true rfl⟩ 20 rfl rfl rfl rfl rfl (Nat.le_of_ble_eq_true rfl) dL_law_883 ⟨by show _ ≤ 600000; omega, by show _ ≤ 7302250; omega⟩ rfl (fun v w9 hv => ?_)
  obtain ⟨r9, rfl, hv⟩ := hv
  obtain ⟨-, rfl, b9, g9, nb9, hg9, rfl⟩ := hv.resolve_left (fun z => absurd z.1 (by omega))
  refine ⟨AD.rf rfl, ?_⟩
  refine g_st (st' := [_]) rfl ?_
  refine g_aload_n hG dL_law_886 rfl 2 rfl rfl ?_
  refine g_callVWp (n := 0) (As := []) (rest := [_]) hG hAg rfl (c_X7_undo l D a2 f fp fs fv fg fw td ft fn wk (nI Lp) sp iw od i1 kp hi1 hkp) gL_law_X7_undo rfl (by decide +kernel) ⟨Nat.le_of_ble_eq_true rfl, Nat.le_of_ble_eq_true rfl⟩ 0 rfl rfl rfl rfl rfl (Nat.le_of_ble_eq_true rfl) dL_law_887 ⟨by show _ ≤ 600000; omega, by show _ ≤ 7302250; omega⟩ rfl (fun v w9 hv => ?_)
  rw [if_neg (by omega)] at hv
  obtain ⟨rfl, rfl⟩ := hv
  obtain ⟨hu, hI9⟩ := inv_undo hI hz hg9
  refine ⟨rfl, ?_⟩
  refine g_st (st' := [_, _]) rfl ?_
  refine g_icmp_eq hG dL_law_890 941 (by decide) rfl (fun _ => ?_) (fun h => absurd rfl h)
  refine g_widen (cs + 18) (sl + 420) (by omega) (by omega) ?_
  rw [wB_f hu]
  exact hback _ _ _ _ _ _ _ _ _ _ _ _ _ _ _ _ _ _ _ _ _ _ _ _ _ _ hI9

set_option maxHeartbeats 4000000 in
set_option maxRecDepth 100000 in
theorem law_24a (l : Launch) {p : Program} {e : Env} {s : State} {m : MethodId} {b : Nat} {below : List Frame} {meth : Method} {c : Code} {D : DT} {A : Nat → Prop} {cs sl : Nat} {Q : State → Prop} {a a2 : Nat → Nat} {xs : Nat → Int32} {L i : Nat} (hG : GX p l e room_1 s m #[Value.ref b] below meth c D A 4 code RL wsL_law) (hAg : ∀ q, s.heap.size ≤ q → A q) (hX : va_X b L xs s s.heap) (hbl : b < s.heap.size) (hbA : ¬ A b) (hL : L ≤ 3072) (hi : i + 6 ≤ L) (hcs : cs + 18 ≤ 600000) (hsl : sl + 420 ≤ 7302250) (f : Nat → Int32) (na : Nat → Nat → Int32) (w td vl : Nat → Int32) (Lp pt fl : Nat) (kd : Int32) (kp : Nat) (pq ps : Nat → Option HH) (fp fs fv fg fw ft fn : Nat → Int32) (i1 : Nat) (wk sp iw od : Int32) (sv : Nat → Bool) (hI : INV f na td Lp kp kp pq ps fp fs fv i1 sv) (hz : rng 2 (xs (i + 1)) = true)
    (hback : LGO p l e s m b below meth c D A a a2 (cs + 18) (sl + 420) Q i) : GG p l e room_1 s m #[Value.ref b] below meth c D A 4 false cs sl Q (wL D a a2 f na w td vl Lp pt fl kd kp kp pq ps fp fs fv fg fw ft fn i1 wk sp iw od) 895 [(0, .ref b), (1, .ref (a 19)), (2, .ref (a2 0)), (3, .int (nI i))] [] := by
  obtain ⟨hx, hNx, hF, hLp, hch, hkp, -, hi1, hpast, hslot, hsv⟩ := id hI
  obtain ⟨mk, n, b8, hW⟩ := id hx
  have hNR := hNx.to hW
  have hn8 : n ≤ 8 := Nat.le_trans hW.2.2.2.2.2.2.1 hW.2.2.2.2.2.1
  refine g_aload_n hG dL_law_895 rfl 1 rfl rfl ?_
  refine g_aload_n hG dL_law_896 rfl 0 rfl rfl ?_
  refine g_iload_n hG dL_law_897 rfl 3 rfl rfl ?_
  refine g_iconst (v := (1 : Int32)) hG dL_law_898 (by decide) rfl ?_
  refine g_iadd hG dL_law_899 rfl ?_
  refine g_topi (y := nI (i + 1)) (nI_add (i) (1)) ?_
  refine g_sld (k := (i + 1)) hG hX hbl hbA dL_law_900 rfl (by omega) (by omega) rfl ?_
  refine g_callVX (n := 1) (As := [_]) (rest := []) hG hAg rfl (c_X6_save l D a f na w td vl Lp pt fl kd kp pq ps hF (xs (i + 1))) gL_law_X6_save rfl (by decide +kernel) ⟨Nat.le_of_ble_eq_true rfl, Nat.le_of_ble_eq_true rfl⟩ 20 rfl rfl rfl rfl rfl (Nat.le_of_ble_eq_true rfl) dL_law_901 ⟨by show _ ≤ 600000; omega, by show _ ≤ 7302250; omega⟩ rfl (fun v w9 hv => ?_)
  obtain ⟨hAD, hv⟩ := hv
  obtain ⟨-, rfl, b9, rfl⟩ := hv.resolve_right (fun z => absurd (hz.symm.trans z.1) (by decide))
  refine ⟨hAD, ?_⟩
  refine g_st (st' := [_]) rfl ?_
  refine g_aload_n hG dL_law_904 rfl 2 rfl rfl ?_
  refine g_aload_n hG dL_law_905 rfl 0 rfl rfl ?_
  refine g_iload_n hG dL_law_906 rfl 3 rfl rfl ?_
  refine g_iconst (v := (1 : Int32)) hG dL_law_907 (by decide) rfl ?_
  refine g_iadd hG dL_law_908 rfl ?_
  refine g_topi (y := nI (i + 1)) (nI_add (i) (1)) ?_
  refine g_sld (k := (i + 1)) hG hX hbl hbA dL_law_909 rfl (by omega) (by omega) rfl ?_
  refine g_callVWp (n := 1) (As := [_]) (rest := [_]) hG hAg rfl (c_X7_save l D a2 f fp fs fv fg fw td ft fn (nI i1) (nI kp) wk (nI Lp) sp iw od (xs (i + 1))) gL_law_X7_save rfl (by decide +kernel) ⟨Nat.le_of_ble_eq_true rfl, Nat.le_of_ble_eq_true rfl⟩ 0 rfl rfl rfl rfl rfl (Nat.le_of_ble_eq_true rfl) dL_law_910 ⟨by show _ ≤ 600000; omega, by show _ ≤ 7302250; omega⟩ rfl (fun v w9 hv => ?_)
  rw [if_pos hz] at hv
  obtain ⟨rfl, rfl⟩ := hv
  refine ⟨rfl, ?_⟩
  refine g_st (st' := [_, _]) rfl ?_
  refine g_icmp_eq hG dL_law_913 941 (by decide) rfl (fun _ => ?_) (fun h => absurd rfl h)
  refine g_widen (cs + 18) (sl + 420) (by omega) (by omega) ?_
  exact hback _ _ _ _ _ _ _ _ _ _ _ _ _ _ _ _ _ _ _ _ _ _ _ _ _ _ (inv_save hI (slot_lt hz))

set_option maxHeartbeats 4000000 in
set_option maxRecDepth 100000 in
theorem law_24b (l : Launch) {p : Program} {e : Env} {s : State} {m : MethodId} {b : Nat} {below : List Frame} {meth : Method} {c : Code} {D : DT} {A : Nat → Prop} {cs sl : Nat} {Q : State → Prop} {a a2 : Nat → Nat} {xs : Nat → Int32} {L i : Nat} (hG : GX p l e room_1 s m #[Value.ref b] below meth c D A 4 code RL wsL_law) (hAg : ∀ q, s.heap.size ≤ q → A q) (hX : va_X b L xs s s.heap) (hbl : b < s.heap.size) (hbA : ¬ A b) (hL : L ≤ 3072) (hi : i + 6 ≤ L) (hcs : cs + 18 ≤ 600000) (hsl : sl + 420 ≤ 7302250) (f : Nat → Int32) (na : Nat → Nat → Int32) (w td vl : Nat → Int32) (Lp pt fl : Nat) (kd : Int32) (kp : Nat) (pq ps : Nat → Option HH) (fp fs fv fg fw ft fn : Nat → Int32) (i1 : Nat) (wk sp iw od : Int32) (sv : Nat → Bool) (hI : INV f na td Lp kp kp pq ps fp fs fv i1 sv) (hz : rng 2 (xs (i + 1)) = false)
    (hback : LGO p l e s m b below meth c D A a a2 (cs + 18) (sl + 420) Q i) : GG p l e room_1 s m #[Value.ref b] below meth c D A 4 false cs sl Q (wL D a a2 f na w td vl Lp pt fl kd kp kp pq ps fp fs fv fg fw ft fn i1 wk sp iw od) 895 [(0, .ref b), (1, .ref (a 19)), (2, .ref (a2 0)), (3, .int (nI i))] [] := by
  obtain ⟨hx, hNx, hF, hLp, hch, hkp, -, hi1, hpast, hslot, hsv⟩ := id hI
  obtain ⟨mk, n, b8, hW⟩ := id hx
  have hNR := hNx.to hW
  have hn8 : n ≤ 8 := Nat.le_trans hW.2.2.2.2.2.2.1 hW.2.2.2.2.2.1
  refine g_aload_n hG dL_law_895 rfl 1 rfl rfl ?_
  refine g_aload_n hG dL_law_896 rfl 0 rfl rfl ?_
  refine g_iload_n hG dL_law_897 rfl 3 rfl rfl ?_
  refine g_iconst (v := (1 : Int32)) hG dL_law_898 (by decide) rfl ?_
  refine g_iadd hG dL_law_899 rfl ?_
  refine g_topi (y := nI (i + 1)) (nI_add (i) (1)) ?_
  refine g_sld (k := (i + 1)) hG hX hbl hbA dL_law_900 rfl (by omega) (by omega) rfl ?_
  refine g_callVX (n := 1) (As := [_]) (rest := []) hG hAg rfl (c_X6_save l D a f na w td vl Lp pt fl kd kp pq ps hF (xs (i + 1))) gL_law_X6_save rfl (by decide +kernel) ⟨Nat.le_of_ble_eq_true rfl, Nat.le_of_ble_eq_true rfl⟩ 20 rfl rfl rfl rfl rfl (Nat.le_of_ble_eq_true rfl) dL_law_901 ⟨by show _ ≤ 600000; omega, by show _ ≤ 7302250; omega⟩ rfl (fun v w9 hv => ?_)
  obtain ⟨hAD, hv⟩ := hv
  obtain ⟨-, rfl, rfl⟩ := hv.resolve_left (fun z => absurd (hz.symm.trans z.1) (by decide))
  refine ⟨hAD, ?_⟩
  refine g_st (st' := [_]) rfl ?_
  refine g_aload_n hG dL_law_904 rfl 2 rfl rfl ?_
  refine g_aload_n hG dL_law_905 rfl 0 rfl rfl ?_
  refine g_iload_n hG dL_law_906 rfl 3 rfl rfl ?_
  refine g_iconst (v := (1 : Int32)) hG dL_law_907 (by decide) rfl ?_
  refine g_iadd hG dL_law_908 rfl ?_
  refine g_topi (y := nI (i + 1)) (nI_add (i) (1)) ?_
  refine g_sld (k := (i + 1)) hG hX hbl hbA dL_law_909 rfl (by omega) (by omega) rfl ?_
  refine g_callVWp (n := 1) (As := [_]) (rest := [_]) hG hAg rfl (c_X7_save l D a2 f fp fs fv fg fw td ft fn (nI i1) (nI kp) wk (nI Lp) sp iw od (xs (i + 1))) gL_law_X7_save rfl (by decide +kernel) ⟨Nat.le_of_ble_eq_true rfl, Nat.le_of_ble_eq_true rfl⟩ 0 rfl rfl rfl rfl rfl (Nat.le_of_ble_eq_true rfl) dL_law_910 ⟨by show _ ≤ 600000; omega, by show _ ≤ 7302250; omega⟩ rfl (fun v w9 hv => ?_)
  rw [if_neg (by rw [hz]; exact Bool.false_ne_true)] at hv
  obtain ⟨rfl, rfl⟩ := hv
  refine ⟨rfl, ?_⟩
  refine g_st (st' := [_, _]) rfl ?_
  refine g_icmp_eq hG dL_law_913 941 (by decide) rfl (fun _ => ?_) (fun h => absurd rfl h)
  refine g_widen (cs + 18) (sl + 420) (by omega) (by omega) ?_
  exact hback _ _ _ _ _ _ _ _ _ _ _ _ _ _ _ _ _ _ _ _ _ _ _ _ _ _ hI

set_option maxHeartbeats 4000000 in
set_option maxRecDepth 100000 in
theorem law_25a (l : Launch) {p : Program} {e : Env} {s : State} {m : MethodId} {b : Nat} {below : List Frame} {meth : Method} {c : Code} {D : DT} {A : Nat → Prop} {cs sl : Nat} {Q : State → Prop} {a a2 : Nat → Nat} {xs : Nat → Int32} {L i : Nat} (hG : GX p l e room_1 s m #[Value.ref b] below meth c D A 4 code RL wsL_law) (hAg : ∀ q, s.heap.size ≤ q → A q) (hX : va_X b L xs s s.heap) (hbl : b < s.heap.size) (hbA : ¬ A b) (hL : L ≤ 3072) (hi : i + 6 ≤ L) (hcs : cs + 18 ≤ 600000) (hsl : sl + 420 ≤ 7302250) (f : Nat → Int32) (na : Nat → Nat → Int32) (w td vl : Nat → Int32) (Lp pt fl : Nat) (kd : Int32) (kp : Nat) (pq ps : Nat → Option HH) (fp fs fv fg fw ft fn : Nat → Int32) (i1 : Nat) (wk sp iw od : Int32) (sv : Nat → Bool) (hI : INV f na td Lp kp kp pq ps fp fs fv i1 sv) (hz : rng 2 (xs (i + 1)) = false)
    (hback : LGO p l e s m b below meth c D A a a2 (cs + 18) (sl + 420) Q i) : GG p l e room_1 s m #[Value.ref b] below meth c D A 4 false cs sl Q (wL D a a2 f na w td vl Lp pt fl kd kp kp pq ps fp fs fv fg fw ft fn i1 wk sp iw od) 918 [(0, .ref b), (1, .ref (a 19)), (2, .ref (a2 0)), (3, .int (nI i))] [] := by
  obtain ⟨hx, hNx, hF, hLp, hch, hkp, -, hi1, hpast, hslot, hsv⟩ := id hI
  obtain ⟨mk, n, b8, hW⟩ := id hx
  have hNR := hNx.to hW
  have hn8 : n ≤ 8 := Nat.le_trans hW.2.2.2.2.2.2.1 hW.2.2.2.2.2.1
  refine g_aload_n hG dL_law_918 rfl 1 rfl rfl ?_
  refine g_aload_n hG dL_law_919 rfl 0 rfl rfl ?_
  refine g_iload_n hG dL_law_920 rfl 3 rfl rfl ?_
  refine g_iconst (v := (1 : Int32)) hG dL_law_921 (by decide) rfl ?_
  refine g_iadd hG dL_law_922 rfl ?_
  refine g_topi (y := nI (i + 1)) (nI_add (i) (1)) ?_
  refine g_sld (k := (i + 1)) hG hX hbl hbA dL_law_923 rfl (by omega) (by omega) rfl ?_
  refine g_callVX (n := 1) (As := [_]) (rest := []) hG hAg rfl (c_X6_restore l D a f na w td vl Lp pt fl kd kp pq ps hF hkp hpast.hqs hslot.fbs (xs (i + 1))) gL_law_X6_restore rfl (by decide +kernel) ⟨Nat.le_of_ble_eq_true rfl, Nat.le_of_ble_eq_true rfl⟩ 20 rfl rfl rfl rfl rfl (Nat.le_of_ble_eq_true rfl) dL_law_924 ⟨by show _ ≤ 600000; omega, by show _ ≤ 7302250; omega⟩ rfl (fun v w9 hv => ?_)
  obtain ⟨hAD, hv⟩ := hv
  obtain ⟨-, rfl, rfl⟩ := hv.resolve_right (fun z => z.elim (fun z => absurd (hz.symm.trans z.1) (by decide)) (fun z => absurd (hz.symm.trans z.1) (by decide)))
  refine ⟨hAD, ?_⟩
  refine g_st (st' := [_]) rfl ?_
  refine g_aload_n hG dL_law_927 rfl 2 rfl rfl ?_
  refine g_aload_n hG dL_law_928 rfl 0 rfl rfl ?_
  refine g_iload_n hG dL_law_929 rfl 3 rfl rfl ?_
  refine g_iconst (v := (1 : Int32)) hG dL_law_930 (by decide) rfl ?_
  refine g_iadd hG dL_law_931 rfl ?_
  refine g_topi (y := nI (i + 1)) (nI_add (i) (1)) ?_
  refine g_sld (k := (i + 1)) hG hX hbl hbA dL_law_932 rfl (by omega) (by omega) rfl ?_
  refine g_callVWp (n := 1) (As := [_]) (rest := [_]) hG hAg rfl (c_X7_restore l D a2 f fp fs fv fg fw td ft fn wk (nI Lp) sp iw od i1 kp hi1 hkp sv hsv (xs (i + 1))) gL_law_X7_restore rfl (by decide +kernel) ⟨Nat.le_of_ble_eq_true rfl, Nat.le_of_ble_eq_true rfl⟩ 0 rfl rfl rfl rfl rfl (Nat.le_of_ble_eq_true rfl) dL_law_933 ⟨by show _ ≤ 600000; omega, by show _ ≤ 7302250; omega⟩ rfl (fun v w9 hv => ?_)
  rw [if_neg (by rw [hz]; exact Bool.false_ne_true)] at hv
  obtain ⟨rfl, rfl⟩ := hv
  refine ⟨rfl, ?_⟩
  refine g_st (st' := [_, _]) rfl ?_
  refine g_icmp_eq hG dL_law_936 941 (by decide) rfl (fun _ => ?_) (fun h => absurd rfl h)
  refine g_widen (cs + 18) (sl + 420) (by omega) (by omega) ?_
  exact hback _ _ _ _ _ _ _ _ _ _ _ _ _ _ _ _ _ _ _ _ _ _ _ _ _ _ hI

set_option maxHeartbeats 4000000 in
set_option maxRecDepth 100000 in
theorem law_25b (l : Launch) {p : Program} {e : Env} {s : State} {m : MethodId} {b : Nat} {below : List Frame} {meth : Method} {c : Code} {D : DT} {A : Nat → Prop} {cs sl : Nat} {Q : State → Prop} {a a2 : Nat → Nat} {xs : Nat → Int32} {L i : Nat} (hG : GX p l e room_1 s m #[Value.ref b] below meth c D A 4 code RL wsL_law) (hAg : ∀ q, s.heap.size ≤ q → A q) (hX : va_X b L xs s s.heap) (hbl : b < s.heap.size) (hbA : ¬ A b) (hL : L ≤ 3072) (hi : i + 6 ≤ L) (hcs : cs + 18 ≤ 600000) (hsl : sl + 420 ≤ 7302250) (f : Nat → Int32) (na : Nat → Nat → Int32) (w td vl : Nat → Int32) (Lp pt fl : Nat) (kd : Int32) (kp : Nat) (pq ps : Nat → Option HH) (fp fs fv fg fw ft fn : Nat → Int32) (i1 : Nat) (wk sp iw od : Int32) (sv : Nat → Bool) (hI : INV f na td Lp kp kp pq ps fp fs fv i1 sv) (hz : rng 2 (xs (i + 1)) = true) (hs : sv (xs (i + 1)).toNatClampNeg = false)
    (hback : LGO p l e s m b below meth c D A a a2 (cs + 18) (sl + 420) Q i) : GG p l e room_1 s m #[Value.ref b] below meth c D A 4 false cs sl Q (wL D a a2 f na w td vl Lp pt fl kd kp kp pq ps fp fs fv fg fw ft fn i1 wk sp iw od) 918 [(0, .ref b), (1, .ref (a 19)), (2, .ref (a2 0)), (3, .int (nI i))] [] := by
  obtain ⟨hx, hNx, hF, hLp, hch, hkp, -, hi1, hpast, hslot, hsv⟩ := id hI
  obtain ⟨mk, n, b8, hW⟩ := id hx
  have hNR := hNx.to hW
  have hn8 : n ≤ 8 := Nat.le_trans hW.2.2.2.2.2.2.1 hW.2.2.2.2.2.1
  have hps := (hslot _ (slot_lt hz)).1 hs
  refine g_aload_n hG dL_law_918 rfl 1 rfl rfl ?_
  refine g_aload_n hG dL_law_919 rfl 0 rfl rfl ?_
  refine g_iload_n hG dL_law_920 rfl 3 rfl rfl ?_
  refine g_iconst (v := (1 : Int32)) hG dL_law_921 (by decide) rfl ?_
  refine g_iadd hG dL_law_922 rfl ?_
  refine g_topi (y := nI (i + 1)) (nI_add (i) (1)) ?_
  refine g_sld (k := (i + 1)) hG hX hbl hbA dL_law_923 rfl (by omega) (by omega) rfl ?_
  refine g_callVX (n := 1) (As := [_]) (rest := []) hG hAg rfl (c_X6_restore l D a f na w td vl Lp pt fl kd kp pq ps hF hkp hpast.hqs hslot.fbs (xs (i + 1))) gL_law_X6_restore rfl (by decide +kernel) ⟨Nat.le_of_ble_eq_true rfl, Nat.le_of_ble_eq_true rfl⟩ 20 rfl rfl rfl rfl rfl (Nat.le_of_ble_eq_true rfl) dL_law_924 ⟨by show _ ≤ 600000; omega, by show _ ≤ 7302250; omega⟩ rfl (fun v w9 hv => ?_)
  obtain ⟨hAD, hv⟩ := hv
  obtain ⟨-, -, rfl, rfl⟩ := (hv.resolve_left (fun z => absurd (hz.symm.trans z.1) (by decide))).resolve_right (fun z => by obtain ⟨-, b9, g9, nb9, b0, hg, -⟩ := z; rw [hps] at hg; cases hg)
  refine ⟨hAD, ?_⟩
  refine g_st (st' := [_]) rfl ?_
  refine g_aload_n hG dL_law_927 rfl 2 rfl rfl ?_
  refine g_aload_n hG dL_law_928 rfl 0 rfl rfl ?_
  refine g_iload_n hG dL_law_929 rfl 3 rfl rfl ?_
  refine g_iconst (v := (1 : Int32)) hG dL_law_930 (by decide) rfl ?_
  refine g_iadd hG dL_law_931 rfl ?_
  refine g_topi (y := nI (i + 1)) (nI_add (i) (1)) ?_
  refine g_sld (k := (i + 1)) hG hX hbl hbA dL_law_932 rfl (by omega) (by omega) rfl ?_
  refine g_callVWp (n := 1) (As := [_]) (rest := [_]) hG hAg rfl (c_X7_restore l D a2 f fp fs fv fg fw td ft fn wk (nI Lp) sp iw od i1 kp hi1 hkp sv hsv (xs (i + 1))) gL_law_X7_restore rfl (by decide +kernel) ⟨Nat.le_of_ble_eq_true rfl, Nat.le_of_ble_eq_true rfl⟩ 0 rfl rfl rfl rfl rfl (Nat.le_of_ble_eq_true rfl) dL_law_933 ⟨by show _ ≤ 600000; omega, by show _ ≤ 7302250; omega⟩ rfl (fun v w9 hv => ?_)
  rw [if_pos hz, if_neg (by rw [hs]; exact Bool.false_ne_true)] at hv
  obtain ⟨rfl, rfl⟩ := hv
  refine ⟨rfl, ?_⟩
  refine g_st (st' := [_, _]) rfl ?_
  refine g_icmp_eq hG dL_law_936 941 (by decide) rfl (fun _ => ?_) (fun h => absurd rfl h)
  refine g_widen (cs + 18) (sl + 420) (by omega) (by omega) ?_
  exact hback _ _ _ _ _ _ _ _ _ _ _ _ _ _ _ _ _ _ _ _ _ _ _ _ _ _ hI

set_option maxHeartbeats 4000000 in
set_option maxRecDepth 100000 in
theorem law_25c (l : Launch) {p : Program} {e : Env} {s : State} {m : MethodId} {b : Nat} {below : List Frame} {meth : Method} {c : Code} {D : DT} {A : Nat → Prop} {cs sl : Nat} {Q : State → Prop} {a a2 : Nat → Nat} {xs : Nat → Int32} {L i : Nat} (hG : GX p l e room_1 s m #[Value.ref b] below meth c D A 4 code RL wsL_law) (hAg : ∀ q, s.heap.size ≤ q → A q) (hX : va_X b L xs s s.heap) (hbl : b < s.heap.size) (hbA : ¬ A b) (hL : L ≤ 3072) (hi : i + 6 ≤ L) (hcs : cs + 18 ≤ 600000) (hsl : sl + 420 ≤ 7302250) (f : Nat → Int32) (na : Nat → Nat → Int32) (w td vl : Nat → Int32) (Lp pt fl : Nat) (kd : Int32) (kp : Nat) (pq ps : Nat → Option HH) (fp fs fv fg fw ft fn : Nat → Int32) (i1 : Nat) (wk sp iw od : Int32) (sv : Nat → Bool) (hI : INV f na td Lp kp kp pq ps fp fs fv i1 sv) (hz : rng 2 (xs (i + 1)) = true) (hs : sv (xs (i + 1)).toNatClampNeg = true)
    (hback : LGO p l e s m b below meth c D A a a2 (cs + 18) (sl + 420) Q i) : GG p l e room_1 s m #[Value.ref b] below meth c D A 4 false cs sl Q (wL D a a2 f na w td vl Lp pt fl kd kp kp pq ps fp fs fv fg fw ft fn i1 wk sp iw od) 918 [(0, .ref b), (1, .ref (a 19)), (2, .ref (a2 0)), (3, .int (nI i))] [] := by
  obtain ⟨hx, hNx, hF, hLp, hch, hkp, -, hi1, hpast, hslot, hsv⟩ := id hI
  obtain ⟨mk, n, b8, hW⟩ := id hx
  have hNR := hNx.to hW
  have hn8 : n ≤ 8 := Nat.le_trans hW.2.2.2.2.2.2.1 hW.2.2.2.2.2.1
  have hps := (hslot _ (slot_lt hz)).2 hs
  refine g_aload_n hG dL_law_918 rfl 1 rfl rfl ?_
  refine g_aload_n hG dL_law_919 rfl 0 rfl rfl ?_
  refine g_iload_n hG dL_law_920 rfl 3 rfl rfl ?_
  refine g_iconst (v := (1 : Int32)) hG dL_law_921 (by decide) rfl ?_
  refine g_iadd hG dL_law_922 rfl ?_
  refine g_topi (y := nI (i + 1)) (nI_add (i) (1)) ?_
  refine g_sld (k := (i + 1)) hG hX hbl hbA dL_law_923 rfl (by omega) (by omega) rfl ?_
  refine g_callVX (n := 1) (As := [_]) (rest := []) hG hAg rfl (c_X6_restore l D a f na w td vl Lp pt fl kd kp pq ps hF hkp hpast.hqs hslot.fbs (xs (i + 1))) gL_law_X6_restore rfl (by decide +kernel) ⟨Nat.le_of_ble_eq_true rfl, Nat.le_of_ble_eq_true rfl⟩ 20 rfl rfl rfl rfl rfl (Nat.le_of_ble_eq_true rfl) dL_law_924 ⟨by show _ ≤ 600000; omega, by show _ ≤ 7302250; omega⟩ rfl (fun v w9 hv => ?_)
  obtain ⟨hAD, hv⟩ := hv
  obtain ⟨-, b9, g9, nb9, b0, hg9, rfl, rfl⟩ := (hv.resolve_left (fun z => absurd (hz.symm.trans z.1) (by decide))).resolve_left (fun z => by obtain ⟨h9, e9, -⟩ := hps; rw [z.2.1] at e9; cases e9)
  obtain ⟨-, e76, h076, hu, hI9⟩ := inv_restore (b0 := b0) hI (slot_lt hz) hg9
  refine ⟨hAD, ?_⟩
  refine g_st (st' := [_]) rfl ?_
  refine g_aload_n hG dL_law_927 rfl 2 rfl rfl ?_
  refine g_aload_n hG dL_law_928 rfl 0 rfl rfl ?_
  refine g_iload_n hG dL_law_929 rfl 3 rfl rfl ?_
  refine g_iconst (v := (1 : Int32)) hG dL_law_930 (by decide) rfl ?_
  refine g_iadd hG dL_law_931 rfl ?_
  refine g_topi (y := nI (i + 1)) (nI_add (i) (1)) ?_
  refine g_sld (k := (i + 1)) hG hX hbl hbA dL_law_932 rfl (by omega) (by omega) rfl ?_
  refine g_callVWp (n := 1) (As := [_]) (rest := [_]) hG hAg rfl (c_X7_restore l D a2 f fp fs fv fg fw td ft fn wk (nI Lp) sp iw od i1 kp hi1 hkp sv hsv (xs (i + 1))) gL_law_X7_restore rfl (by decide +kernel) ⟨Nat.le_of_ble_eq_true rfl, Nat.le_of_ble_eq_true rfl⟩ 0 rfl rfl rfl rfl rfl (Nat.le_of_ble_eq_true rfl) dL_law_933 ⟨by show _ ≤ 600000; omega, by show _ ≤ 7302250; omega⟩ rfl (fun v w9 hv => ?_)
  rw [if_pos hz, if_pos hs] at hv
  obtain ⟨rfl, rfl⟩ := hv
  refine ⟨rfl, ?_⟩
  refine g_st (st' := [_, _]) rfl ?_
  refine g_icmp_eq hG dL_law_936 941 (by decide) rfl (fun _ => ?_) (fun h => absurd e76 h)
  refine g_widen (cs + 18) (sl + 420) (by omega) (by omega) ?_
  rw [wB_f hu]
  exact hback _ _ _ _ _ _ _ _ _ _ _ _ _ _ _ _ _ _ _ _ _ _ _ _ _ _ hI9
