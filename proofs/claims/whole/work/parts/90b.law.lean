set_option maxHeartbeats 4000000 in
set_option maxRecDepth 100000 in
theorem law_5 (l : Launch) {p : Program} {e : Env} {s : State} {m : MethodId} {b : Nat} {below : List Frame} {meth : Method} {c : Code} {D : DT} {A : Nat → Prop} {cs sl : Nat} {Q : State → Prop} {a a2 : Nat → Nat} {xs : Nat → Int32} {L i : Nat} (hG : GX p l e room_1 s m #[Value.ref b] below meth c D A 4 code RL wsL_law) (hAg : ∀ q, s.heap.size ≤ q → A q) (hX : va_X b L xs s s.heap) (hbl : b < s.heap.size) (hbA : ¬ A b) (hL : L ≤ 3072) (hi : i + 6 ≤ L) (hcs : cs + 18 ≤ 600000) (hsl : sl + 420 ≤ 7302250) (f : Nat → Int32) (na : Nat → Nat → Int32) (w td vl : Nat → Int32) (Lp pt fl : Nat) (kd : Int32) (kp : Nat) (pq ps : Nat → Option HH) (fp fs fv fg fw ft fn : Nat → Int32) (i1 : Nat) (wk sp iw od : Int32) (sv : Nat → Bool) (hI : INV f na td Lp kp kp pq ps fp fs fv i1 sv)
    (hback : LGO p l e s m b below meth c D A a a2 (cs + 18) (sl + 420) Q i) : GG p l e room_1 s m #[Value.ref b] below meth c D A 4 false cs sl Q (wL D a a2 f na w td vl Lp pt fl kd kp kp pq ps fp fs fv fg fw ft fn i1 wk sp iw od) 377 [(0, .ref b), (1, .ref (a 19)), (2, .ref (a2 0)), (3, .int (nI i))] [] := by
  obtain ⟨hx, hNx, hF, hLp, hch, hkp, -, hi1, hpast, hslot, hsv⟩ := id hI
  obtain ⟨mk, n, b8, hW⟩ := id hx
  have hNR := hNx.to hW
  have hn8 : n ≤ 8 := Nat.le_trans hW.2.2.2.2.2.2.1 hW.2.2.2.2.2.1
  refine g_aload_n hG dL_law_377 rfl 1 rfl rfl ?_
  refine g_aload_n hG dL_law_378 rfl 0 rfl rfl ?_
  refine g_iload_n hG dL_law_379 rfl 3 rfl rfl ?_
  refine g_iconst (v := (1 : Int32)) hG dL_law_380 (by decide) rfl ?_
  refine g_iadd hG dL_law_381 rfl ?_
  refine g_topi (y := nI (i + 1)) (nI_add (i) (1)) ?_
  refine g_sld (k := (i + 1)) hG hX hbl hbA dL_law_382 rfl (by omega) (by omega) rfl ?_
  refine g_callVX (n := 1) (As := [_]) (rest := []) hG hAg rfl (c_X6_takeBack l D a f na w td vl Lp pt fl kd kp pq ps mk n b8 hW hNR hF hkp hpast.hqs (xs (i + 1))) gL_law_X6_takeBack rfl (by decide +kernel) ⟨Nat.le_of_ble_eq_true rfl, Nat.le_of_ble_eq_true rfl⟩ 20 rfl rfl rfl rfl rfl (Nat.le_of_ble_eq_true rfl) dL_law_383 ⟨by show _ ≤ 600000; omega, by show _ ≤ 7302250; omega⟩ rfl (fun v w9 hv => ?_)
  obtain ⟨rfl, b9, nb, n', w', hAD, hN9, h909, rfl⟩ := hv
  refine ⟨hAD, ?_⟩
  refine g_st (st' := [_]) rfl ?_
  refine g_aload_n hG dL_law_386 rfl 2 rfl rfl ?_
  refine g_aload_n hG dL_law_387 rfl 0 rfl rfl ?_
  refine g_iload_n hG dL_law_388 rfl 3 rfl rfl ?_
  refine g_iconst (v := (1 : Int32)) hG dL_law_389 (by decide) rfl ?_
  refine g_iadd hG dL_law_390 rfl ?_
  refine g_topi (y := nI (i + 1)) (nI_add (i) (1)) ?_
  refine g_sld (k := (i + 1)) hG hX hbl hbA dL_law_391 rfl (by omega) (by omega) rfl ?_
  refine g_callVWp (n := 1) (As := [_]) (rest := [_]) hG hAg rfl (c_X7_takeBack l D a2 f fp fs fv fg fw td ft fn wk (nI Lp) sp iw od i1 kp hi1 hkp mk n b8 hW (xs (i + 1))) gL_law_X7_takeBack rfl (by decide +kernel) ⟨Nat.le_of_ble_eq_true rfl, Nat.le_of_ble_eq_true rfl⟩ 0 rfl rfl rfl rfl rfl (Nat.le_of_ble_eq_true rfl) dL_law_392 ⟨by show _ ≤ 600000; omega, by show _ ≤ 7302250; omega⟩ rfl (fun v w9 hv => ?_)
  obtain ⟨fg', fw', wk', rfl, rfl⟩ := hv
  refine ⟨rfl, ?_⟩
  refine g_st (st' := [_, _]) rfl ?_
  refine g_icmp_eq hG dL_law_395 941 (by decide) rfl (fun _ => ?_) (fun h => absurd rfl h)
  refine g_widen (cs + 18) (sl + 420) (by omega) (by omega) ?_
  exact hback _ _ _ _ _ _ _ _ _ _ _ _ _ _ _ _ _ _ _ _ _ _ _ _ _ _ (inv_ch hI (take_ok hx) (take_fb hx hF) ⟨n', hN9, h909⟩)

set_option maxHeartbeats 4000000 in
set_option maxRecDepth 100000 in
theorem law_6 (l : Launch) {p : Program} {e : Env} {s : State} {m : MethodId} {b : Nat} {below : List Frame} {meth : Method} {c : Code} {D : DT} {A : Nat → Prop} {cs sl : Nat} {Q : State → Prop} {a a2 : Nat → Nat} {xs : Nat → Int32} {L i : Nat} (hG : GX p l e room_1 s m #[Value.ref b] below meth c D A 4 code RL wsL_law) (hAg : ∀ q, s.heap.size ≤ q → A q) (hX : va_X b L xs s s.heap) (hbl : b < s.heap.size) (hbA : ¬ A b) (hL : L ≤ 3072) (hi : i + 6 ≤ L) (hcs : cs + 18 ≤ 600000) (hsl : sl + 420 ≤ 7302250) (f : Nat → Int32) (na : Nat → Nat → Int32) (w td vl : Nat → Int32) (Lp pt fl : Nat) (kd : Int32) (kp : Nat) (pq ps : Nat → Option HH) (fp fs fv fg fw ft fn : Nat → Int32) (i1 : Nat) (wk sp iw od : Int32) (sv : Nat → Bool) (hI : INV f na td Lp kp kp pq ps fp fs fv i1 sv)
    (hback : LGO p l e s m b below meth c D A a a2 (cs + 18) (sl + 420) Q i) : GG p l e room_1 s m #[Value.ref b] below meth c D A 4 false cs sl Q (wL D a a2 f na w td vl Lp pt fl kd kp kp pq ps fp fs fv fg fw ft fn i1 wk sp iw od) 400 [(0, .ref b), (1, .ref (a 19)), (2, .ref (a2 0)), (3, .int (nI i))] [] := by
  obtain ⟨hx, hNx, hF, hLp, hch, hkp, -, hi1, hpast, hslot, hsv⟩ := id hI
  obtain ⟨mk, n, b8, hW⟩ := id hx
  have hNR := hNx.to hW
  have hn8 : n ≤ 8 := Nat.le_trans hW.2.2.2.2.2.2.1 hW.2.2.2.2.2.1
  refine g_aload_n hG dL_law_400 rfl 1 rfl rfl ?_
  refine g_aload_n hG dL_law_401 rfl 0 rfl rfl ?_
  refine g_iload_n hG dL_law_402 rfl 3 rfl rfl ?_
  refine g_iconst (v := (1 : Int32)) hG dL_law_403 (by decide) rfl ?_
  refine g_iadd hG dL_law_404 rfl ?_
  refine g_topi (y := nI (i + 1)) (nI_add (i) (1)) ?_
  refine g_sld (k := (i + 1)) hG hX hbl hbA dL_law_405 rfl (by omega) (by omega) rfl ?_
  refine g_aload_n hG dL_law_406 rfl 0 rfl rfl ?_
  refine g_iload_n hG dL_law_407 rfl 3 rfl rfl ?_
  refine g_iconst (v := (2 : Int32)) hG dL_law_408 (by decide) rfl ?_
  refine g_iadd hG dL_law_409 rfl ?_
  refine g_topi (y := nI (i + 2)) (nI_add (i) (2)) ?_
  refine g_sld (k := (i + 2)) hG hX hbl hbA dL_law_410 rfl (by omega) (by omega) rfl ?_
  refine g_aload_n hG dL_law_411 rfl 0 rfl rfl ?_
  refine g_iload_n hG dL_law_412 rfl 3 rfl rfl ?_
  refine g_iconst (v := (3 : Int32)) hG dL_law_413 (by decide) rfl ?_
  refine g_iadd hG dL_law_414 rfl ?_
  refine g_topi (y := nI (i + 3)) (nI_add (i) (3)) ?_
  refine g_sld (k := (i + 3)) hG hX hbl hbA dL_law_415 rfl (by omega) (by omega) rfl ?_
  refine g_callVX (n := 3) (As := [_, _, _]) (rest := []) hG hAg rfl (c_X6_door l D a f na w td vl Lp pt fl kd kp pq ps mk n b8 hW hNR hF hkp hpast.hqs (xs (i + 1)) (xs (i + 2)) (xs (i + 3))) gL_law_X6_door rfl (by decide +kernel) ⟨Nat.le_of_ble_eq_true rfl, Nat.le_of_ble_eq_true rfl⟩ 20 rfl rfl rfl rfl rfl (Nat.le_of_ble_eq_true rfl) dL_law_416 ⟨by show _ ≤ 600000; omega, by show _ ≤ 7302250; omega⟩ rfl (fun v w9 hv => ?_)
  obtain ⟨rfl, b9, nb, n', w', hAD, hN9, h909, rfl⟩ := hv
  refine ⟨hAD, ?_⟩
  refine g_st (st' := [_]) rfl ?_
  refine g_aload_n hG dL_law_419 rfl 2 rfl rfl ?_
  refine g_aload_n hG dL_law_420 rfl 0 rfl rfl ?_
  refine g_iload_n hG dL_law_421 rfl 3 rfl rfl ?_
  refine g_iconst (v := (1 : Int32)) hG dL_law_422 (by decide) rfl ?_
  refine g_iadd hG dL_law_423 rfl ?_
  refine g_topi (y := nI (i + 1)) (nI_add (i) (1)) ?_
  refine g_sld (k := (i + 1)) hG hX hbl hbA dL_law_424 rfl (by omega) (by omega) rfl ?_
  refine g_aload_n hG dL_law_425 rfl 0 rfl rfl ?_
  refine g_iload_n hG dL_law_426 rfl 3 rfl rfl ?_
  refine g_iconst (v := (2 : Int32)) hG dL_law_427 (by decide) rfl ?_
  refine g_iadd hG dL_law_428 rfl ?_
  refine g_topi (y := nI (i + 2)) (nI_add (i) (2)) ?_
  refine g_sld (k := (i + 2)) hG hX hbl hbA dL_law_429 rfl (by omega) (by omega) rfl ?_
  refine g_aload_n hG dL_law_430 rfl 0 rfl rfl ?_
  refine g_iload_n hG dL_law_431 rfl 3 rfl rfl ?_
  refine g_iconst (v := (3 : Int32)) hG dL_law_432 (by decide) rfl ?_
  refine g_iadd hG dL_law_433 rfl ?_
  refine g_topi (y := nI (i + 3)) (nI_add (i) (3)) ?_
  refine g_sld (k := (i + 3)) hG hX hbl hbA dL_law_434 rfl (by omega) (by omega) rfl ?_
  refine g_callVWp (n := 3) (As := [_, _, _]) (rest := [_]) hG hAg rfl (c_X7_door l D a2 f fp fs fv fg fw td ft fn wk (nI Lp) sp iw od i1 kp hi1 hkp mk n b8 hW (xs (i + 1)) (xs (i + 2)) (xs (i + 3))) gL_law_X7_door rfl (by decide +kernel) ⟨Nat.le_of_ble_eq_true rfl, Nat.le_of_ble_eq_true rfl⟩ 0 rfl rfl rfl rfl rfl (Nat.le_of_ble_eq_true rfl) dL_law_435 ⟨by show _ ≤ 600000; omega, by show _ ≤ 7302250; omega⟩ rfl (fun v w9 hv => ?_)
  obtain ⟨fg', fw', wk', rfl, rfl⟩ := hv
  refine ⟨rfl, ?_⟩
  refine g_st (st' := [_, _]) rfl ?_
  refine g_icmp_eq hG dL_law_438 941 (by decide) rfl (fun _ => ?_) (fun h => absurd rfl h)
  refine g_widen (cs + 18) (sl + 420) (by omega) (by omega) ?_
  exact hback _ _ _ _ _ _ _ _ _ _ _ _ _ _ _ _ _ _ _ _ _ _ _ _ _ _ (inv_ch hI (door_ok hx) (door_fb hx hF) ⟨n', hN9, h909⟩)

set_option maxHeartbeats 4000000 in
set_option maxRecDepth 100000 in
theorem law_7 (l : Launch) {p : Program} {e : Env} {s : State} {m : MethodId} {b : Nat} {below : List Frame} {meth : Method} {c : Code} {D : DT} {A : Nat → Prop} {cs sl : Nat} {Q : State → Prop} {a a2 : Nat → Nat} {xs : Nat → Int32} {L i : Nat} (hG : GX p l e room_1 s m #[Value.ref b] below meth c D A 4 code RL wsL_law) (hAg : ∀ q, s.heap.size ≤ q → A q) (hX : va_X b L xs s s.heap) (hbl : b < s.heap.size) (hbA : ¬ A b) (hL : L ≤ 3072) (hi : i + 6 ≤ L) (hcs : cs + 18 ≤ 600000) (hsl : sl + 420 ≤ 7302250) (f : Nat → Int32) (na : Nat → Nat → Int32) (w td vl : Nat → Int32) (Lp pt fl : Nat) (kd : Int32) (kp : Nat) (pq ps : Nat → Option HH) (fp fs fv fg fw ft fn : Nat → Int32) (i1 : Nat) (wk sp iw od : Int32) (sv : Nat → Bool) (hI : INV f na td Lp kp kp pq ps fp fs fv i1 sv)
    (hback : LGO p l e s m b below meth c D A a a2 (cs + 18) (sl + 420) Q i) : GG p l e room_1 s m #[Value.ref b] below meth c D A 4 false cs sl Q (wL D a a2 f na w td vl Lp pt fl kd kp kp pq ps fp fs fv fg fw ft fn i1 wk sp iw od) 443 [(0, .ref b), (1, .ref (a 19)), (2, .ref (a2 0)), (3, .int (nI i))] [] := by
  obtain ⟨hx, hNx, hF, hLp, hch, hkp, -, hi1, hpast, hslot, hsv⟩ := id hI
  obtain ⟨mk, n, b8, hW⟩ := id hx
  have hNR := hNx.to hW
  have hn8 : n ≤ 8 := Nat.le_trans hW.2.2.2.2.2.2.1 hW.2.2.2.2.2.1
  refine g_aload_n hG dL_law_443 rfl 1 rfl rfl ?_
  refine g_aload_n hG dL_law_444 rfl 0 rfl rfl ?_
  refine g_iload_n hG dL_law_445 rfl 3 rfl rfl ?_
  refine g_iconst (v := (1 : Int32)) hG dL_law_446 (by decide) rfl ?_
  refine g_iadd hG dL_law_447 rfl ?_
  refine g_topi (y := nI (i + 1)) (nI_add (i) (1)) ?_
  refine g_sld (k := (i + 1)) hG hX hbl hbA dL_law_448 rfl (by omega) (by omega) rfl ?_
  refine g_aload_n hG dL_law_449 rfl 0 rfl rfl ?_
  refine g_iload_n hG dL_law_450 rfl 3 rfl rfl ?_
  refine g_iconst (v := (2 : Int32)) hG dL_law_451 (by decide) rfl ?_
  refine g_iadd hG dL_law_452 rfl ?_
  refine g_topi (y := nI (i + 2)) (nI_add (i) (2)) ?_
  refine g_sld (k := (i + 2)) hG hX hbl hbA dL_law_453 rfl (by omega) (by omega) rfl ?_
  refine g_aload_n hG dL_law_454 rfl 0 rfl rfl ?_
  refine g_iload_n hG dL_law_455 rfl 3 rfl rfl ?_
  refine g_iconst (v := (3 : Int32)) hG dL_law_456 (by decide) rfl ?_
  refine g_iadd hG dL_law_457 rfl ?_
  refine g_topi (y := nI (i + 3)) (nI_add (i) (3)) ?_
  refine g_sld (k := (i + 3)) hG hX hbl hbA dL_law_458 rfl (by omega) (by omega) rfl ?_
  refine g_callVX (n := 3) (As := [_, _, _]) (rest := []) hG hAg rfl (c_X6_come l D a f na w td vl Lp pt fl kd kp pq ps mk n b8 hW hNR hF hkp hpast.hqs (xs (i + 1)) (xs (i + 2)) (xs (i + 3))) gL_law_X6_come rfl (by decide +kernel) ⟨Nat.le_of_ble_eq_true rfl, Nat.le_of_ble_eq_true rfl⟩ 20 rfl rfl rfl rfl rfl (Nat.le_of_ble_eq_true rfl) dL_law_459 ⟨by show _ ≤ 600000; omega, by show _ ≤ 7302250; omega⟩ rfl (fun v w9 hv => ?_)
  obtain ⟨rfl, b9, nb, n', w', hAD, hN9, h909, rfl⟩ := hv
  refine ⟨hAD, ?_⟩
  refine g_st (st' := [_]) rfl ?_
  refine g_aload_n hG dL_law_462 rfl 2 rfl rfl ?_
  refine g_aload_n hG dL_law_463 rfl 0 rfl rfl ?_
  refine g_iload_n hG dL_law_464 rfl 3 rfl rfl ?_
  refine g_iconst (v := (1 : Int32)) hG dL_law_465 (by decide) rfl ?_
  refine g_iadd hG dL_law_466 rfl ?_
  refine g_topi (y := nI (i + 1)) (nI_add (i) (1)) ?_
  refine g_sld (k := (i + 1)) hG hX hbl hbA dL_law_467 rfl (by omega) (by omega) rfl ?_
  refine g_aload_n hG dL_law_468 rfl 0 rfl rfl ?_
  refine g_iload_n hG dL_law_469 rfl 3 rfl rfl ?_
  refine g_iconst (v := (2 : Int32)) hG dL_law_470 (by decide) rfl ?_
  refine g_iadd hG dL_law_471 rfl ?_
  refine g_topi (y := nI (i + 2)) (nI_add (i) (2)) ?_
  refine g_sld (k := (i + 2)) hG hX hbl hbA dL_law_472 rfl (by omega) (by omega) rfl ?_
  refine g_aload_n hG dL_law_473 rfl 0 rfl rfl ?_
  refine g_iload_n hG dL_law_474 rfl 3 rfl rfl ?_
  refine g_iconst (v := (3 : Int32)) hG dL_law_475 (by decide) rfl ?_
  refine g_iadd hG dL_law_476 rfl ?_
  refine g_topi (y := nI (i + 3)) (nI_add (i) (3)) ?_
  refine g_sld (k := (i + 3)) hG hX hbl hbA dL_law_477 rfl (by omega) (by omega) rfl ?_
  refine g_callVWp (n := 3) (As := [_, _, _]) (rest := [_]) hG hAg rfl (c_X7_come l D a2 f fp fs fv fg fw td ft fn wk (nI Lp) sp iw od i1 kp hi1 hkp mk n b8 hW (xs (i + 1)) (xs (i + 2)) (xs (i + 3))) gL_law_X7_come rfl (by decide +kernel) ⟨Nat.le_of_ble_eq_true rfl, Nat.le_of_ble_eq_true rfl⟩ 0 rfl rfl rfl rfl rfl (Nat.le_of_ble_eq_true rfl) dL_law_478 ⟨by show _ ≤ 600000; omega, by show _ ≤ 7302250; omega⟩ rfl (fun v w9 hv => ?_)
  obtain ⟨fg', fw', wk', rfl, rfl⟩ := hv
  refine ⟨rfl, ?_⟩
  refine g_st (st' := [_, _]) rfl ?_
  refine g_icmp_eq hG dL_law_481 941 (by decide) rfl (fun _ => ?_) (fun h => absurd rfl h)
  refine g_widen (cs + 18) (sl + 420) (by omega) (by omega) ?_
  exact hback _ _ _ _ _ _ _ _ _ _ _ _ _ _ _ _ _ _ _ _ _ _ _ _ _ _ (inv_ch hI (come_ok hx) (come_fb hx hF) ⟨n', hN9, h909⟩)

set_option maxHeartbeats 4000000 in
set_option maxRecDepth 100000 in
theorem law_8 (l : Launch) {p : Program} {e : Env} {s : State} {m : MethodId} {b : Nat} {below : List Frame} {meth : Method} {c : Code} {D : DT} {A : Nat → Prop} {cs sl : Nat} {Q : State → Prop} {a a2 : Nat → Nat} {xs : Nat → Int32} {L i : Nat} (hG : GX p l e room_1 s m #[Value.ref b] below meth c D A 4 code RL wsL_law) (hAg : ∀ q, s.heap.size ≤ q → A q) (hX : va_X b L xs s s.heap) (hbl : b < s.heap.size) (hbA : ¬ A b) (hL : L ≤ 3072) (hi : i + 6 ≤ L) (hcs : cs + 18 ≤ 600000) (hsl : sl + 420 ≤ 7302250) (f : Nat → Int32) (na : Nat → Nat → Int32) (w td vl : Nat → Int32) (Lp pt fl : Nat) (kd : Int32) (kp : Nat) (pq ps : Nat → Option HH) (fp fs fv fg fw ft fn : Nat → Int32) (i1 : Nat) (wk sp iw od : Int32) (sv : Nat → Bool) (hI : INV f na td Lp kp kp pq ps fp fs fv i1 sv)
    (hback : LGO p l e s m b below meth c D A a a2 (cs + 18) (sl + 420) Q i) : GG p l e room_1 s m #[Value.ref b] below meth c D A 4 false cs sl Q (wL D a a2 f na w td vl Lp pt fl kd kp kp pq ps fp fs fv fg fw ft fn i1 wk sp iw od) 486 [(0, .ref b), (1, .ref (a 19)), (2, .ref (a2 0)), (3, .int (nI i))] [] := by
  obtain ⟨hx, hNx, hF, hLp, hch, hkp, -, hi1, hpast, hslot, hsv⟩ := id hI
  obtain ⟨mk, n, b8, hW⟩ := id hx
  have hNR := hNx.to hW
  have hn8 : n ≤ 8 := Nat.le_trans hW.2.2.2.2.2.2.1 hW.2.2.2.2.2.1
  refine g_aload_n hG dL_law_486 rfl 1 rfl rfl ?_
  refine g_callVX (n := 0) (As := []) (rest := []) hG hAg rfl (c_X6_flush l D a f na w td vl Lp pt fl kd kp pq ps mk n b8 hW hNR hF hkp hpast.hqs ) gL_law_X6_flush rfl (by decide +kernel) ⟨Nat.le_of_ble_eq_true rfl, Nat.le_of_ble_eq_true rfl⟩ 20 rfl rfl rfl rfl rfl (Nat.le_of_ble_eq_true rfl) dL_law_487 ⟨by show _ ≤ 600000; omega, by show _ ≤ 7302250; omega⟩ rfl (fun v w9 hv => ?_)
  obtain ⟨rfl, b9, nb, n', w', hAD, hN9, h909, rfl⟩ := hv
  refine ⟨hAD, ?_⟩
  refine g_st (st' := [_]) rfl ?_
  refine g_aload_n hG dL_law_490 rfl 2 rfl rfl ?_
  refine g_callVWp (n := 0) (As := []) (rest := [_]) hG hAg rfl (c_X7_flush l D a2 f fp fs fv fg fw td ft fn wk (nI Lp) sp iw od i1 kp hi1 hkp mk n b8 hW ) gL_law_X7_flush rfl (by decide +kernel) ⟨Nat.le_of_ble_eq_true rfl, Nat.le_of_ble_eq_true rfl⟩ 0 rfl rfl rfl rfl rfl (Nat.le_of_ble_eq_true rfl) dL_law_491 ⟨by show _ ≤ 600000; omega, by show _ ≤ 7302250; omega⟩ rfl (fun v w9 hv => ?_)
  obtain ⟨fg', fw', wk', rfl, rfl⟩ := hv
  refine ⟨rfl, ?_⟩
  refine g_st (st' := [_, _]) rfl ?_
  refine g_icmp_eq hG dL_law_494 941 (by decide) rfl (fun _ => ?_) (fun h => absurd rfl h)
  refine g_widen (cs + 18) (sl + 420) (by omega) (by omega) ?_
  exact hback _ _ _ _ _ _ _ _ _ _ _ _ _ _ _ _ _ _ _ _ _ _ _ _ _ _ (inv_ch hI (flush_ok hx) (flush_fb hF) ⟨n', hN9, h909⟩)
