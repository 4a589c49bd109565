set_option maxHeartbeats 4000000 in
set_option maxRecDepth 100000 in
theorem law_9 (l : Launch) {p : Program} {e : Env} {s : State} {m : MethodId} {b : Nat} {below : List Frame} {meth : Method} {c : Code} {D : DT} {A : Nat → Prop} {cs sl : Nat} {Q : State → Prop} {a a2 : Nat → Nat} {xs : Nat → Int32} {L i : Nat} (hG : GX p l e room_1 s m #[Value.ref b] below meth c D A 4 code RL wsL_law) (hAg : ∀ q, s.heap.size ≤ q → A q) (hX : va_X b L xs s s.heap) (hbl : b < s.heap.size) (hbA : ¬ A b) (hL : L ≤ 3072) (hi : i + 6 ≤ L) (hcs : cs + 18 ≤ 600000) (hsl : sl + 420 ≤ 7302250) (f : Nat → Int32) (na : Nat → Nat → Int32) (w td vl : Nat → Int32) (Lp pt fl : Nat) (kd : Int32) (kp : Nat) (pq ps : Nat → Option HH) (fp fs fv fg fw ft fn : Nat → Int32) (i1 : Nat) (wk sp iw od : Int32) (sv : Nat → Bool) (hI : INV f na td Lp kp kp pq ps fp fs fv i1 sv)
    (hback : LGO p l e s m b below meth c D A a a2 (cs + 18) (sl + 420) Q i) : GG p l e room_1 s m #[Value.ref b] below meth c D A 4 false cs sl Q (wL D a a2 f na w td vl Lp pt fl kd kp kp pq ps fp fs fv fg fw ft fn i1 wk sp iw od) 499 [(0, .ref b), (1, .ref (a 19)), (2, .ref (a2 0)), (3, .int (nI i))] [] := by
  obtain ⟨hx, hNx, hF, hLp, hch, hkp, -, hi1, hpast, hslot, hsv⟩ := id hI
  obtain ⟨mk, n, b8, hW⟩ := id hx
  have hNR := hNx.to hW
  have hn8 : n ≤ 8 := Nat.le_trans hW.2.2.2.2.2.2.1 hW.2.2.2.2.2.1
  refine g_aload_n hG dL_law_499 rfl 1 rfl rfl ?_
  refine g_aload_n hG dL_law_500 rfl 0 rfl rfl ?_
  refine g_iload_n hG dL_law_501 rfl 3 rfl rfl ?_
  refine g_iconst (v := (1 : Int32)) hG dL_law_502 (by decide) rfl ?_
  refine g_iadd hG dL_law_503 rfl ?_
  refine g_topi (y := nI (i + 1)) (nI_add (i) (1)) ?_
  refine g_sld (k := (i + 1)) hG hX hbl hbA dL_law_504 rfl (by omega) (by omega) rfl ?_
  refine g_aload_n hG dL_law_505 rfl 0 rfl rfl ?_
  refine g_iload_n hG dL_law_506 rfl 3 rfl rfl ?_
  refine g_iconst (v := (2 : Int32)) hG dL_law_507 (by decide) rfl ?_
  refine g_iadd hG dL_law_508 rfl ?_
  refine g_topi (y := nI (i + 2)) (nI_add (i) (2)) ?_
  refine g_sld (k := (i + 2)) hG hX hbl hbA dL_law_509 rfl (by omega) (by omega) rfl ?_
  refine g_callVRX (n := 2) (As := [_, _]) (rest := []) hG (c_X6_ofPage l D a f na w td vl Lp pt fl kd kp (fqa pq) (fqa ps) (tlW D pq ps) mk n b8 hW hNR (xs (i + 1)) (xs (i + 2))) gL_law_X6_ofPage rfl (by decide +kernel) ⟨Nat.le_of_ble_eq_true rfl, Nat.le_of_ble_eq_true rfl⟩ 20 rfl rfl rfl rfl rfl (Nat.le_of_ble_eq_true rfl) dL_law_510 ⟨by show _ ≤ 600000; omega, by show _ ≤ 7302250; omega⟩ rfl (fun v hv => ?_)
  obtain rfl := hv
  refine g_st (st' := [_]) rfl ?_
  refine g_aload_n hG dL_law_513 rfl 2 rfl rfl ?_
  refine g_aload_n hG dL_law_514 rfl 0 rfl rfl ?_
  refine g_iload_n hG dL_law_515 rfl 3 rfl rfl ?_
  refine g_iconst (v := (1 : Int32)) hG dL_law_516 (by decide) rfl ?_
  refine g_iadd hG dL_law_517 rfl ?_
  refine g_topi (y := nI (i + 1)) (nI_add (i) (1)) ?_
  refine g_sld (k := (i + 1)) hG hX hbl hbA dL_law_518 rfl (by omega) (by omega) rfl ?_
  refine g_aload_n hG dL_law_519 rfl 0 rfl rfl ?_
  refine g_iload_n hG dL_law_520 rfl 3 rfl rfl ?_
  refine g_iconst (v := (2 : Int32)) hG dL_law_521 (by decide) rfl ?_
  refine g_iadd hG dL_law_522 rfl ?_
  refine g_topi (y := nI (i + 2)) (nI_add (i) (2)) ?_
  refine g_sld (k := (i + 2)) hG hX hbl hbA dL_law_523 rfl (by omega) (by omega) rfl ?_
  refine g_callVWp (n := 2) (As := [_, _]) (rest := [_]) hG hAg rfl (c_X7_ofPage l D a2 f fp fs fv fg fw td ft fn (nI i1) (nI kp) wk (nI Lp) sp iw od mk n b8 hW (xs (i + 1)) (xs (i + 2))) gL_law_X7_ofPage rfl (by decide +kernel) ⟨Nat.le_of_ble_eq_true rfl, Nat.le_of_ble_eq_true rfl⟩ 0 rfl rfl rfl rfl rfl (Nat.le_of_ble_eq_true rfl) dL_law_524 ⟨by show _ ≤ 600000; omega, by show _ ≤ 7302250; omega⟩ rfl (fun v w9 hv => ?_)
  obtain ⟨fg', wk', rfl, rfl⟩ := hv
  refine ⟨rfl, ?_⟩
  refine g_st (st' := [_, _]) rfl ?_
  refine g_icmp_eq hG dL_law_527 941 (by decide) rfl (fun _ => ?_) (fun h => absurd rfl h)
  refine g_widen (cs + 18) (sl + 420) (by omega) (by omega) ?_
  exact hback _ _ _ _ _ _ _ _ _ _ _ _ _ _ _ _ _ _ _ _ _ _ _ _ _ _ hI

set_option maxHeartbeats 4000000 in
set_option maxRecDepth 100000 in
theorem law_10 (l : Launch) {p : Program} {e : Env} {s : State} {m : MethodId} {b : Nat} {below : List Frame} {meth : Method} {c : Code} {D : DT} {A : Nat → Prop} {cs sl : Nat} {Q : State → Prop} {a a2 : Nat → Nat} {xs : Nat → Int32} {L i : Nat} (hG : GX p l e room_1 s m #[Value.ref b] below meth c D A 4 code RL wsL_law) (hAg : ∀ q, s.heap.size ≤ q → A q) (hX : va_X b L xs s s.heap) (hbl : b < s.heap.size) (hbA : ¬ A b) (hL : L ≤ 3072) (hi : i + 6 ≤ L) (hcs : cs + 18 ≤ 600000) (hsl : sl + 420 ≤ 7302250) (f : Nat → Int32) (na : Nat → Nat → Int32) (w td vl : Nat → Int32) (Lp pt fl : Nat) (kd : Int32) (kp : Nat) (pq ps : Nat → Option HH) (fp fs fv fg fw ft fn : Nat → Int32) (i1 : Nat) (wk sp iw od : Int32) (sv : Nat → Bool) (hI : INV f na td Lp kp kp pq ps fp fs fv i1 sv)
    (hback : LGO p l e s m b below meth c D A a a2 (cs + 18) (sl + 420) Q i) : GG p l e room_1 s m #[Value.ref b] below meth c D A 4 false cs sl Q (wL D a a2 f na w td vl Lp pt fl kd kp kp pq ps fp fs fv fg fw ft fn i1 wk sp iw od) 532 [(0, .ref b), (1, .ref (a 19)), (2, .ref (a2 0)), (3, .int (nI i))] [] := by
  obtain ⟨hx, hNx, hF, hLp, hch, hkp, -, hi1, hpast, hslot, hsv⟩ := id hI
  obtain ⟨mk, n, b8, hW⟩ := id hx
  have hNR := hNx.to hW
  have hn8 : n ≤ 8 := Nat.le_trans hW.2.2.2.2.2.2.1 hW.2.2.2.2.2.1
  refine g_aload_n hG dL_law_532 rfl 1 rfl rfl ?_
  refine g_aload_n hG dL_law_533 rfl 0 rfl rfl ?_
  refine g_iload_n hG dL_law_534 rfl 3 rfl rfl ?_
  refine g_iconst (v := (1 : Int32)) hG dL_law_535 (by decide) rfl ?_
  refine g_iadd hG dL_law_536 rfl ?_
  refine g_topi (y := nI (i + 1)) (nI_add (i) (1)) ?_
  refine g_sld (k := (i + 1)) hG hX hbl hbA dL_law_537 rfl (by omega) (by omega) rfl ?_
  refine g_aload_n hG dL_law_538 rfl 0 rfl rfl ?_
  refine g_iload_n hG dL_law_539 rfl 3 rfl rfl ?_
  refine g_iconst (v := (2 : Int32)) hG dL_law_540 (by decide) rfl ?_
  refine g_iadd hG dL_law_541 rfl ?_
  refine g_topi (y := nI (i + 2)) (nI_add (i) (2)) ?_
  refine g_sld (k := (i + 2)) hG hX hbl hbA dL_law_542 rfl (by omega) (by omega) rfl ?_
  refine g_callVRX (n := 2) (As := [_, _]) (rest := []) hG (c_X6_ofStamp l D a f na w td vl Lp pt fl kd kp (fqa pq) (fqa ps) (tlW D pq ps) mk n b8 hW hNR (xs (i + 1)) (xs (i + 2))) gL_law_X6_ofStamp rfl (by decide +kernel) ⟨Nat.le_of_ble_eq_true rfl, Nat.le_of_ble_eq_true rfl⟩ 20 rfl rfl rfl rfl rfl (Nat.le_of_ble_eq_true rfl) dL_law_543 ⟨by show _ ≤ 600000; omega, by show _ ≤ 7302250; omega⟩ rfl (fun v hv => ?_)
  obtain rfl := hv
  refine g_st (st' := [_]) rfl ?_
  refine g_aload_n hG dL_law_546 rfl 2 rfl rfl ?_
  refine g_aload_n hG dL_law_547 rfl 0 rfl rfl ?_
  refine g_iload_n hG dL_law_548 rfl 3 rfl rfl ?_
  refine g_iconst (v := (1 : Int32)) hG dL_law_549 (by decide) rfl ?_
  refine g_iadd hG dL_law_550 rfl ?_
  refine g_topi (y := nI (i + 1)) (nI_add (i) (1)) ?_
  refine g_sld (k := (i + 1)) hG hX hbl hbA dL_law_551 rfl (by omega) (by omega) rfl ?_
  refine g_aload_n hG dL_law_552 rfl 0 rfl rfl ?_
  refine g_iload_n hG dL_law_553 rfl 3 rfl rfl ?_
  refine g_iconst (v := (2 : Int32)) hG dL_law_554 (by decide) rfl ?_
  refine g_iadd hG dL_law_555 rfl ?_
  refine g_topi (y := nI (i + 2)) (nI_add (i) (2)) ?_
  refine g_sld (k := (i + 2)) hG hX hbl hbA dL_law_556 rfl (by omega) (by omega) rfl ?_
  refine g_callVWp (n := 2) (As := [_, _]) (rest := [_]) hG hAg rfl (c_X7_ofStamp l D a2 f fp fs fv fg fw td ft fn (nI i1) (nI kp) wk (nI Lp) sp iw od mk n b8 hW (xs (i + 1)) (xs (i + 2))) gL_law_X7_ofStamp rfl (by decide +kernel) ⟨Nat.le_of_ble_eq_true rfl, Nat.le_of_ble_eq_true rfl⟩ 0 rfl rfl rfl rfl rfl (Nat.le_of_ble_eq_true rfl) dL_law_557 ⟨by show _ ≤ 600000; omega, by show _ ≤ 7302250; omega⟩ rfl (fun v w9 hv => ?_)
  obtain ⟨fg', wk', rfl, rfl⟩ := hv
  refine ⟨rfl, ?_⟩
  refine g_st (st' := [_, _]) rfl ?_
  refine g_icmp_eq hG dL_law_560 941 (by decide) rfl (fun _ => ?_) (fun h => absurd rfl h)
  refine g_widen (cs + 18) (sl + 420) (by omega) (by omega) ?_
  exact hback _ _ _ _ _ _ _ _ _ _ _ _ _ _ _ _ _ _ _ _ _ _ _ _ _ _ hI

set_option maxHeartbeats 4000000 in
set_option maxRecDepth 100000 in
theorem law_11 (l : Launch) {p : Program} {e : Env} {s : State} {m : MethodId} {b : Nat} {below : List Frame} {meth : Method} {c : Code} {D : DT} {A : Nat → Prop} {cs sl : Nat} {Q : State → Prop} {a a2 : Nat → Nat} {xs : Nat → Int32} {L i : Nat} (hG : GX p l e room_1 s m #[Value.ref b] below meth c D A 4 code RL wsL_law) (hAg : ∀ q, s.heap.size ≤ q → A q) (hX : va_X b L xs s s.heap) (hbl : b < s.heap.size) (hbA : ¬ A b) (hL : L ≤ 3072) (hi : i + 6 ≤ L) (hcs : cs + 18 ≤ 600000) (hsl : sl + 420 ≤ 7302250) (f : Nat → Int32) (na : Nat → Nat → Int32) (w td vl : Nat → Int32) (Lp pt fl : Nat) (kd : Int32) (kp : Nat) (pq ps : Nat → Option HH) (fp fs fv fg fw ft fn : Nat → Int32) (i1 : Nat) (wk sp iw od : Int32) (sv : Nat → Bool) (hI : INV f na td Lp kp kp pq ps fp fs fv i1 sv)
    (hback : LGO p l e s m b below meth c D A a a2 (cs + 18) (sl + 420) Q i) : GG p l e room_1 s m #[Value.ref b] below meth c D A 4 false cs sl Q (wL D a a2 f na w td vl Lp pt fl kd kp kp pq ps fp fs fv fg fw ft fn i1 wk sp iw od) 565 [(0, .ref b), (1, .ref (a 19)), (2, .ref (a2 0)), (3, .int (nI i))] [] := by
  obtain ⟨hx, hNx, hF, hLp, hch, hkp, -, hi1, hpast, hslot, hsv⟩ := id hI
  obtain ⟨mk, n, b8, hW⟩ := id hx
  have hNR := hNx.to hW
  have hn8 : n ≤ 8 := Nat.le_trans hW.2.2.2.2.2.2.1 hW.2.2.2.2.2.1
  refine g_aload_n hG dL_law_565 rfl 1 rfl rfl ?_
  refine g_aload_n hG dL_law_566 rfl 0 rfl rfl ?_
  refine g_iload_n hG dL_law_567 rfl 3 rfl rfl ?_
  refine g_iconst (v := (1 : Int32)) hG dL_law_568 (by decide) rfl ?_
  refine g_iadd hG dL_law_569 rfl ?_
  refine g_topi (y := nI (i + 1)) (nI_add (i) (1)) ?_
  refine g_sld (k := (i + 1)) hG hX hbl hbA dL_law_570 rfl (by omega) (by omega) rfl ?_
  refine g_aload_n hG dL_law_571 rfl 0 rfl rfl ?_
  refine g_iload_n hG dL_law_572 rfl 3 rfl rfl ?_
  refine g_iconst (v := (2 : Int32)) hG dL_law_573 (by decide) rfl ?_
  refine g_iadd hG dL_law_574 rfl ?_
  refine g_topi (y := nI (i + 2)) (nI_add (i) (2)) ?_
  refine g_sld (k := (i + 2)) hG hX hbl hbA dL_law_575 rfl (by omega) (by omega) rfl ?_
  refine g_callVRX (n := 2) (As := [_, _]) (rest := []) hG (c_X6_leads l D a f na w td vl Lp pt fl kd kp (fqa pq) (fqa ps) (tlW D pq ps) mk n b8 hW hNR (xs (i + 1)) (xs (i + 2))) gL_law_X6_leads rfl (by decide +kernel) ⟨Nat.le_of_ble_eq_true rfl, Nat.le_of_ble_eq_true rfl⟩ 20 rfl rfl rfl rfl rfl (Nat.le_of_ble_eq_true rfl) dL_law_576 ⟨by show _ ≤ 600000; omega, by show _ ≤ 7302250; omega⟩ rfl (fun v hv => ?_)
  obtain rfl := hv
  refine g_st (st' := [_]) rfl ?_
  refine g_aload_n hG dL_law_579 rfl 2 rfl rfl ?_
  refine g_aload_n hG dL_law_580 rfl 0 rfl rfl ?_
  refine g_iload_n hG dL_law_581 rfl 3 rfl rfl ?_
  refine g_iconst (v := (1 : Int32)) hG dL_law_582 (by decide) rfl ?_
  refine g_iadd hG dL_law_583 rfl ?_
  refine g_topi (y := nI (i + 1)) (nI_add (i) (1)) ?_
  refine g_sld (k := (i + 1)) hG hX hbl hbA dL_law_584 rfl (by omega) (by omega) rfl ?_
  refine g_aload_n hG dL_law_585 rfl 0 rfl rfl ?_
  refine g_iload_n hG dL_law_586 rfl 3 rfl rfl ?_
  refine g_iconst (v := (2 : Int32)) hG dL_law_587 (by decide) rfl ?_
  refine g_iadd hG dL_law_588 rfl ?_
  refine g_topi (y := nI (i + 2)) (nI_add (i) (2)) ?_
  refine g_sld (k := (i + 2)) hG hX hbl hbA dL_law_589 rfl (by omega) (by omega) rfl ?_
  refine g_callVRp (n := 2) (As := [_, _]) (rest := [_]) hG (c_X7_leads l D a2 f fp fs fv fg fw td ft fn (nI i1) (nI kp) wk (nI Lp) sp iw od (xs (i + 1)) (xs (i + 2))) gL_law_X7_leads rfl (by decide +kernel) ⟨Nat.le_of_ble_eq_true rfl, Nat.le_of_ble_eq_true rfl⟩ 0 rfl rfl rfl rfl rfl (Nat.le_of_ble_eq_true rfl) dL_law_590 ⟨by show _ ≤ 600000; omega, by show _ ≤ 7302250; omega⟩ rfl (fun v hv => ?_)
  obtain rfl := hv
  refine g_st (st' := [_, _]) rfl ?_
  refine g_icmp_eq hG dL_law_593 941 (by decide) rfl (fun _ => ?_) (fun h => absurd rfl h)
  refine g_widen (cs + 18) (sl + 420) (by omega) (by omega) ?_
  exact hback _ _ _ _ _ _ _ _ _ _ _ _ _ _ _ _ _ _ _ _ _ _ _ _ _ _ hI

set_option maxHeartbeats 4000000 in
set_option maxRecDepth 100000 in
theorem law_12 (l : Launch) {p : Program} {e : Env} {s : State} {m : MethodId} {b : Nat} {below : List Frame} {meth : Method} {c : Code} {D : DT} {A : Nat → Prop} {cs sl : Nat} {Q : State → Prop} {a a2 : Nat → Nat} {xs : Nat → Int32} {L i : Nat} (hG : GX p l e room_1 s m #[Value.ref b] below meth c D A 4 code RL wsL_law) (hAg : ∀ q, s.heap.size ≤ q → A q) (hX : va_X b L xs s s.heap) (hbl : b < s.heap.size) (hbA : ¬ A b) (hL : L ≤ 3072) (hi : i + 6 ≤ L) (hcs : cs + 18 ≤ 600000) (hsl : sl + 420 ≤ 7302250) (f : Nat → Int32) (na : Nat → Nat → Int32) (w td vl : Nat → Int32) (Lp pt fl : Nat) (kd : Int32) (kp : Nat) (pq ps : Nat → Option HH) (fp fs fv fg fw ft fn : Nat → Int32) (i1 : Nat) (wk sp iw od : Int32) (sv : Nat → Bool) (hI : INV f na td Lp kp kp pq ps fp fs fv i1 sv)
    (hback : LGO p l e s m b below meth c D A a a2 (cs + 18) (sl + 420) Q i) : GG p l e room_1 s m #[Value.ref b] below meth c D A 4 false cs sl Q (wL D a a2 f na w td vl Lp pt fl kd kp kp pq ps fp fs fv fg fw ft fn i1 wk sp iw od) 598 [(0, .ref b), (1, .ref (a 19)), (2, .ref (a2 0)), (3, .int (nI i))] [] := by
  obtain ⟨hx, hNx, hF, hLp, hch, hkp, -, hi1, hpast, hslot, hsv⟩ := id hI
  obtain ⟨mk, n, b8, hW⟩ := id hx
  have hNR := hNx.to hW
  have hn8 : n ≤ 8 := Nat.le_trans hW.2.2.2.2.2.2.1 hW.2.2.2.2.2.1
  refine g_aload_n hG dL_law_598 rfl 1 rfl rfl ?_
  refine g_aload_n hG dL_law_599 rfl 0 rfl rfl ?_
  refine g_iload_n hG dL_law_600 rfl 3 rfl rfl ?_
  refine g_iconst (v := (1 : Int32)) hG dL_law_601 (by decide) rfl ?_
  refine g_iadd hG dL_law_602 rfl ?_
  refine g_topi (y := nI (i + 1)) (nI_add (i) (1)) ?_
  refine g_sld (k := (i + 1)) hG hX hbl hbA dL_law_603 rfl (by omega) (by omega) rfl ?_
  refine g_aload_n hG dL_law_604 rfl 0 rfl rfl ?_
  refine g_iload_n hG dL_law_605 rfl 3 rfl rfl ?_
  refine g_iconst (v := (2 : Int32)) hG dL_law_606 (by decide) rfl ?_
  refine g_iadd hG dL_law_607 rfl ?_
  refine g_topi (y := nI (i + 2)) (nI_add (i) (2)) ?_
  refine g_sld (k := (i + 2)) hG hX hbl hbA dL_law_608 rfl (by omega) (by omega) rfl ?_
  refine g_callVRX (n := 2) (As := [_, _]) (rest := []) hG (c_X6_note l D a f na w td vl Lp pt fl kd kp (fqa pq) (fqa ps) (tlW D pq ps) mk n b8 hW hNR (xs (i + 1)) (xs (i + 2))) gL_law_X6_note rfl (by decide +kernel) ⟨Nat.le_of_ble_eq_true rfl, Nat.le_of_ble_eq_true rfl⟩ 20 rfl rfl rfl rfl rfl (Nat.le_of_ble_eq_true rfl) dL_law_609 ⟨by show _ ≤ 600000; omega, by show _ ≤ 7302250; omega⟩ rfl (fun v hv => ?_)
  obtain rfl := hv
  refine g_st (st' := [_]) rfl ?_
  refine g_aload_n hG dL_law_612 rfl 2 rfl rfl ?_
  refine g_aload_n hG dL_law_613 rfl 0 rfl rfl ?_
  refine g_iload_n hG dL_law_614 rfl 3 rfl rfl ?_
  refine g_iconst (v := (1 : Int32)) hG dL_law_615 (by decide) rfl ?_
  refine g_iadd hG dL_law_616 rfl ?_
  refine g_topi (y := nI (i + 1)) (nI_add (i) (1)) ?_
  refine g_sld (k := (i + 1)) hG hX hbl hbA dL_law_617 rfl (by omega) (by omega) rfl ?_
  refine g_aload_n hG dL_law_618 rfl 0 rfl rfl ?_
  refine g_iload_n hG dL_law_619 rfl 3 rfl rfl ?_
  refine g_iconst (v := (2 : Int32)) hG dL_law_620 (by decide) rfl ?_
  refine g_iadd hG dL_law_621 rfl ?_
  refine g_topi (y := nI (i + 2)) (nI_add (i) (2)) ?_
  refine g_sld (k := (i + 2)) hG hX hbl hbA dL_law_622 rfl (by omega) (by omega) rfl ?_
  refine g_callVRp (n := 2) (As := [_, _]) (rest := [_]) hG (c_X7_note l D a2 f fp fs fv fg fw td ft fn (nI i1) (nI kp) wk (nI Lp) sp iw od n hW.2.2.1 (by omega) (xs (i + 1)) (xs (i + 2))) gL_law_X7_note rfl (by decide +kernel) ⟨Nat.le_of_ble_eq_true rfl, Nat.le_of_ble_eq_true rfl⟩ 0 rfl rfl rfl rfl rfl (Nat.le_of_ble_eq_true rfl) dL_law_623 ⟨by show _ ≤ 600000; omega, by show _ ≤ 7302250; omega⟩ rfl (fun v hv => ?_)
  obtain rfl := hv
  refine g_st (st' := [_, _]) rfl ?_
  refine g_icmp_eq hG dL_law_626 941 (by decide) rfl (fun _ => ?_) (fun h => absurd rfl h)
  refine g_widen (cs + 18) (sl + 420) (by omega) (by omega) ?_
  exact hback _ _ _ _ _ _ _ _ _ _ _ _ _ _ _ _ _ _ _ _ _ _ _ _ _ _ hI

set_option maxHeartbeats 4000000 in
set_option maxRecDepth 100000 in
theorem law_13 (l : Launch) {p : Program} {e : Env} {s : State} {m : MethodId} {b : Nat} {below : List Frame} {meth : Method} {c : Code} {D : DT} {A : Nat → Prop} {cs sl : Nat} {Q : State → Prop} {a a2 : Nat → Nat} {xs : Nat → Int32} {L i : Nat} (hG : GX p l e room_1 s m #[Value.ref b] below meth c D A 4 code RL wsL_law) (hAg : ∀ q, s.heap.size ≤ q → A q) (hX : va_X b L xs s s.heap) (hbl : b < s.heap.size) (hbA : ¬ A b) (hL : L ≤ 3072) (hi : i + 6 ≤ L) (hcs : cs + 18 ≤ 600000) (hsl : sl + 420 ≤ 7302250) (f : Nat → Int32) (na : Nat → Nat → Int32) (w td vl : Nat → Int32) (Lp pt fl : Nat) (kd : Int32) (kp : Nat) (pq ps : Nat → Option HH) (fp fs fv fg fw ft fn : Nat → Int32) (i1 : Nat) (wk sp iw od : Int32) (sv : Nat → Bool) (hI : INV f na td Lp kp kp pq ps fp fs fv i1 sv)
    (hback : LGO p l e s m b below meth c D A a a2 (cs + 18) (sl + 420) Q i) : GG p l e room_1 s m #[Value.ref b] below meth c D A 4 false cs sl Q (wL D a a2 f na w td vl Lp pt fl kd kp kp pq ps fp fs fv fg fw ft fn i1 wk sp iw od) 631 [(0, .ref b), (1, .ref (a 19)), (2, .ref (a2 0)), (3, .int (nI i))] [] := by
  obtain ⟨hx, hNx, hF, hLp, hch, hkp, -, hi1, hpast, hslot, hsv⟩ := id hI
  obtain ⟨mk, n, b8, hW⟩ := id hx
  have hNR := hNx.to hW
  have hn8 : n ≤ 8 := Nat.le_trans hW.2.2.2.2.2.2.1 hW.2.2.2.2.2.1
  refine g_aload_n hG dL_law_631 rfl 1 rfl rfl ?_
  refine g_aload_n hG dL_law_632 rfl 0 rfl rfl ?_
  refine g_iload_n hG dL_law_633 rfl 3 rfl rfl ?_
  refine g_iconst (v := (1 : Int32)) hG dL_law_634 (by decide) rfl ?_
  refine g_iadd hG dL_law_635 rfl ?_
  refine g_topi (y := nI (i + 1)) (nI_add (i) (1)) ?_
  refine g_sld (k := (i + 1)) hG hX hbl hbA dL_law_636 rfl (by omega) (by omega) rfl ?_
  refine g_callVRX (n := 1) (As := [_]) (rest := []) hG (c_X6_count l D a f na w td vl Lp pt fl kd kp (fqa pq) (fqa ps) (tlW D pq ps) mk n b8 hW hNR (xs (i + 1))) gL_law_X6_count rfl (by decide +kernel) ⟨Nat.le_of_ble_eq_true rfl, Nat.le_of_ble_eq_true rfl⟩ 20 rfl rfl rfl rfl rfl (Nat.le_of_ble_eq_true rfl) dL_law_637 ⟨by show _ ≤ 600000; omega, by show _ ≤ 7302250; omega⟩ rfl (fun v hv => ?_)
  obtain rfl := hv
  refine g_st (st' := [_]) rfl ?_
  refine g_aload_n hG dL_law_640 rfl 2 rfl rfl ?_
  refine g_aload_n hG dL_law_641 rfl 0 rfl rfl ?_
  refine g_iload_n hG dL_law_642 rfl 3 rfl rfl ?_
  refine g_iconst (v := (1 : Int32)) hG dL_law_643 (by decide) rfl ?_
  refine g_iadd hG dL_law_644 rfl ?_
  refine g_topi (y := nI (i + 1)) (nI_add (i) (1)) ?_
  refine g_sld (k := (i + 1)) hG hX hbl hbA dL_law_645 rfl (by omega) (by omega) rfl ?_
  refine g_callVWp (n := 1) (As := [_]) (rest := [_]) hG hAg rfl (c_X7_count l D a2 f fp fs fv fg fw td ft fn (nI i1) wk (nI Lp) sp iw od mk n b8 hW kp (xs (i + 1))) gL_law_X7_count rfl (by decide +kernel) ⟨Nat.le_of_ble_eq_true rfl, Nat.le_of_ble_eq_true rfl⟩ 0 rfl rfl rfl rfl rfl (Nat.le_of_ble_eq_true rfl) dL_law_646 ⟨by show _ ≤ 600000; omega, by show _ ≤ 7302250; omega⟩ rfl (fun v w9 hv => ?_)
  obtain ⟨fg', wk', rfl, rfl⟩ := hv
  refine ⟨rfl, ?_⟩
  refine g_st (st' := [_, _]) rfl ?_
  refine g_icmp_eq hG dL_law_649 941 (by decide) rfl (fun _ => ?_) (fun h => absurd rfl h)
  refine g_widen (cs + 18) (sl + 420) (by omega) (by omega) ?_
  exact hback _ _ _ _ _ _ _ _ _ _ _ _ _ _ _ _ _ _ _ _ _ _ _ _ _ _ hI

set_option maxHeartbeats 4000000 in
set_option maxRecDepth 100000 in
theorem law_14 (l : Launch) {p : Program} {e : Env} {s : State} {m : MethodId} {b : Nat} {below : List Frame} {meth : Method} {c : Code} {D : DT} {A : Nat → Prop} {cs sl : Nat} {Q : State → Prop} {a a2 : Nat → Nat} {xs : Nat → Int32} {L i : Nat} (hG : GX p l e room_1 s m #[Value.ref b] below meth c D A 4 code RL wsL_law) (hAg : ∀ q, s.heap.size ≤ q → A q) (hX : va_X b L xs s s.heap) (hbl : b < s.heap.size) (hbA : ¬ A b) (hL : L ≤ 3072) (hi : i + 6 ≤ L) (hcs : cs + 18 ≤ 600000) (hsl : sl + 420 ≤ 7302250) (f : Nat → Int32) (na : Nat → Nat → Int32) (w td vl : Nat → Int32) (Lp pt fl : Nat) (kd : Int32) (kp : Nat) (pq ps : Nat → Option HH) (fp fs fv fg fw ft fn : Nat → Int32) (i1 : Nat) (wk sp iw od : Int32) (sv : Nat → Bool) (hI : INV f na td Lp kp kp pq ps fp fs fv i1 sv)
    (hback : LGO p l e s m b below meth c D A a a2 (cs + 18) (sl + 420) Q i) : GG p l e room_1 s m #[Value.ref b] below meth c D A 4 false cs sl Q (wL D a a2 f na w td vl Lp pt fl kd kp kp pq ps fp fs fv fg fw ft fn i1 wk sp iw od) 654 [(0, .ref b), (1, .ref (a 19)), (2, .ref (a2 0)), (3, .int (nI i))] [] := by
  obtain ⟨hx, hNx, hF, hLp, hch, hkp, -, hi1, hpast, hslot, hsv⟩ := id hI
  obtain ⟨mk, n, b8, hW⟩ := id hx
  have hNR := hNx.to hW
  have hn8 : n ≤ 8 := Nat.le_trans hW.2.2.2.2.2.2.1 hW.2.2.2.2.2.1
  refine g_aload_n hG dL_law_654 rfl 1 rfl rfl ?_
  refine g_aload_n hG dL_law_655 rfl 0 rfl rfl ?_
  refine g_iload_n hG dL_law_656 rfl 3 rfl rfl ?_
  refine g_iconst (v := (1 : Int32)) hG dL_law_657 (by decide) rfl ?_
  refine g_iadd hG dL_law_658 rfl ?_
  refine g_topi (y := nI (i + 1)) (nI_add (i) (1)) ?_
  refine g_sld (k := (i + 1)) hG hX hbl hbA dL_law_659 rfl (by omega) (by omega) rfl ?_
  refine g_callVRX (n := 1) (As := [_]) (rest := []) hG (c_X6_ended l D a f na w td vl Lp pt fl kd kp (fqa pq) (fqa ps) (tlW D pq ps) mk n b8 hW hNR (xs (i + 1))) gL_law_X6_ended rfl (by decide +kernel) ⟨Nat.le_of_ble_eq_true rfl, Nat.le_of_ble_eq_true rfl⟩ 20 rfl rfl rfl rfl rfl (Nat.le_of_ble_eq_true rfl) dL_law_660 ⟨by show _ ≤ 600000; omega, by show _ ≤ 7302250; omega⟩ rfl (fun v hv => ?_)
  obtain rfl := hv
  refine g_st (st' := [_]) rfl ?_
  refine g_aload_n hG dL_law_663 rfl 2 rfl rfl ?_
  refine g_aload_n hG dL_law_664 rfl 0 rfl rfl ?_
  refine g_iload_n hG dL_law_665 rfl 3 rfl rfl ?_
  refine g_iconst (v := (1 : Int32)) hG dL_law_666 (by decide) rfl ?_
  refine g_iadd hG dL_law_667 rfl ?_
  refine g_topi (y := nI (i + 1)) (nI_add (i) (1)) ?_
  refine g_sld (k := (i + 1)) hG hX hbl hbA dL_law_668 rfl (by omega) (by omega) rfl ?_
  refine g_callVRp (n := 1) (As := [_]) (rest := [_]) hG (c_X7_ended l D a2 f fp fs fv fg fw td ft fn (nI i1) (nI kp) wk (nI Lp) sp iw od (xs (i + 1))) gL_law_X7_ended rfl (by decide +kernel) ⟨Nat.le_of_ble_eq_true rfl, Nat.le_of_ble_eq_true rfl⟩ 0 rfl rfl rfl rfl rfl (Nat.le_of_ble_eq_true rfl) dL_law_669 ⟨by show _ ≤ 600000; omega, by show _ ≤ 7302250; omega⟩ rfl (fun v hv => ?_)
  obtain rfl := hv
  refine g_st (st' := [_, _]) rfl ?_
  refine g_icmp_eq hG dL_law_672 941 (by decide) rfl (fun _ => ?_) (fun h => absurd rfl h)
  refine g_widen (cs + 18) (sl + 420) (by omega) (by omega) ?_
  exact hback _ _ _ _ _ _ _ _ _ _ _ _ _ _ _ _ _ _ _ _ _ _ _ _ _ _ hI
