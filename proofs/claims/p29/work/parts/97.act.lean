set_option maxHeartbeats 4000000 in
set_option maxRecDepth 100000 in
theorem c_L_act (l : Launch) (D : DT) (a : Nat → Nat) (f : Nat → Int32) (na : Nat → Nat → Int32) (w td vl : Nat → Int32) (L pt fl : Nat) (kd : Int32) (kp : Nat) (pq ps : Nat → Option HH) (mk n b : Nat) (hW : WF f mk n b) (hNR : NR f na n) (hF : FB f) (hkp : kp ≤ 6) (l9 : List (Nat → Int32)) (hHL : HL kp pq l9) (cr : Nat) (hcr : cr ≤ 1000) (hS : SI cr f) (hL : L ≤ 80) (hch : ∀ k, k < L → ∃ ch : Nat, ch < 256 ∧ td k = nI ch) (xw x y : Int32) : MW l yL_act wsL_act 9 218 112 2380 D [.ref (a 19), .int (xw), .int (x), .int (y)] (wB D a f na w td vl L pt fl kd kp (fqa pq) (fqa ps) (tlW D pq ps)) (lwP D a ps (wB D a f na w td vl L pt fl kd kp (fqa pq) (fqa ps) (tlW D pq ps)) (cr + 1)) := by
  obtain ⟨hmk, hm40, hn8, hb0, hb01, hb08, hn8b, hst, hno, how, hdo, hb0a, hb0c, hb0d, hb0z⟩ := id hW
  have hm8 : n ≤ 8 := by omega
  obtain ⟨eN1, eN2, -⟩ := hW.N
  refine MW.of (cc := cL_act) (maxL := 15) (ret := (some .boolean)) (lv := [(0, .ref (a 19)), (1, .int (xw)), (2, .int (x)), (3, .int (y))]) (by decide +kernel) rfl (Nat.le_of_ble_eq_true rfl) rfl ?_
  intro p e s m below meth c A hAe hAg X hr hmn
  refine g_iload_n X dL_act_0 rfl 2 rfl rfl ?_
  refine g_bipush (v := (6 : Int32)) X dL_act_1 (by decide) rfl ?_
  refine g_callSR (n := 2) (As := [_, _]) (rest := []) X (c_L_up l D (x) 6 (by omega)) gL_act_L_up rfl (by decide +kernel) ⟨Nat.le_of_ble_eq_true rfl, Nat.le_of_ble_eq_true rfl⟩ [] rfl rfl rfl rfl (Nat.le_of_ble_eq_true rfl) dL_act_3 ⟨Nat.le_of_ble_eq_true rfl, Nat.le_of_ble_eq_true rfl⟩ rfl (fun v hv => ?_)
  obtain rfl := hv
  refine g_st (st' := [_]) rfl ?_
  refine g_upn (by omega) (fun u3 hu3 eu3 => ?_)
  refine g_istore X [(4, _), (0, _), (1, _), (2, _), (3, _)] dL_act_6 (by decide) rfl rfl ?_
  refine g_iload_n X dL_act_8 rfl 3 rfl rfl ?_
  refine g_iconst (v := (3 : Int32)) X dL_act_9 (by decide) rfl ?_
  refine g_ishr X dL_act_10 rfl ?_
  refine g_iload_n X dL_act_11 rfl 3 rfl rfl ?_
  refine g_bipush (v := (20 : Int32)) X dL_act_12 (by decide) rfl ?_
  refine g_ishr X dL_act_14 rfl ?_
  refine g_iconst (v := (2 : Int32)) X dL_act_15 (by decide) rfl ?_
  refine g_callSR (n := 2) (As := [_, _]) (rest := [_]) X (c_L_up l D ((x >>> ((20 : Int32) &&& 31))) 2 (by omega)) gL_act_L_up rfl (by decide +kernel) ⟨Nat.le_of_ble_eq_true rfl, Nat.le_of_ble_eq_true rfl⟩ [] rfl rfl rfl rfl (Nat.le_of_ble_eq_true rfl) dL_act_16 ⟨Nat.le_of_ble_eq_true rfl, Nat.le_of_ble_eq_true rfl⟩ rfl (fun v hv => ?_)
  obtain rfl := hv
  refine g_st (st' := [_, _]) rfl ?_
  refine g_upn (by omega) (fun u16 hu16 eu16 => ?_)
  have L31 : ∀ (pg : Nat) (hpg : pg < 12), GG p l e (wRoom 9 218 112 2380) s m ([.ref (a 19), .int (xw), .int (x), .int (y)] : List Value).toArray below meth c D A 15 false 0 0 (MQ below (wrQ D (wB D a f na w td vl L pt fl kd kp (fqa pq) (fqa ps) (tlW D pq ps)) s.heap.size (lwP D a ps (wB D a f na w td vl L pt fl kd kp (fqa pq) (fqa ps) (tlW D pq ps)) (cr + 1))) ([.ref (a 19), .int (xw), .int (x), .int (y)] : List Value).toArray s 112 2380 (va_A (wB D a f na w td vl L pt fl kd kp (fqa pq) (fqa ps) (tlW D pq ps)) s.heap.size)) (wB D a f na w td vl L pt fl kd kp (fqa pq) (fqa ps) (tlW D pq ps)) 31 [(4, .int (nI u3)), (0, .ref (a 19)), (1, .int (xw)), (2, .int (x)), (3, .int (y))] [.int (nI pg)] := by
    intro pg hpg
    refine g_istore X [(5, _), (4, _), (0, _), (1, _), (2, _), (3, _)] dL_act_31 (by decide) rfl rfl ?_
    refine g_aload_n X dL_act_33 rfl 2 rfl rfl ?_
    refine g_iconst (v := (0 : Int32)) X dL_act_34 (by decide) rfl ?_
    refine g_callVRX (w0 := []) (n := 1) (As := [_]) (rest := []) X (c_X6_count l D a f na w td vl L pt fl kd kp (fqa pq) (fqa ps) (tlW D pq ps) mk n b hW hNR _) gL_act_X6_count rfl (by decide +kernel) ⟨Nat.le_of_ble_eq_true rfl, Nat.le_of_ble_eq_true rfl⟩ 20 rfl rfl rfl rfl rfl (Nat.le_of_ble_eq_true rfl) dL_act_35 ⟨Nat.le_of_ble_eq_true rfl, Nat.le_of_ble_eq_true rfl⟩ rfl (fun v hv => ?_)
    obtain rfl := hv
    refine g_st (st' := [_]) rfl ?_
    refine g_topi (oC0.trans hmk) ?_
    refine g_istore X [(6, _), (5, _), (4, _), (0, _), (1, _), (2, _), (3, _)] dL_act_38 (by decide) rfl rfl ?_
    refine g_iload_n X dL_act_40 rfl 6 rfl rfl ?_
    refine g_iconst (v := (2 : Int32)) X dL_act_41 (by decide) rfl ?_
    refine g_callSR (n := 2) (As := [_, _]) (rest := []) X (c_L_up l D (y) 2 (by omega)) gL_act_L_up rfl (by decide +kernel) ⟨Nat.le_of_ble_eq_true rfl, Nat.le_of_ble_eq_true rfl⟩ [] rfl rfl rfl rfl (Nat.le_of_ble_eq_true rfl) dL_act_42 ⟨Nat.le_of_ble_eq_true rfl, Nat.le_of_ble_eq_true rfl⟩ rfl (fun v hv => ?_)
    obtain rfl := hv
    refine g_st (st' := [_]) rfl ?_
    refine g_upn (by omega) (fun u42 hu42 eu42 => ?_)
    have L63 : ∀ (rt : Nat) (hrt : 1 ≤ rt ∧ rt ≤ 7), GG p l e (wRoom 9 218 112 2380) s m ([.ref (a 19), .int (xw), .int (x), .int (y)] : List Value).toArray below meth c D A 15 false 0 0 (MQ below (wrQ D (wB D a f na w td vl L pt fl kd kp (fqa pq) (fqa ps) (tlW D pq ps)) s.heap.size (lwP D a ps (wB D a f na w td vl L pt fl kd kp (fqa pq) (fqa ps) (tlW D pq ps)) (cr + 1))) ([.ref (a 19), .int (xw), .int (x), .int (y)] : List Value).toArray s 112 2380 (va_A (wB D a f na w td vl L pt fl kd kp (fqa pq) (fqa ps) (tlW D pq ps)) s.heap.size)) (wB D a f na w td vl L pt fl kd kp (fqa pq) (fqa ps) (tlW D pq ps)) 63 [(6, .int (nI mk)), (5, .int (nI pg)), (4, .int (nI u3)), (0, .ref (a 19)), (1, .int (xw)), (2, .int (x)), (3, .int (y))] [.int (nI rt)] := by
      intro rt hrt
      refine g_istore X [(7, _), (6, _), (5, _), (4, _), (0, _), (1, _), (2, _), (3, _)] dL_act_63 (by decide) rfl rfl ?_
      refine g_iload_n X dL_act_65 rfl 5 rfl rfl ?_
      refine g_bipush (v := (16 : Int32)) X dL_act_66 (by decide) rfl ?_
      refine g_callSR (n := 2) (As := [_, _]) (rest := []) X (c_L_up l D (xw) 16 (by omega)) gL_act_L_up rfl (by decide +kernel) ⟨Nat.le_of_ble_eq_true rfl, Nat.le_of_ble_eq_true rfl⟩ [] rfl rfl rfl rfl (Nat.le_of_ble_eq_true rfl) dL_act_68 ⟨Nat.le_of_ble_eq_true rfl, Nat.le_of_ble_eq_true rfl⟩ rfl (fun v hv => ?_)
      obtain rfl := hv
      refine g_st (st' := [_]) rfl ?_
      refine g_upn (by omega) (fun u68 hu68 eu68 => ?_)
      refine g_table X dL_act_71 (fun v : Int => if v = 0 then 144 else if v = 1 then 144 else if v = 2 then 199 else if v = 3 then 199 else if v = 4 then 272 else if v = 5 then 272 else if v = 6 then 445 else if v = 7 then 445 else if v = 8 then 445 else if v = 9 then 624 else if v = 10 then 743 else if v = 11 then 743 else if v = 12 then 943 else if v = 13 then 943 else if v = 14 then 943 else 965) (by
          intro v h1 h2
          have hv : v = 0 ∨ v = 1 ∨ v = 2 ∨ v = 3 ∨ v = 4 ∨ v = 5 ∨ v = 6 ∨ v = 7 ∨ v = 8 ∨ v = 9 ∨ v = 10 ∨ v = 11 ∨ v = 12 ∨ v = 13 ∨ v = 14 := by omega
          rcases hv with rfl | rfl | rfl | rfl | rfl | rfl | rfl | rfl | rfl | rfl | rfl | rfl | rfl | rfl | rfl
          all_goals exact ⟨_, rfl, by decide⟩) 965 (by decide) (fun hl hh => ?_) (fun hd => ?_)
      · have hc : (nI u68).toInt = 0 ∨ (nI u68).toInt = 1 ∨ (nI u68).toInt = 2 ∨ (nI u68).toInt = 3 ∨ (nI u68).toInt = 4 ∨ (nI u68).toInt = 5 ∨ (nI u68).toInt = 6 ∨ (nI u68).toInt = 7 ∨ (nI u68).toInt = 8 ∨ (nI u68).toInt = 9 ∨ (nI u68).toInt = 10 ∨ (nI u68).toInt = 11 ∨ (nI u68).toInt = 12 ∨ (nI u68).toInt = 13 ∨ (nI u68).toInt = 14 := by omega
        rcases hc with hc | hc | hc | hc | hc | hc | hc | hc | hc | hc | hc | hc | hc | hc | hc
        · refine g_pc 144 (by rw [hc]; rfl) ?_
          exact c_act_own l D a f na w td vl L pt fl kd kp pq ps mk n b hW hNR hF hkp l9 hHL cr hcr hS hL hch rt hrt pg hpg u3 hu3 xw x y hAe hAg X hr
        · refine g_pc 144 (by rw [hc]; rfl) ?_
          exact c_act_own l D a f na w td vl L pt fl kd kp pq ps mk n b hW hNR hF hkp l9 hHL cr hcr hS hL hch rt hrt pg hpg u3 hu3 xw x y hAe hAg X hr
        · refine g_pc 199 (by rw [hc]; rfl) ?_
          exact c_act_take l D a f na w td vl L pt fl kd kp pq ps mk n b hW hNR hF hkp l9 hHL cr hcr hS hL hch rt hrt pg hpg u3 hu3 xw x y hAe hAg X hr
        · refine g_pc 199 (by rw [hc]; rfl) ?_
          exact c_act_take l D a f na w td vl L pt fl kd kp pq ps mk n b hW hNR hF hkp l9 hHL cr hcr hS hL hch rt hrt pg hpg u3 hu3 xw x y hAe hAg X hr
        · refine g_pc 272 (by rw [hc]; rfl) ?_
          exact c_act_stamp l D a f na w td vl L pt fl kd kp pq ps mk n b hW hNR hF hkp l9 hHL cr hcr hS hL hch rt hrt pg hpg u3 hu3 xw x y hAe hAg X hr
        · refine g_pc 272 (by rw [hc]; rfl) ?_
          exact c_act_stamp l D a f na w td vl L pt fl kd kp pq ps mk n b hW hNR hF hkp l9 hHL cr hcr hS hL hch rt hrt pg hpg u3 hu3 xw x y hAe hAg X hr
        · refine g_pc 445 (by rw [hc]; rfl) ?_
          exact c_act_pass l D a f na w td vl L pt fl kd kp pq ps mk n b hW hNR hF hkp l9 hHL cr hcr hS hL hch rt hrt pg hpg u3 hu3 xw x y hAe hAg X hr
        · refine g_pc 445 (by rw [hc]; rfl) ?_
          exact c_act_pass l D a f na w td vl L pt fl kd kp pq ps mk n b hW hNR hF hkp l9 hHL cr hcr hS hL hch rt hrt pg hpg u3 hu3 xw x y hAe hAg X hr
        · refine g_pc 445 (by rw [hc]; rfl) ?_
          exact c_act_pass l D a f na w td vl L pt fl kd kp pq ps mk n b hW hNR hF hkp l9 hHL cr hcr hS hL hch rt hrt pg hpg u3 hu3 xw x y hAe hAg X hr
        · refine g_pc 624 (by rw [hc]; rfl) ?_
          exact c_act_forge l D a f na w td vl L pt fl kd kp pq ps mk n b hW hNR hF hkp l9 hHL cr hcr hS hL hch rt hrt pg hpg u3 hu3 xw x y hAe hAg X hr
        · refine g_pc 743 (by rw [hc]; rfl) ?_
          exact c_act_door l D a f na w td vl L pt fl kd kp pq ps mk n b hW hNR hF hkp l9 hHL cr hcr hS hL hch rt hrt pg hpg u3 hu3 xw x y hAe hAg X hr
        · refine g_pc 743 (by rw [hc]; rfl) ?_
          exact c_act_door l D a f na w td vl L pt fl kd kp pq ps mk n b hW hNR hF hkp l9 hHL cr hcr hS hL hch rt hrt pg hpg u3 hu3 xw x y hAe hAg X hr
        · refine g_pc 943 (by rw [hc]; rfl) ?_
          refine g_aload_n X dL_act_943 rfl 4 rfl rfl ?_
          refine g_iload X dL_act_944 3 rfl rfl ?_
          refine g_iload_n X dL_act_946 rfl 6 rfl rfl ?_
          refine g_bipush (v := (12 : Int32)) X dL_act_947 (by decide) rfl ?_
          refine g_ishr X dL_act_949 rfl ?_
          refine g_iconst (v := (3 : Int32)) X dL_act_950 (by decide) rfl ?_
          refine g_callSR (n := 2) (As := [_, _]) (rest := [_, _]) X (c_L_up l D ((x >>> ((12 : Int32) &&& 31))) 3 (by omega)) gL_act_L_up rfl (by decide +kernel) ⟨Nat.le_of_ble_eq_true rfl, Nat.le_of_ble_eq_true rfl⟩ [] rfl rfl rfl rfl (Nat.le_of_ble_eq_true rfl) dL_act_951 ⟨Nat.le_of_ble_eq_true rfl, Nat.le_of_ble_eq_true rfl⟩ rfl (fun v hv => ?_)
          obtain rfl := hv
          refine g_st (st' := [_, _, _]) rfl ?_
          refine g_upn (by omega) (fun u951 hu951 eu951 => ?_)
          refine g_iconst (v := (1 : Int32)) X dL_act_954 (by decide) rfl ?_
          refine g_iload_n X dL_act_955 rfl 7 rfl rfl ?_
          refine g_iconst (v := (2 : Int32)) X dL_act_956 (by decide) rfl ?_
          refine g_callSR (n := 2) (As := [_, _]) (rest := [_, _, _, _]) X (c_L_up l D (y) 2 (by omega)) gL_act_L_up rfl (by decide +kernel) ⟨Nat.le_of_ble_eq_true rfl, Nat.le_of_ble_eq_true rfl⟩ [] rfl rfl rfl rfl (Nat.le_of_ble_eq_true rfl) dL_act_957 ⟨Nat.le_of_ble_eq_true rfl, Nat.le_of_ble_eq_true rfl⟩ rfl (fun v hv => ?_)
          obtain rfl := hv
          refine g_st (st' := [_, _, _, _, _]) rfl ?_
          refine g_upn (by omega) (fun u957 hu957 eu957 => ?_)
          refine g_iadd X dL_act_960 rfl ?_
          refine g_topi (y := nI (1 + u957)) (nI_add 1 u957) ?_
          refine g_callSXs (n := 4) (As := [_, _, _, _]) (rest := []) X hAg rfl (c_L_come l D a f na w td vl L pt fl kd kp pq ps mk n b hW hNR hF hkp l9 hHL cr hcr hS hL hch u3 u951 (1 + u957) hu3 (by omega) (by omega)) gL_act_L_come rfl (by decide +kernel) ⟨Nat.le_of_ble_eq_true rfl, Nat.le_of_ble_eq_true rfl⟩ rfl rfl (Nat.le_of_ble_eq_true rfl) dL_act_961 ⟨Nat.le_of_ble_eq_true rfl, Nat.le_of_ble_eq_true rfl⟩ rfl (fun v w9 hv => ?_)
          obtain ⟨rfl, fB, naB, wB9, tdB, vlB, LB, ptB, flB, kdB, kpB, pqB, hLIB, hADB, rfl⟩ := hv
          refine ⟨hADB, ?_⟩
          refine g_st (st' := [_]) rfl ?_
          refine g_widen 112 2380 (Nat.le_of_ble_eq_true rfl) (Nat.le_of_ble_eq_true rfl) ?_
          refine g_retW X hr (by first | rfl | exact b2i_nar _) dL_act_964 hAe ?_
          exact ⟨rfl, fB, naB, wB9, tdB, vlB, LB, ptB, flB, kdB, kpB, pqB, LI_le (by omega) hLIB, hADB, rfl⟩
        · refine g_pc 943 (by rw [hc]; rfl) ?_
          refine g_aload_n X dL_act_943 rfl 4 rfl rfl ?_
          refine g_iload X dL_act_944 3 rfl rfl ?_
          refine g_iload_n X dL_act_946 rfl 6 rfl rfl ?_
          refine g_bipush (v := (12 : Int32)) X dL_act_947 (by decide) rfl ?_
          refine g_ishr X dL_act_949 rfl ?_
          refine g_iconst (v := (3 : Int32)) X dL_act_950 (by decide) rfl ?_
          refine g_callSR (n := 2) (As := [_, _]) (rest := [_, _]) X (c_L_up l D ((x >>> ((12 : Int32) &&& 31))) 3 (by omega)) gL_act_L_up rfl (by decide +kernel) ⟨Nat.le_of_ble_eq_true rfl, Nat.le_of_ble_eq_true rfl⟩ [] rfl rfl rfl rfl (Nat.le_of_ble_eq_true rfl) dL_act_951 ⟨Nat.le_of_ble_eq_true rfl, Nat.le_of_ble_eq_true rfl⟩ rfl (fun v hv => ?_)
          obtain rfl := hv
          refine g_st (st' := [_, _, _]) rfl ?_
          refine g_upn (by omega) (fun u951 hu951 eu951 => ?_)
          refine g_iconst (v := (1 : Int32)) X dL_act_954 (by decide) rfl ?_
          refine g_iload_n X dL_act_955 rfl 7 rfl rfl ?_
          refine g_iconst (v := (2 : Int32)) X dL_act_956 (by decide) rfl ?_
          refine g_callSR (n := 2) (As := [_, _]) (rest := [_, _, _, _]) X (c_L_up l D (y) 2 (by omega)) gL_act_L_up rfl (by decide +kernel) ⟨Nat.le_of_ble_eq_true rfl, Nat.le_of_ble_eq_true rfl⟩ [] rfl rfl rfl rfl (Nat.le_of_ble_eq_true rfl) dL_act_957 ⟨Nat.le_of_ble_eq_true rfl, Nat.le_of_ble_eq_true rfl⟩ rfl (fun v hv => ?_)
          obtain rfl := hv
          refine g_st (st' := [_, _, _, _, _]) rfl ?_
          refine g_upn (by omega) (fun u957 hu957 eu957 => ?_)
          refine g_iadd X dL_act_960 rfl ?_
          refine g_topi (y := nI (1 + u957)) (nI_add 1 u957) ?_
          refine g_callSXs (n := 4) (As := [_, _, _, _]) (rest := []) X hAg rfl (c_L_come l D a f na w td vl L pt fl kd kp pq ps mk n b hW hNR hF hkp l9 hHL cr hcr hS hL hch u3 u951 (1 + u957) hu3 (by omega) (by omega)) gL_act_L_come rfl (by decide +kernel) ⟨Nat.le_of_ble_eq_true rfl, Nat.le_of_ble_eq_true rfl⟩ rfl rfl (Nat.le_of_ble_eq_true rfl) dL_act_961 ⟨Nat.le_of_ble_eq_true rfl, Nat.le_of_ble_eq_true rfl⟩ rfl (fun v w9 hv => ?_)
          obtain ⟨rfl, fB, naB, wB9, tdB, vlB, LB, ptB, flB, kdB, kpB, pqB, hLIB, hADB, rfl⟩ := hv
          refine ⟨hADB, ?_⟩
          refine g_st (st' := [_]) rfl ?_
          refine g_widen 112 2380 (Nat.le_of_ble_eq_true rfl) (Nat.le_of_ble_eq_true rfl) ?_
          refine g_retW X hr (by first | rfl | exact b2i_nar _) dL_act_964 hAe ?_
          exact ⟨rfl, fB, naB, wB9, tdB, vlB, LB, ptB, flB, kdB, kpB, pqB, LI_le (by omega) hLIB, hADB, rfl⟩
        · refine g_pc 943 (by rw [hc]; rfl) ?_
          refine g_aload_n X dL_act_943 rfl 4 rfl rfl ?_
          refine g_iload X dL_act_944 3 rfl rfl ?_
          refine g_iload_n X dL_act_946 rfl 6 rfl rfl ?_
          refine g_bipush (v := (12 : Int32)) X dL_act_947 (by decide) rfl ?_
          refine g_ishr X dL_act_949 rfl ?_
          refine g_iconst (v := (3 : Int32)) X dL_act_950 (by decide) rfl ?_
          refine g_callSR (n := 2) (As := [_, _]) (rest := [_, _]) X (c_L_up l D ((x >>> ((12 : Int32) &&& 31))) 3 (by omega)) gL_act_L_up rfl (by decide +kernel) ⟨Nat.le_of_ble_eq_true rfl, Nat.le_of_ble_eq_true rfl⟩ [] rfl rfl rfl rfl (Nat.le_of_ble_eq_true rfl) dL_act_951 ⟨Nat.le_of_ble_eq_true rfl, Nat.le_of_ble_eq_true rfl⟩ rfl (fun v hv => ?_)
          obtain rfl := hv
          refine g_st (st' := [_, _, _]) rfl ?_
          refine g_upn (by omega) (fun u951 hu951 eu951 => ?_)
          refine g_iconst (v := (1 : Int32)) X dL_act_954 (by decide) rfl ?_
          refine g_iload_n X dL_act_955 rfl 7 rfl rfl ?_
          refine g_iconst (v := (2 : Int32)) X dL_act_956 (by decide) rfl ?_
          refine g_callSR (n := 2) (As := [_, _]) (rest := [_, _, _, _]) X (c_L_up l D (y) 2 (by omega)) gL_act_L_up rfl (by decide +kernel) ⟨Nat.le_of_ble_eq_true rfl, Nat.le_of_ble_eq_true rfl⟩ [] rfl rfl rfl rfl (Nat.le_of_ble_eq_true rfl) dL_act_957 ⟨Nat.le_of_ble_eq_true rfl, Nat.le_of_ble_eq_true rfl⟩ rfl (fun v hv => ?_)
          obtain rfl := hv
          refine g_st (st' := [_, _, _, _, _]) rfl ?_
          refine g_upn (by omega) (fun u957 hu957 eu957 => ?_)
          refine g_iadd X dL_act_960 rfl ?_
          refine g_topi (y := nI (1 + u957)) (nI_add 1 u957) ?_
          refine g_callSXs (n := 4) (As := [_, _, _, _]) (rest := []) X hAg rfl (c_L_come l D a f na w td vl L pt fl kd kp pq ps mk n b hW hNR hF hkp l9 hHL cr hcr hS hL hch u3 u951 (1 + u957) hu3 (by omega) (by omega)) gL_act_L_come rfl (by decide +kernel) ⟨Nat.le_of_ble_eq_true rfl, Nat.le_of_ble_eq_true rfl⟩ rfl rfl (Nat.le_of_ble_eq_true rfl) dL_act_961 ⟨Nat.le_of_ble_eq_true rfl, Nat.le_of_ble_eq_true rfl⟩ rfl (fun v w9 hv => ?_)
          obtain ⟨rfl, fB, naB, wB9, tdB, vlB, LB, ptB, flB, kdB, kpB, pqB, hLIB, hADB, rfl⟩ := hv
          refine ⟨hADB, ?_⟩
          refine g_st (st' := [_]) rfl ?_
          refine g_widen 112 2380 (Nat.le_of_ble_eq_true rfl) (Nat.le_of_ble_eq_true rfl) ?_
          refine g_retW X hr (by first | rfl | exact b2i_nar _) dL_act_964 hAe ?_
          exact ⟨rfl, fB, naB, wB9, tdB, vlB, LB, ptB, flB, kdB, kpB, pqB, LI_le (by omega) hLIB, hADB, rfl⟩
      · refine g_iload_n X dL_act_965 rfl 6 rfl rfl ?_
        refine g_iconst (v := (3 : Int32)) X dL_act_966 (by decide) rfl ?_
        refine g_callSR (n := 2) (As := [_, _]) (rest := []) X (c_L_up l D (x) 3 (by omega)) gL_act_L_up rfl (by decide +kernel) ⟨Nat.le_of_ble_eq_true rfl, Nat.le_of_ble_eq_true rfl⟩ [] rfl rfl rfl rfl (Nat.le_of_ble_eq_true rfl) dL_act_967 ⟨Nat.le_of_ble_eq_true rfl, Nat.le_of_ble_eq_true rfl⟩ rfl (fun v hv => ?_)
        obtain rfl := hv
        refine g_st (st' := [_]) rfl ?_
        refine g_upn (by omega) (fun u967 hu967 eu967 => ?_)
        refine g_if_le X dL_act_970 980 (by decide) rfl (fun h970 => ?_) (fun h970 => ?_)
        · have i970 := nj_le (a := u967) (b := 0) (by omega) (by omega) h970
          exact c_act_set l D a f na w td vl L pt fl kd kp pq ps mk n b hW hNR hF hkp l9 hHL cr hcr hS hL hch rt hrt pg hpg u3 hu3 xw x y hAe hAg X hr
        · have i970 := nj_nle (a := u967) (b := 0) (by omega) (by omega) h970
          refine g_aload_n X dL_act_973 rfl 4 rfl rfl ?_
          refine g_iload_n X dL_act_974 rfl 6 rfl rfl ?_
          refine g_iload_n X dL_act_975 rfl 7 rfl rfl ?_
          refine g_callSXs (n := 3) (As := [_, _, _]) (rest := []) X hAg rfl (c_L_text l D a f na w td vl L pt fl kd kp pq ps mk n b hW hNR hF hkp l9 hHL cr hcr hS hL hch x y) gL_act_L_text rfl (by decide +kernel) ⟨Nat.le_of_ble_eq_true rfl, Nat.le_of_ble_eq_true rfl⟩ rfl rfl (Nat.le_of_ble_eq_true rfl) dL_act_976 ⟨Nat.le_of_ble_eq_true rfl, Nat.le_of_ble_eq_true rfl⟩ rfl (fun v w9 hv => ?_)
          obtain ⟨rfl, fB, naB, wB9, tdB, vlB, LB, ptB, flB, kdB, kpB, pqB, hLIB, hADB, rfl⟩ := hv
          refine ⟨hADB, ?_⟩
          refine g_st (st' := [_]) rfl ?_
          refine g_retW X hr (by first | rfl | exact b2i_nar _) dL_act_979 hAe ?_
          exact ⟨rfl, fB, naB, wB9, tdB, vlB, LB, ptB, flB, kdB, kpB, pqB, LI_le (by omega) hLIB, hADB, rfl⟩
    refine g_if_ne X dL_act_45 53 (by decide) rfl (fun h45 => ?_) (fun h45 => ?_)
    · have i45 := nj_ne (a := u42) (b := 0) (by omega) (by omega) h45
      refine g_iconst (v := (1 : Int32)) X dL_act_53 (by decide) rfl ?_
      refine g_iload_n X dL_act_54 rfl 6 rfl rfl ?_
      refine g_iconst (v := (1 : Int32)) X dL_act_55 (by decide) rfl ?_
      refine g_ishr X dL_act_56 rfl ?_
      refine g_bipush (v := (7 : Int32)) X dL_act_57 (by decide) rfl ?_
      refine g_callSR (n := 2) (As := [_, _]) (rest := [_]) X (c_L_up l D ((y >>> ((1 : Int32) &&& 31))) 7 (by omega)) gL_act_L_up rfl (by decide +kernel) ⟨Nat.le_of_ble_eq_true rfl, Nat.le_of_ble_eq_true rfl⟩ [] rfl rfl rfl rfl (Nat.le_of_ble_eq_true rfl) dL_act_59 ⟨Nat.le_of_ble_eq_true rfl, Nat.le_of_ble_eq_true rfl⟩ rfl (fun v hv => ?_)
      obtain rfl := hv
      refine g_st (st' := [_, _]) rfl ?_
      refine g_upn (by omega) (fun u59 hu59 eu59 => ?_)
      refine g_iadd X dL_act_62 rfl ?_
      refine g_topi (y := nI (1 + u59)) (nI_add 1 u59) ?_
      exact L63 (1 + u59) (by omega)
    · have i45 := nj_eq (a := u42) (b := 0) (by omega) (by omega) h45
      refine g_bipush (v := (7 : Int32)) X dL_act_48 (by decide) rfl ?_
      refine g_goto X dL_act_50 63 (by decide) ?_
      exact L63 7 (by omega)
  refine g_if_ne X dL_act_19 26 (by decide) rfl (fun h19 => ?_) (fun h19 => ?_)
  · have i19 := nj_ne (a := u16) (b := 0) (by omega) (by omega) h19
    refine g_bipush (v := (12 : Int32)) X dL_act_26 (by decide) rfl ?_
    refine g_callSR (n := 2) (As := [_, _]) (rest := []) X (c_L_up l D ((x >>> ((3 : Int32) &&& 31))) 12 (by omega)) gL_act_L_up rfl (by decide +kernel) ⟨Nat.le_of_ble_eq_true rfl, Nat.le_of_ble_eq_true rfl⟩ [] rfl rfl rfl rfl (Nat.le_of_ble_eq_true rfl) dL_act_28 ⟨Nat.le_of_ble_eq_true rfl, Nat.le_of_ble_eq_true rfl⟩ rfl (fun v hv => ?_)
    obtain rfl := hv
    refine g_st (st' := [_]) rfl ?_
    refine g_upn (by omega) (fun u28 hu28 eu28 => ?_)
    exact L31 _ (by omega)
  · have i19 := nj_eq (a := u16) (b := 0) (by omega) (by omega) h19
    refine g_iconst (v := (2 : Int32)) X dL_act_22 (by decide) rfl ?_
    refine g_goto X dL_act_23 28 (by decide) ?_
    refine g_callSR (n := 2) (As := [_, _]) (rest := []) X (c_L_up l D ((x >>> ((3 : Int32) &&& 31))) 2 (by omega)) gL_act_L_up rfl (by decide +kernel) ⟨Nat.le_of_ble_eq_true rfl, Nat.le_of_ble_eq_true rfl⟩ [] rfl rfl rfl rfl (Nat.le_of_ble_eq_true rfl) dL_act_28 ⟨Nat.le_of_ble_eq_true rfl, Nat.le_of_ble_eq_true rfl⟩ rfl (fun v hv => ?_)
    obtain rfl := hv
    refine g_st (st' := [_]) rfl ?_
    refine g_upn (by omega) (fun u28 hu28 eu28 => ?_)
    exact L31 _ (by omega)
