set_option maxHeartbeats 4000000 in
set_option maxRecDepth 100000 in
theorem c_L_sound (l : Launch) (D : DT) (a : Nat → Nat) (f : Nat → Int32) (na : Nat → Nat → Int32) (w td vl : Nat → Int32) (L pt fl : Nat) (kd : Int32) (kp : Nat) (fq fs : Nat → Option Nat) (tl : va_W) (mk n b : Nat) (hW : WF f mk n b) (hNR : NR f na n) (cr : Nat) (hcr : cr ≤ 1000) (hS : SI cr f) (v : Int32) : MR l yL_sound wsL_sound 7 167 D [.ref (a 19), .int (v)] (wB D a f na w td vl L pt fl kd kp fq fs tl) (fun v => v = some (.int (1))) := by
  obtain ⟨hmk, hm40, hn8, hb0, hb01, hb08, hn8b, hst, hno, how, hdo, hb0a, hb0c, hb0d, hb0z⟩ := id hW
  have hm8 : n ≤ 8 := by omega
  obtain ⟨eN1, eN2, -⟩ := hW.N
  obtain ⟨hNt, hCT⟩ := hS
  have hND := hNt.nd eN2
  have hsum := CT_sum hCT
  obtain ⟨ee, hh, hee, h78, hle, h79, hhe⟩ := hCT
  refine MR.of (cc := cL_sound) (maxL := 16) (ret := (some .boolean)) (lv := [(0, .ref (a 19)), (1, .int (v))]) (by decide +kernel) rfl (Nat.le_of_ble_eq_true rfl) rfl ?_
  intro p e s m below meth c A X hr hmn
  refine g_aload_n X dL_sound_0 rfl 0 rfl rfl ?_
  refine g_iconst (v := (0 : Int32)) X dL_sound_1 (by decide) rfl ?_
  refine g_callVRX (w0 := []) (n := 1) (As := [_]) (rest := []) X (c_X6_count l D a f na w td vl L pt fl kd kp fq fs tl mk n b hW hNR _) gL_sound_X6_count rfl (by decide +kernel) ⟨Nat.le_of_ble_eq_true rfl, Nat.le_of_ble_eq_true rfl⟩ 20 rfl rfl rfl rfl rfl (Nat.le_of_ble_eq_true rfl) dL_sound_2 ⟨Nat.le_of_ble_eq_true rfl, Nat.le_of_ble_eq_true rfl⟩ rfl (fun v hv => ?_)
  obtain rfl := hv
  refine g_st (st' := [_]) rfl ?_
  refine g_topi (oC0.trans hmk) ?_
  refine g_istore_n X [(2, _), (0, _), (1, _)] dL_sound_5 rfl (by decide) rfl rfl ?_
  refine g_iconst (v := (0 : Int32)) X dL_sound_6 (by decide) rfl ?_
  refine g_istore_n X [(3, _), (2, _), (0, _), (1, _)] dL_sound_7 rfl (by decide) rfl rfl ?_
  refine g_bipush (v := ((-6) : Int32)) X dL_sound_8 (by decide) rfl ?_
  refine g_istore X [(4, _), (3, _), (2, _), (0, _), (1, _)] dL_sound_10 (by decide) rfl rfl ?_
  refine g_iconst (v := (0 : Int32)) X dL_sound_12 (by decide) rfl ?_
  refine g_istore X [(5, _), (4, _), (3, _), (2, _), (0, _), (1, _)] dL_sound_13 (by decide) rfl rfl ?_
  have L41 : ∀ (pg : Nat) (hpg : pg < 12), GG p l e (wRoom 7 167 0 0) s m ([.ref (a 19), .int (v)] : List Value).toArray below meth c D A 16 true 0 0 (MQ below (roQ (fun v => v = some (.int (1)))) ([.ref (a 19), .int (v)] : List Value).toArray s 0 0 (fun _ => False)) (wB D a f na w td vl L pt fl kd kp fq fs tl) 41 [(5, .int (0)), (4, .int (-6)), (3, .int (0)), (2, .int (nI mk)), (0, .ref (a 19)), (1, .int (v))] [.int (nI pg)] := by
    intro pg hpg
    refine g_istore X [(6, _), (5, _), (4, _), (3, _), (2, _), (0, _), (1, _)] dL_sound_41 (by decide) rfl rfl ?_
    refine g_iconst (v := (0 : Int32)) X dL_sound_43 (by decide) rfl ?_
    refine g_istore X [(7, _), (6, _), (5, _), (4, _), (3, _), (2, _), (0, _), (1, _)] dL_sound_44 (by decide) rfl rfl ?_
    refine g_lconst (v := (0 : Int64)) X dL_sound_46 (by decide) rfl ?_
    refine g_lstore X [(8, _), (7, _), (6, _), (5, _), (4, _), (3, _), (2, _), (0, _), (1, _)] dL_sound_47 (by decide) rfl rfl ?_
    refine g_iconst (v := (0 : Int32)) X dL_sound_49 (by decide) rfl ?_
    refine g_istore X [(10, _), (8, _), (7, _), (6, _), (5, _), (4, _), (3, _), (2, _), (0, _), (1, _)] dL_sound_50 (by decide) rfl rfl ?_
    have L52 : ∀ (j i : Nat) (hi : i ≤ mk) (hj : mk - i = j), GG p l e (wRoom 7 167 0 0) s m ([.ref (a 19), .int (v)] : List Value).toArray below meth c D A 16 true 0 0 (MQ below (roQ (fun v => v = some (.int (1)))) ([.ref (a 19), .int (v)] : List Value).toArray s 0 0 (fun _ => False)) (wB D a f na w td vl L pt fl kd kp fq fs tl) 52 [(10, .int (nI i)), (8, .long (lN (mskN (fun s => decide (ofM f s 0 = nI pg) && (gd f s && decide (hidM f s mk = 0))) i))), (7, .int (nI (cnI (fun s => gd f s && decide (ofM f s 0 = nI pg)) i))), (6, .int (nI pg)), (5, .int (nI (lgL f i))), (4, .int (lgI f i)), (3, .int (nI (cnI (gd f) i))), (2, .int (nI mk)), (0, .ref (a 19)), (1, .int (v))] [] := by
      intro j
      induction j using Nat.strongRecOn with
      | _ j ih =>
      intro i hi hj
      have hch := chN_le f (nI i)
      have hlg := lgL_le f i
      refine g_iload X dL_sound_52 0 rfl rfl ?_
      refine g_iload_n X dL_sound_54 rfl 7 rfl rfl ?_
      refine g_icmp_ge X dL_sound_55 299 (by decide) rfl (fun h55 => ?_) (fun h55 => ?_)
      · have i55 := nj_le (a := mk) (b := i) (by omega) (by omega) h55
        rw [show i = mk from by omega]
        refine g_aload_n X dL_sound_299 rfl 8 rfl rfl ?_
        refine g_iconst (v := (1 : Int32)) X dL_sound_300 (by decide) rfl ?_
        refine g_callVRX (w0 := []) (n := 1) (As := [_]) (rest := []) X (c_X6_count l D a f na w td vl L pt fl kd kp fq fs tl mk n b hW hNR _) gL_sound_X6_count rfl (by decide +kernel) ⟨Nat.le_of_ble_eq_true rfl, Nat.le_of_ble_eq_true rfl⟩ 20 rfl rfl rfl rfl rfl (Nat.le_of_ble_eq_true rfl) dL_sound_301 ⟨Nat.le_of_ble_eq_true rfl, Nat.le_of_ble_eq_true rfl⟩ rfl (fun v hv => ?_)
        obtain rfl := hv
        refine g_st (st' := [_]) rfl ?_
        refine g_topi (oC1 eN1) ?_
        refine g_iload_n X dL_sound_304 rfl 6 rfl rfl ?_
        refine g_icmp_ne X dL_sound_305 377 (by decide) rfl (fun h305 => absurd rfl h305) (fun h305 => ?_)
        refine g_aload_n X dL_sound_308 rfl 8 rfl rfl ?_
        refine g_callVRX (w0 := []) (n := 0) (As := []) (rest := []) X (c_X6_longest l D a f na w td vl L pt fl kd kp fq fs tl mk n b hW hNR) gL_sound_X6_longest rfl (by decide +kernel) ⟨Nat.le_of_ble_eq_true rfl, Nat.le_of_ble_eq_true rfl⟩ 20 rfl rfl rfl rfl rfl (Nat.le_of_ble_eq_true rfl) dL_sound_309 ⟨Nat.le_of_ble_eq_true rfl, Nat.le_of_ble_eq_true rfl⟩ rfl (fun v hv => ?_)
        obtain rfl := hv
        refine g_st (st' := [_]) rfl ?_
        refine g_topi ((show longestS f = lgI f mk from by unfold longestS; rw [eN1])) ?_
        refine g_iload X dL_sound_312 5 rfl rfl ?_
        refine g_icmp_ne X dL_sound_314 377 (by decide) rfl (fun h314 => absurd rfl h314) (fun h314 => ?_)
        refine g_aload_n X dL_sound_317 rfl 8 rfl rfl ?_
        refine g_iload X dL_sound_318 3 rfl rfl ?_
        refine g_iconst (v := (3 : Int32)) X dL_sound_320 (by decide) rfl ?_
        refine g_callVRX (w0 := []) (n := 2) (As := [_, _]) (rest := []) X (c_X6_ofPage l D a f na w td vl L pt fl kd kp fq fs tl mk n b hW hNR _ _) gL_sound_X6_ofPage rfl (by decide +kernel) ⟨Nat.le_of_ble_eq_true rfl, Nat.le_of_ble_eq_true rfl⟩ 20 rfl rfl rfl rfl rfl (Nat.le_of_ble_eq_true rfl) dL_sound_321 ⟨Nat.le_of_ble_eq_true rfl, Nat.le_of_ble_eq_true rfl⟩ rfl (fun v hv => ?_)
        obtain rfl := hv
        refine g_st (st' := [_]) rfl ?_
        refine g_topi (oPg3 (p := pg) eN1 (by omega)) ?_
        refine g_iload X dL_sound_324 2 rfl rfl ?_
        refine g_icmp_ne X dL_sound_326 377 (by decide) rfl (fun h326 => absurd rfl h326) (fun h326 => ?_)
        refine g_aload_n X dL_sound_329 rfl 8 rfl rfl ?_
        refine g_iload X dL_sound_330 3 rfl rfl ?_
        refine g_callVRX (w0 := []) (n := 1) (As := [_]) (rest := []) X (c_X6_needless l D a f na w td vl L pt fl kd kp fq fs tl mk n b hW hNR _) gL_sound_X6_needless rfl (by decide +kernel) ⟨Nat.le_of_ble_eq_true rfl, Nat.le_of_ble_eq_true rfl⟩ 20 rfl rfl rfl rfl rfl (Nat.le_of_ble_eq_true rfl) dL_sound_332 ⟨Nat.le_of_ble_eq_true rfl, Nat.le_of_ble_eq_true rfl⟩ rfl (fun v hv => ?_)
        obtain rfl := hv
        refine g_st (st' := [_]) rfl ?_
        refine g_topl (show needlessS f (nI pg) = lN (mskN (fun s => decide (ofM f s 0 = nI pg) && (gd f s && decide (hidM f s mk = 0))) mk) from by unfold needlessS; rw [if_pos (rng_nI' hpg (by omega)), eN1, ndI_msk _ (by omega)]) ?_
        refine g_lload X dL_sound_335 1 rfl rfl ?_
        refine g_lcmp X dL_sound_337 rfl ?_
        refine g_if_ne X dL_sound_338 377 (by decide) rfl (fun h338 => absurd (lg_self _) h338) (fun h338 => ?_)
        refine g_aload_n X dL_sound_341 rfl 8 rfl rfl ?_
        refine g_iload X dL_sound_342 3 rfl rfl ?_
        refine g_iconst (v := (1 : Int32)) X dL_sound_344 (by decide) rfl ?_
        refine g_callVRX (w0 := []) (n := 2) (As := [_, _]) (rest := []) X (c_X6_ofPage l D a f na w td vl L pt fl kd kp fq fs tl mk n b hW hNR _ _) gL_sound_X6_ofPage rfl (by decide +kernel) ⟨Nat.le_of_ble_eq_true rfl, Nat.le_of_ble_eq_true rfl⟩ 20 rfl rfl rfl rfl rfl (Nat.le_of_ble_eq_true rfl) dL_sound_345 ⟨Nat.le_of_ble_eq_true rfl, Nat.le_of_ble_eq_true rfl⟩ rfl (fun v hv => ?_)
        obtain rfl := hv
        refine g_st (st' := [_]) rfl ?_
        refine g_topi (oPg1 (p := pg) eN1 (by omega)) ?_
        refine g_aload_n X dL_sound_348 rfl 8 rfl rfl ?_
        refine g_iload X dL_sound_349 3 rfl rfl ?_
        refine g_iconst (v := (1 : Int32)) X dL_sound_351 (by decide) rfl ?_
        refine g_iconst (v := ((-1) : Int32)) X dL_sound_352 (by decide) rfl ?_
        refine g_callSRX (w0 := []) (n := 4) (As := [_, _, _, _]) (rest := [_]) X (c_L_who l D a f na w td vl L pt fl kd kp fq fs tl mk n b hW hNR pg (by omega) ((1 : Int32)) ((-1 : Int32)) (Or.inl rfl)) gL_sound_L_who rfl (by decide +kernel) ⟨Nat.le_of_ble_eq_true rfl, Nat.le_of_ble_eq_true rfl⟩ rfl rfl rfl (Nat.le_of_ble_eq_true rfl) dL_sound_353 ⟨Nat.le_of_ble_eq_true rfl, Nat.le_of_ble_eq_true rfl⟩ rfl (fun v hv => ?_)
        obtain rfl := hv
        refine g_st (st' := [_, _]) rfl ?_
        refine g_topi (wh_all) ?_
        refine g_icmp_ne X dL_sound_356 377 (by decide) rfl (fun h356 => absurd rfl h356) (fun h356 => ?_)
        refine g_aload_n X dL_sound_359 rfl 8 rfl rfl ?_
        refine g_iload X dL_sound_360 3 rfl rfl ?_
        refine g_iconst (v := (2 : Int32)) X dL_sound_362 (by decide) rfl ?_
        refine g_callVRX (w0 := []) (n := 2) (As := [_, _]) (rest := []) X (c_X6_ofPage l D a f na w td vl L pt fl kd kp fq fs tl mk n b hW hNR _ _) gL_sound_X6_ofPage rfl (by decide +kernel) ⟨Nat.le_of_ble_eq_true rfl, Nat.le_of_ble_eq_true rfl⟩ 20 rfl rfl rfl rfl rfl (Nat.le_of_ble_eq_true rfl) dL_sound_363 ⟨Nat.le_of_ble_eq_true rfl, Nat.le_of_ble_eq_true rfl⟩ rfl (fun v hv => ?_)
        obtain rfl := hv
        refine g_st (st' := [_]) rfl ?_
        refine g_topi (oPg2 (p := pg) eN1 (by omega)) ?_
        refine g_aload_n X dL_sound_366 rfl 8 rfl rfl ?_
        refine g_iload X dL_sound_367 3 rfl rfl ?_
        refine g_iconst (v := (2 : Int32)) X dL_sound_369 (by decide) rfl ?_
        refine g_iconst (v := ((-1) : Int32)) X dL_sound_370 (by decide) rfl ?_
        refine g_callSRX (w0 := []) (n := 4) (As := [_, _, _, _]) (rest := [_]) X (c_L_who l D a f na w td vl L pt fl kd kp fq fs tl mk n b hW hNR pg (by omega) ((2 : Int32)) ((-1 : Int32)) (Or.inl rfl)) gL_sound_L_who rfl (by decide +kernel) ⟨Nat.le_of_ble_eq_true rfl, Nat.le_of_ble_eq_true rfl⟩ rfl rfl rfl (Nat.le_of_ble_eq_true rfl) dL_sound_371 ⟨Nat.le_of_ble_eq_true rfl, Nat.le_of_ble_eq_true rfl⟩ rfl (fun v hv => ?_)
        obtain rfl := hv
        refine g_st (st' := [_, _]) rfl ?_
        refine g_topi (wh_all) ?_
        refine g_icmp_eq X dL_sound_374 379 (by decide) rfl (fun h374 => ?_) (fun h374 => absurd rfl h374)
        refine g_iconst (v := (0 : Int32)) X dL_sound_379 (by decide) rfl ?_
        refine g_istore X [(10, _), (8, _), (7, _), (6, _), (5, _), (4, _), (3, _), (2, _), (0, _), (1, _)] dL_sound_380 (by decide) rfl rfl ?_
        refine g_iconst (v := (0 : Int32)) X dL_sound_382 (by decide) rfl ?_
        refine g_istore X [(11, _), (10, _), (8, _), (7, _), (6, _), (5, _), (4, _), (3, _), (2, _), (0, _), (1, _)] dL_sound_383 (by decide) rfl rfl ?_
        have L385 : ∀ (j r : Nat) (hr7 : r ≤ 7) (hj : 7 - r = j), GG p l e (wRoom 7 167 0 0) s m ([.ref (a 19), .int (v)] : List Value).toArray below meth c D A 16 true 0 0 (MQ below (roQ (fun v => v = some (.int (1)))) ([.ref (a 19), .int (v)] : List Value).toArray s 0 0 (fun _ => False)) (wB D a f na w td vl L pt fl kd kp fq fs tl) 385 [(11, .int (nI r)), (10, .int (smE f r)), (2, .int (nI mk)), (0, .ref (a 19)), (1, .int (v))] [] := by
          intro j
          induction j using Nat.strongRecOn with
          | _ j ih =>
          intro r hr7 hj
          refine g_iload X dL_sound_385 0 rfl rfl ?_
          refine g_bipush (v := (7 : Int32)) X dL_sound_387 (by decide) rfl ?_
          refine g_icmp_ge X dL_sound_389 409 (by decide) rfl (fun h389 => ?_) (fun h389 => ?_)
          · have i389 := nj_le (a := 7) (b := r) (by omega) (by omega) h389
            rw [show r = 7 from by omega]
            refine g_iload X dL_sound_409 1 rfl rfl ?_
            refine g_aload_n X dL_sound_411 rfl 3 rfl rfl ?_
            refine g_iconst (v := (4 : Int32)) X dL_sound_412 (by decide) rfl ?_
            refine g_callVRX (w0 := []) (n := 1) (As := [_]) (rest := [_]) X (c_X6_count l D a f na w td vl L pt fl kd kp fq fs tl mk n b hW hNR _) gL_sound_X6_count rfl (by decide +kernel) ⟨Nat.le_of_ble_eq_true rfl, Nat.le_of_ble_eq_true rfl⟩ 20 rfl rfl rfl rfl rfl (Nat.le_of_ble_eq_true rfl) dL_sound_413 ⟨Nat.le_of_ble_eq_true rfl, Nat.le_of_ble_eq_true rfl⟩ rfl (fun v hv => ?_)
            obtain rfl := hv
            refine g_st (st' := [_, _]) rfl ?_
            refine g_topi (oC4) ?_
            refine g_topi (hsum) ?_
            refine g_icmp_ne X dL_sound_416 446 (by decide) rfl (fun h416 => absurd rfl h416) (fun h416 => ?_)
            refine g_aload_n X dL_sound_419 rfl 3 rfl rfl ?_
            refine g_iconst (v := (5 : Int32)) X dL_sound_420 (by decide) rfl ?_
            refine g_callVRX (w0 := []) (n := 1) (As := [_]) (rest := []) X (c_X6_count l D a f na w td vl L pt fl kd kp fq fs tl mk n b hW hNR _) gL_sound_X6_count rfl (by decide +kernel) ⟨Nat.le_of_ble_eq_true rfl, Nat.le_of_ble_eq_true rfl⟩ 20 rfl rfl rfl rfl rfl (Nat.le_of_ble_eq_true rfl) dL_sound_421 ⟨Nat.le_of_ble_eq_true rfl, Nat.le_of_ble_eq_true rfl⟩ rfl (fun v hv => ?_)
            obtain rfl := hv
            refine g_st (st' := [_]) rfl ?_
            refine g_topi (oC5) ?_
            refine g_topi (h79) ?_
            refine g_aload_n X dL_sound_424 rfl 3 rfl rfl ?_
            refine g_iconst (v := (0 : Int32)) X dL_sound_425 (by decide) rfl ?_
            refine g_callVRX (w0 := []) (n := 1) (As := [_]) (rest := [_]) X (c_X6_ended l D a f na w td vl L pt fl kd kp fq fs tl mk n b hW hNR _) gL_sound_X6_ended rfl (by decide +kernel) ⟨Nat.le_of_ble_eq_true rfl, Nat.le_of_ble_eq_true rfl⟩ 20 rfl rfl rfl rfl rfl (Nat.le_of_ble_eq_true rfl) dL_sound_426 ⟨Nat.le_of_ble_eq_true rfl, Nat.le_of_ble_eq_true rfl⟩ rfl (fun v hv => ?_)
            obtain rfl := hv
            refine g_st (st' := [_, _]) rfl ?_
            refine g_topi (oEn (r := 0) (by omega)) ?_
            refine g_topi ((hee 0 (by omega))) ?_
            refine g_icmp_gt X dL_sound_429 446 (by decide) rfl (fun h429 => absurd (nj_lt (a := (ee 0)) (b := hh) (by omega) (by omega) h429) (by omega)) (fun h429 => ?_)
            have i429 := nj_nlt (a := (ee 0)) (b := hh) (by omega) (by omega) h429
            refine g_aload_n X dL_sound_432 rfl 3 rfl rfl ?_
            refine g_iconst (v := (2 : Int32)) X dL_sound_433 (by decide) rfl ?_
            refine g_callVRX (w0 := []) (n := 1) (As := [_]) (rest := []) X (c_X6_count l D a f na w td vl L pt fl kd kp fq fs tl mk n b hW hNR _) gL_sound_X6_count rfl (by decide +kernel) ⟨Nat.le_of_ble_eq_true rfl, Nat.le_of_ble_eq_true rfl⟩ 20 rfl rfl rfl rfl rfl (Nat.le_of_ble_eq_true rfl) dL_sound_434 ⟨Nat.le_of_ble_eq_true rfl, Nat.le_of_ble_eq_true rfl⟩ rfl (fun v hv => ?_)
            obtain rfl := hv
            refine g_st (st' := [_]) rfl ?_
            refine g_topi (oC2.trans hn8) ?_
            refine g_aload_n X dL_sound_437 rfl 3 rfl rfl ?_
            refine g_bipush (v := (9 : Int32)) X dL_sound_438 (by decide) rfl ?_
            refine g_callVRX (w0 := []) (n := 1) (As := [_]) (rest := [_]) X (c_X6_count l D a f na w td vl L pt fl kd kp fq fs tl mk n b hW hNR _) gL_sound_X6_count rfl (by decide +kernel) ⟨Nat.le_of_ble_eq_true rfl, Nat.le_of_ble_eq_true rfl⟩ 20 rfl rfl rfl rfl rfl (Nat.le_of_ble_eq_true rfl) dL_sound_440 ⟨Nat.le_of_ble_eq_true rfl, Nat.le_of_ble_eq_true rfl⟩ rfl (fun v hv => ?_)
            obtain rfl := hv
            refine g_st (st' := [_, _]) rfl ?_
            refine g_topi (oC9.trans hb0) ?_
            refine g_icmp_le X dL_sound_443 448 (by decide) rfl (fun h443 => ?_) (fun h443 => absurd (nj_nle (a := n) (b := b) (by omega) (by omega) h443) (by omega))
            have i443 := nj_le (a := n) (b := b) (by omega) (by omega) h443
            refine g_iconst (v := (0 : Int32)) X dL_sound_448 (by decide) rfl ?_
            refine g_istore X [(11, _), (10, _), (2, _), (0, _), (1, _)] dL_sound_449 (by decide) rfl rfl ?_
            have L451 : ∀ (j k : Nat) (hk : k ≤ n) (hj : n - k = j), GG p l e (wRoom 7 167 0 0) s m ([.ref (a 19), .int (v)] : List Value).toArray below meth c D A 16 true 0 0 (MQ below (roQ (fun v => v = some (.int (1)))) ([.ref (a 19), .int (v)] : List Value).toArray s 0 0 (fun _ => False)) (wB D a f na w td vl L pt fl kd kp fq fs tl) 451 [(11, .int (nI k)), (2, .int (nI mk)), (0, .ref (a 19)), (1, .int (v))] [] := by
              intro j
              induction j using Nat.strongRecOn with
              | _ j ih =>
              intro k hk hj
              refine g_iload X dL_sound_451 0 rfl rfl ?_
              refine g_aload_n X dL_sound_453 rfl 2 rfl rfl ?_
              refine g_iconst (v := (2 : Int32)) X dL_sound_454 (by decide) rfl ?_
              refine g_callVRX (w0 := []) (n := 1) (As := [_]) (rest := [_]) X (c_X6_count l D a f na w td vl L pt fl kd kp fq fs tl mk n b hW hNR _) gL_sound_X6_count rfl (by decide +kernel) ⟨Nat.le_of_ble_eq_true rfl, Nat.le_of_ble_eq_true rfl⟩ 20 rfl rfl rfl rfl rfl (Nat.le_of_ble_eq_true rfl) dL_sound_455 ⟨Nat.le_of_ble_eq_true rfl, Nat.le_of_ble_eq_true rfl⟩ rfl (fun v hv => ?_)
              obtain rfl := hv
              refine g_st (st' := [_, _]) rfl ?_
              refine g_topi (oC2.trans hn8) ?_
              refine g_icmp_ge X dL_sound_458 611 (by decide) rfl (fun h458 => ?_) (fun h458 => ?_)
              · have i458 := nj_le (a := n) (b := k) (by omega) (by omega) h458
                rw [show k = n from by omega]
                refine g_aload_n X dL_sound_611 rfl 2 rfl rfl ?_
                refine g_aload_n X dL_sound_612 rfl 2 rfl rfl ?_
                refine g_iconst (v := (2 : Int32)) X dL_sound_613 (by decide) rfl ?_
                refine g_callVRX (w0 := []) (n := 1) (As := [_]) (rest := [_]) X (c_X6_count l D a f na w td vl L pt fl kd kp fq fs tl mk n b hW hNR _) gL_sound_X6_count rfl (by decide +kernel) ⟨Nat.le_of_ble_eq_true rfl, Nat.le_of_ble_eq_true rfl⟩ 20 rfl rfl rfl rfl rfl (Nat.le_of_ble_eq_true rfl) dL_sound_614 ⟨Nat.le_of_ble_eq_true rfl, Nat.le_of_ble_eq_true rfl⟩ rfl (fun v hv => ?_)
                obtain rfl := hv
                refine g_st (st' := [_, _]) rfl ?_
                refine g_topi (oC2.trans hn8) ?_
                refine g_iconst (v := (0 : Int32)) X dL_sound_617 (by decide) rfl ?_
                refine g_callVRX (w0 := []) (n := 2) (As := [_, _]) (rest := []) X (c_X6_note l D a f na w td vl L pt fl kd kp fq fs tl mk n b hW hNR _ _) gL_sound_X6_note rfl (by decide +kernel) ⟨Nat.le_of_ble_eq_true rfl, Nat.le_of_ble_eq_true rfl⟩ 20 rfl rfl rfl rfl rfl (Nat.le_of_ble_eq_true rfl) dL_sound_618 ⟨Nat.le_of_ble_eq_true rfl, Nat.le_of_ble_eq_true rfl⟩ rfl (fun v hv => ?_)
                obtain rfl := hv
                refine g_st (st' := [_]) rfl ?_
                refine g_topi (oNtx eN2 (rng_no (by omega) (by omega))) ?_
                refine g_iconst (v := ((-1) : Int32)) X dL_sound_621 (by decide) rfl ?_
                refine g_icmp_ne X dL_sound_622 639 (by decide) rfl (fun h622 => absurd h622 (by decide)) (fun h622 => ?_)
                refine g_aload_n X dL_sound_625 rfl 2 rfl rfl ?_
                refine g_iload_n X dL_sound_626 rfl 1 rfl rfl ?_
                refine g_iconst (v := (0 : Int32)) X dL_sound_627 (by decide) rfl ?_
                refine g_callVRX (w0 := []) (n := 2) (As := [_, _]) (rest := []) X (c_X6_ofStamp l D a f na w td vl L pt fl kd kp fq fs tl mk n b hW hNR _ _) gL_sound_X6_ofStamp rfl (by decide +kernel) ⟨Nat.le_of_ble_eq_true rfl, Nat.le_of_ble_eq_true rfl⟩ 20 rfl rfl rfl rfl rfl (Nat.le_of_ble_eq_true rfl) dL_sound_628 ⟨Nat.le_of_ble_eq_true rfl, Nat.le_of_ble_eq_true rfl⟩ rfl (fun v hv => ?_)
                obtain rfl := hv
                refine g_st (st' := [_]) rfl ?_
                refine g_topi (oStx eN1 (rng_no (by omega) (by omega))) ?_
                refine g_iconst (v := ((-1) : Int32)) X dL_sound_631 (by decide) rfl ?_
                refine g_icmp_ne X dL_sound_632 639 (by decide) rfl (fun h632 => absurd h632 (by decide)) (fun h632 => ?_)
                refine g_iconst (v := (1 : Int32)) X dL_sound_635 (by decide) rfl ?_
                refine g_goto X dL_sound_636 640 (by decide) ?_
                refine g_retR X hr (by first | rfl | exact b2i_nar _) dL_sound_640 ?_
                rfl
              · have i458 := nj_nle (a := n) (b := k) (by omega) (by omega) h458
                refine g_aload_n X dL_sound_461 rfl 2 rfl rfl ?_
                refine g_aload_n X dL_sound_462 rfl 2 rfl rfl ?_
                refine g_iload X dL_sound_463 0 rfl rfl ?_
                refine g_iconst (v := (0 : Int32)) X dL_sound_465 (by decide) rfl ?_
                refine g_callVRX (w0 := []) (n := 2) (As := [_, _]) (rest := [_]) X (c_X6_note l D a f na w td vl L pt fl kd kp fq fs tl mk n b hW hNR _ _) gL_sound_X6_note rfl (by decide +kernel) ⟨Nat.le_of_ble_eq_true rfl, Nat.le_of_ble_eq_true rfl⟩ 20 rfl rfl rfl rfl rfl (Nat.le_of_ble_eq_true rfl) dL_sound_466 ⟨Nat.le_of_ble_eq_true rfl, Nat.le_of_ble_eq_true rfl⟩ rfl (fun v hv => ?_)
                obtain rfl := hv
                refine g_st (st' := [_, _]) rfl ?_
                refine g_topi (oNt (k := k) 0 eN2 (by omega) hm8 rfl (by decide)) ?_
                obtain ⟨g, d, e9, t, hg, hd, he, ht, en0, en1, en2, el, en3, eh, eg, er⟩ := hNt.ok eN2 i458
                rw [eN1] at ht
                refine g_topi (en0) ?_
                refine g_aload_n X dL_sound_469 rfl 2 rfl rfl ?_
                refine g_iload X dL_sound_470 0 rfl rfl ?_
                refine g_iconst (v := (1 : Int32)) X dL_sound_472 (by decide) rfl ?_
                refine g_callVRX (w0 := []) (n := 2) (As := [_, _]) (rest := [_, _]) X (c_X6_note l D a f na w td vl L pt fl kd kp fq fs tl mk n b hW hNR _ _) gL_sound_X6_note rfl (by decide +kernel) ⟨Nat.le_of_ble_eq_true rfl, Nat.le_of_ble_eq_true rfl⟩ 20 rfl rfl rfl rfl rfl (Nat.le_of_ble_eq_true rfl) dL_sound_473 ⟨Nat.le_of_ble_eq_true rfl, Nat.le_of_ble_eq_true rfl⟩ rfl (fun v hv => ?_)
                obtain rfl := hv
                refine g_st (st' := [_, _, _]) rfl ?_
                refine g_topi (oNt (k := k) 1 eN2 (by omega) hm8 rfl (by decide)) ?_
                refine g_topi (en1) ?_
                refine g_callVRX (w0 := []) (n := 2) (As := [_, _]) (rest := []) X (c_X6_leads l D a f na w td vl L pt fl kd kp fq fs tl mk n b hW hNR _ _) gL_sound_X6_leads rfl (by decide +kernel) ⟨Nat.le_of_ble_eq_true rfl, Nat.le_of_ble_eq_true rfl⟩ 20 rfl rfl rfl rfl rfl (Nat.le_of_ble_eq_true rfl) dL_sound_476 ⟨Nat.le_of_ble_eq_true rfl, Nat.le_of_ble_eq_true rfl⟩ rfl (fun v hv => ?_)
                obtain rfl := hv
                refine g_st (st' := [_]) rfl ?_
                refine g_topi (oLd (g := g) (d := d) (by omega) (by omega)) ?_
                refine g_topi (el) ?_
                refine g_istore X [(12, _), (11, _), (2, _), (0, _), (1, _)] dL_sound_479 (by decide) rfl rfl ?_
                refine g_iload X dL_sound_481 0 rfl rfl ?_
                refine g_if_lt X dL_sound_483 534 (by decide) rfl (fun h483 => absurd h483 (nI_pos (by omega))) (fun h483 => ?_)
                have i483 := nj_nlt (a := t) (b := 0) (by omega) (by omega) h483
                refine g_aload_n X dL_sound_486 rfl 3 rfl rfl ?_
                refine g_iload X dL_sound_487 0 rfl rfl ?_
                refine g_iconst (v := (0 : Int32)) X dL_sound_489 (by decide) rfl ?_
                refine g_callVRX (w0 := []) (n := 2) (As := [_, _]) (rest := []) X (c_X6_ofStamp l D a f na w td vl L pt fl kd kp fq fs tl mk n b hW hNR _ _) gL_sound_X6_ofStamp rfl (by decide +kernel) ⟨Nat.le_of_ble_eq_true rfl, Nat.le_of_ble_eq_true rfl⟩ 20 rfl rfl rfl rfl rfl (Nat.le_of_ble_eq_true rfl) dL_sound_490 ⟨Nat.le_of_ble_eq_true rfl, Nat.le_of_ble_eq_true rfl⟩ rfl (fun v hv => ?_)
                obtain rfl := hv
                refine g_st (st' := [_]) rfl ?_
                refine g_topi (oSt (q := t) 0 eN1 (by omega) hm40 rfl (by decide)) ?_
                refine g_aload_n X dL_sound_493 rfl 3 rfl rfl ?_
                refine g_iload X dL_sound_494 1 rfl rfl ?_
                refine g_iconst (v := (3 : Int32)) X dL_sound_496 (by decide) rfl ?_
                refine g_callVRX (w0 := []) (n := 2) (As := [_, _]) (rest := [_]) X (c_X6_note l D a f na w td vl L pt fl kd kp fq fs tl mk n b hW hNR _ _) gL_sound_X6_note rfl (by decide +kernel) ⟨Nat.le_of_ble_eq_true rfl, Nat.le_of_ble_eq_true rfl⟩ 20 rfl rfl rfl rfl rfl (Nat.le_of_ble_eq_true rfl) dL_sound_497 ⟨Nat.le_of_ble_eq_true rfl, Nat.le_of_ble_eq_true rfl⟩ rfl (fun v hv => ?_)
                obtain rfl := hv
                refine g_st (st' := [_, _]) rfl ?_
                refine g_topi (oNt (k := k) 3 eN2 (by omega) hm8 rfl (by decide)) ?_
                refine g_topi (en3) ?_
                refine g_icmp_ne X dL_sound_500 534 (by decide) rfl (fun h500 => absurd rfl h500) (fun h500 => ?_)
                refine g_aload_n X dL_sound_503 rfl 3 rfl rfl ?_
                refine g_aload_n X dL_sound_504 rfl 3 rfl rfl ?_
                refine g_iload X dL_sound_505 1 rfl rfl ?_
                refine g_iconst (v := (0 : Int32)) X dL_sound_507 (by decide) rfl ?_
                refine g_callVRX (w0 := []) (n := 2) (As := [_, _]) (rest := [_]) X (c_X6_note l D a f na w td vl L pt fl kd kp fq fs tl mk n b hW hNR _ _) gL_sound_X6_note rfl (by decide +kernel) ⟨Nat.le_of_ble_eq_true rfl, Nat.le_of_ble_eq_true rfl⟩ 20 rfl rfl rfl rfl rfl (Nat.le_of_ble_eq_true rfl) dL_sound_508 ⟨Nat.le_of_ble_eq_true rfl, Nat.le_of_ble_eq_true rfl⟩ rfl (fun v hv => ?_)
                obtain rfl := hv
                refine g_st (st' := [_, _]) rfl ?_
                refine g_topi (oNt (k := k) 0 eN2 (by omega) hm8 rfl (by decide)) ?_
                refine g_topi (en0) ?_
                refine g_aload_n X dL_sound_511 rfl 3 rfl rfl ?_
                refine g_iload X dL_sound_512 1 rfl rfl ?_
                refine g_iconst (v := (1 : Int32)) X dL_sound_514 (by decide) rfl ?_
                refine g_callVRX (w0 := []) (n := 2) (As := [_, _]) (rest := [_, _]) X (c_X6_note l D a f na w td vl L pt fl kd kp fq fs tl mk n b hW hNR _ _) gL_sound_X6_note rfl (by decide +kernel) ⟨Nat.le_of_ble_eq_true rfl, Nat.le_of_ble_eq_true rfl⟩ 20 rfl rfl rfl rfl rfl (Nat.le_of_ble_eq_true rfl) dL_sound_515 ⟨Nat.le_of_ble_eq_true rfl, Nat.le_of_ble_eq_true rfl⟩ rfl (fun v hv => ?_)
                obtain rfl := hv
                refine g_st (st' := [_, _, _]) rfl ?_
                refine g_topi (oNt (k := k) 1 eN2 (by omega) hm8 rfl (by decide)) ?_
                refine g_topi (en1) ?_
                refine g_aload_n X dL_sound_518 rfl 3 rfl rfl ?_
                refine g_iload X dL_sound_519 1 rfl rfl ?_
                refine g_iconst (v := (2 : Int32)) X dL_sound_521 (by decide) rfl ?_
                refine g_callVRX (w0 := []) (n := 2) (As := [_, _]) (rest := [_, _, _]) X (c_X6_note l D a f na w td vl L pt fl kd kp fq fs tl mk n b hW hNR _ _) gL_sound_X6_note rfl (by decide +kernel) ⟨Nat.le_of_ble_eq_true rfl, Nat.le_of_ble_eq_true rfl⟩ 20 rfl rfl rfl rfl rfl (Nat.le_of_ble_eq_true rfl) dL_sound_522 ⟨Nat.le_of_ble_eq_true rfl, Nat.le_of_ble_eq_true rfl⟩ rfl (fun v hv => ?_)
                obtain rfl := hv
                refine g_st (st' := [_, _, _, _]) rfl ?_
                refine g_topi (oNt (k := k) 2 eN2 (by omega) hm8 rfl (by decide)) ?_
                refine g_topi (en2) ?_
                refine g_callSRX (w0 := []) (n := 4) (As := [_, _, _, _]) (rest := []) X (c_L_walk l D a f na w td vl L pt fl kd kp fq fs tl mk n b hW hNR g d (by omega) (by omega) (nI e9)) gL_sound_L_walk rfl (by decide +kernel) ⟨Nat.le_of_ble_eq_true rfl, Nat.le_of_ble_eq_true rfl⟩ rfl rfl rfl (Nat.le_of_ble_eq_true rfl) dL_sound_525 ⟨Nat.le_of_ble_eq_true rfl, Nat.le_of_ble_eq_true rfl⟩ rfl (fun v hv => ?_)
                obtain rfl := hv
                refine g_st (st' := [_]) rfl ?_
                obtain ⟨iw, hiw, eiw⟩ := lwk_good (wlk_good (nd := nI e9) hst hm40 ht el eh eg er)
                refine g_topi (eiw) ?_
                refine g_bipush (v := (10 : Int32)) X dL_sound_528 (by decide) rfl ?_
                refine g_irem X dL_sound_530 (by decide) rfl ?_
                refine g_topi (y := nI ((10 * iw) % 10)) (nI_rem (a := (10 * iw)) (b := 10) (by omega) (by omega)) ?_
                refine g_topi ((show nI (10 * iw % 10) = 0 from by rw [show 10 * iw % 10 = 0 from by omega]; rfl)) ?_
                refine g_if_eq X dL_sound_531 536 (by decide) rfl (fun h531 => ?_) (fun h531 => absurd h531 (by decide))
                refine g_iconst (v := (0 : Int32)) X dL_sound_536 (by decide) rfl ?_
                refine g_istore X [(13, _), (12, _), (11, _), (2, _), (0, _), (1, _)] dL_sound_537 (by decide) rfl rfl ?_
                have L539 : ∀ (jq q : Nat) (hq : q ≤ k) (hjq : k - q = jq), GG p l e (wRoom 7 167 0 0) s m ([.ref (a 19), .int (v)] : List Value).toArray below meth c D A 16 true 0 0 (MQ below (roQ (fun v => v = some (.int (1)))) ([.ref (a 19), .int (v)] : List Value).toArray s 0 0 (fun _ => False)) (wB D a f na w td vl L pt fl kd kp fq fs tl) 539 [(13, .int (nI q)), (11, .int (nI k)), (2, .int (nI mk)), (0, .ref (a 19)), (1, .int (v))] [] := by
                  intro jq
                  induction jq using Nat.strongRecOn with
                  | _ jq ihq =>
                  intro q hq hjq
                  refine g_iload X dL_sound_539 0 rfl rfl ?_
                  refine g_iload X dL_sound_541 1 rfl rfl ?_
                  refine g_icmp_ge X dL_sound_543 605 (by decide) rfl (fun h543 => ?_) (fun h543 => ?_)
                  · have i543 := nj_le (a := k) (b := q) (by omega) (by omega) h543
                    refine g_iinc (v := nI (k + 1)) X [(11, _), (13, _), (2, _), (0, _), (1, _)] dL_sound_605 1 rfl (nI_add k 1) (by decide) rfl rfl ?_
                    refine g_goto X dL_sound_608 451 (by decide) ?_
                    refine g_lv [0, 2, 3, 4] [(11, _), (2, _), (0, _), (1, _)] rfl ?_
                    exact ih (n - (k + 1)) (by omega) (k + 1) (by omega) rfl
                  · have i543 := nj_nle (a := k) (b := q) (by omega) (by omega) h543
                    refine g_aload_n X dL_sound_546 rfl 3 rfl rfl ?_
                    refine g_iload X dL_sound_547 0 rfl rfl ?_
                    refine g_iconst (v := (0 : Int32)) X dL_sound_549 (by decide) rfl ?_
                    refine g_callVRX (w0 := []) (n := 2) (As := [_, _]) (rest := []) X (c_X6_note l D a f na w td vl L pt fl kd kp fq fs tl mk n b hW hNR _ _) gL_sound_X6_note rfl (by decide +kernel) ⟨Nat.le_of_ble_eq_true rfl, Nat.le_of_ble_eq_true rfl⟩ 20 rfl rfl rfl rfl rfl (Nat.le_of_ble_eq_true rfl) dL_sound_550 ⟨Nat.le_of_ble_eq_true rfl, Nat.le_of_ble_eq_true rfl⟩ rfl (fun v hv => ?_)
                    obtain rfl := hv
                    refine g_st (st' := [_]) rfl ?_
                    refine g_topi (oNt (k := q) 0 eN2 (by omega) hm8 rfl (by decide)) ?_
                    refine g_aload_n X dL_sound_553 rfl 3 rfl rfl ?_
                    refine g_iload X dL_sound_554 1 rfl rfl ?_
                    refine g_iconst (v := (0 : Int32)) X dL_sound_556 (by decide) rfl ?_
                    refine g_callVRX (w0 := []) (n := 2) (As := [_, _]) (rest := [_]) X (c_X6_note l D a f na w td vl L pt fl kd kp fq fs tl mk n b hW hNR _ _) gL_sound_X6_note rfl (by decide +kernel) ⟨Nat.le_of_ble_eq_true rfl, Nat.le_of_ble_eq_true rfl⟩ 20 rfl rfl rfl rfl rfl (Nat.le_of_ble_eq_true rfl) dL_sound_557 ⟨Nat.le_of_ble_eq_true rfl, Nat.le_of_ble_eq_true rfl⟩ rfl (fun v hv => ?_)
                    obtain rfl := hv
                    refine g_st (st' := [_, _]) rfl ?_
                    refine g_topi (oNt (k := k) 0 eN2 (by omega) hm8 rfl (by decide)) ?_
                    refine g_icmp_ne X dL_sound_560 599 (by decide) rfl (fun h560 => ?_) (fun h560 => ?_)
                    · refine g_iinc (v := nI (q + 1)) X [(13, _), (11, _), (2, _), (0, _), (1, _)] dL_sound_599 0 rfl (nI_add q 1) (by decide) rfl rfl ?_
                      refine g_goto X dL_sound_602 539 (by decide) ?_
                      exact ihq (k - (q + 1)) (by omega) (q + 1) (by omega) rfl
                    · refine g_aload_n X dL_sound_563 rfl 3 rfl rfl ?_
                      refine g_iload X dL_sound_564 0 rfl rfl ?_
                      refine g_iconst (v := (1 : Int32)) X dL_sound_566 (by decide) rfl ?_
                      refine g_callVRX (w0 := []) (n := 2) (As := [_, _]) (rest := []) X (c_X6_note l D a f na w td vl L pt fl kd kp fq fs tl mk n b hW hNR _ _) gL_sound_X6_note rfl (by decide +kernel) ⟨Nat.le_of_ble_eq_true rfl, Nat.le_of_ble_eq_true rfl⟩ 20 rfl rfl rfl rfl rfl (Nat.le_of_ble_eq_true rfl) dL_sound_567 ⟨Nat.le_of_ble_eq_true rfl, Nat.le_of_ble_eq_true rfl⟩ rfl (fun v hv => ?_)
                      obtain rfl := hv
                      refine g_st (st' := [_]) rfl ?_
                      refine g_topi (oNt (k := q) 1 eN2 (by omega) hm8 rfl (by decide)) ?_
                      refine g_aload_n X dL_sound_570 rfl 3 rfl rfl ?_
                      refine g_iload X dL_sound_571 1 rfl rfl ?_
                      refine g_iconst (v := (1 : Int32)) X dL_sound_573 (by decide) rfl ?_
                      refine g_callVRX (w0 := []) (n := 2) (As := [_, _]) (rest := [_]) X (c_X6_note l D a f na w td vl L pt fl kd kp fq fs tl mk n b hW hNR _ _) gL_sound_X6_note rfl (by decide +kernel) ⟨Nat.le_of_ble_eq_true rfl, Nat.le_of_ble_eq_true rfl⟩ 20 rfl rfl rfl rfl rfl (Nat.le_of_ble_eq_true rfl) dL_sound_574 ⟨Nat.le_of_ble_eq_true rfl, Nat.le_of_ble_eq_true rfl⟩ rfl (fun v hv => ?_)
                      obtain rfl := hv
                      refine g_st (st' := [_, _]) rfl ?_
                      refine g_topi (oNt (k := k) 1 eN2 (by omega) hm8 rfl (by decide)) ?_
                      refine g_icmp_ne X dL_sound_577 599 (by decide) rfl (fun h577 => ?_) (fun h577 => ?_)
                      · refine g_iinc (v := nI (q + 1)) X [(13, _), (11, _), (2, _), (0, _), (1, _)] dL_sound_599 0 rfl (nI_add q 1) (by decide) rfl rfl ?_
                        refine g_goto X dL_sound_602 539 (by decide) ?_
                        exact ihq (k - (q + 1)) (by omega) (q + 1) (by omega) rfl
                      · refine g_aload_n X dL_sound_580 rfl 3 rfl rfl ?_
                        refine g_iload X dL_sound_581 0 rfl rfl ?_
                        refine g_iconst (v := (2 : Int32)) X dL_sound_583 (by decide) rfl ?_
                        refine g_callVRX (w0 := []) (n := 2) (As := [_, _]) (rest := []) X (c_X6_note l D a f na w td vl L pt fl kd kp fq fs tl mk n b hW hNR _ _) gL_sound_X6_note rfl (by decide +kernel) ⟨Nat.le_of_ble_eq_true rfl, Nat.le_of_ble_eq_true rfl⟩ 20 rfl rfl rfl rfl rfl (Nat.le_of_ble_eq_true rfl) dL_sound_584 ⟨Nat.le_of_ble_eq_true rfl, Nat.le_of_ble_eq_true rfl⟩ rfl (fun v hv => ?_)
                        obtain rfl := hv
                        refine g_st (st' := [_]) rfl ?_
                        refine g_topi (oNt (k := q) 2 eN2 (by omega) hm8 rfl (by decide)) ?_
                        refine g_aload_n X dL_sound_587 rfl 3 rfl rfl ?_
                        refine g_iload X dL_sound_588 1 rfl rfl ?_
                        refine g_iconst (v := (2 : Int32)) X dL_sound_590 (by decide) rfl ?_
                        refine g_callVRX (w0 := []) (n := 2) (As := [_, _]) (rest := [_]) X (c_X6_note l D a f na w td vl L pt fl kd kp fq fs tl mk n b hW hNR _ _) gL_sound_X6_note rfl (by decide +kernel) ⟨Nat.le_of_ble_eq_true rfl, Nat.le_of_ble_eq_true rfl⟩ 20 rfl rfl rfl rfl rfl (Nat.le_of_ble_eq_true rfl) dL_sound_591 ⟨Nat.le_of_ble_eq_true rfl, Nat.le_of_ble_eq_true rfl⟩ rfl (fun v hv => ?_)
                        obtain rfl := hv
                        refine g_st (st' := [_, _]) rfl ?_
                        refine g_topi (oNt (k := k) 2 eN2 (by omega) hm8 rfl (by decide)) ?_
                        refine g_icmp_ne X dL_sound_594 599 (by decide) rfl (fun h594 => ?_) (fun h594 => ?_)
                        · refine g_iinc (v := nI (q + 1)) X [(13, _), (11, _), (2, _), (0, _), (1, _)] dL_sound_599 0 rfl (nI_add q 1) (by decide) rfl rfl ?_
                          refine g_goto X dL_sound_602 539 (by decide) ?_
                          exact ihq (k - (q + 1)) (by omega) (q + 1) (by omega) rfl
                        · refine g_iconst (v := (0 : Int32)) X dL_sound_597 (by decide) rfl ?_
                          refine g_retR X hr (by first | rfl | exact b2i_nar _) dL_sound_598 ?_
                          exact absurd ⟨h560, h577, h594⟩ (hND q k (by omega) i458)
                refine g_lv [0, 2, 3, 4, 5] [(13, _), (11, _), (2, _), (0, _), (1, _)] rfl ?_
                exact L539 k 0 (by omega) rfl
            refine g_lv [0, 2, 3, 4] [(11, _), (2, _), (0, _), (1, _)] rfl ?_
            exact L451 n 0 (by omega) rfl
          · have i389 := nj_nle (a := 7) (b := r) (by omega) (by omega) h389
            refine g_iload X dL_sound_392 1 rfl rfl ?_
            refine g_aload_n X dL_sound_394 rfl 3 rfl rfl ?_
            refine g_iload X dL_sound_395 0 rfl rfl ?_
            refine g_callVRX (w0 := []) (n := 1) (As := [_]) (rest := [_]) X (c_X6_ended l D a f na w td vl L pt fl kd kp fq fs tl mk n b hW hNR _) gL_sound_X6_ended rfl (by decide +kernel) ⟨Nat.le_of_ble_eq_true rfl, Nat.le_of_ble_eq_true rfl⟩ 20 rfl rfl rfl rfl rfl (Nat.le_of_ble_eq_true rfl) dL_sound_397 ⟨Nat.le_of_ble_eq_true rfl, Nat.le_of_ble_eq_true rfl⟩ rfl (fun v hv => ?_)
            obtain rfl := hv
            refine g_st (st' := [_, _]) rfl ?_
            refine g_topi (oEn (r := r) (by omega)) ?_
            refine g_iadd X dL_sound_400 rfl ?_
            refine g_istore X [(10, _), (11, _), (2, _), (0, _), (1, _)] dL_sound_401 (by decide) rfl rfl ?_
            refine g_iinc (v := nI (r + 1)) X [(11, _), (10, _), (2, _), (0, _), (1, _)] dL_sound_403 1 rfl (nI_add r 1) (by decide) rfl rfl ?_
            refine g_goto X dL_sound_406 385 (by decide) ?_
            exact ih (7 - (r + 1)) (by omega) (r + 1) (by omega) rfl
        refine g_lv [0, 1, 8, 9, 10] [(11, _), (10, _), (2, _), (0, _), (1, _)] rfl ?_
        exact L385 7 0 (by omega) rfl
      · have i55 := nj_nle (a := mk) (b := i) (by omega) (by omega) h55
        refine g_aload_n X dL_sound_58 rfl 8 rfl rfl ?_
        refine g_iload X dL_sound_59 0 rfl rfl ?_
        refine g_callSRX (w0 := []) (n := 2) (As := [_, _]) (rest := []) X (c_L_good l D a f na w td vl L pt fl kd kp fq fs tl mk n b hW hNR i (by omega)) gL_sound_L_good rfl (by decide +kernel) ⟨Nat.le_of_ble_eq_true rfl, Nat.le_of_ble_eq_true rfl⟩ rfl rfl rfl (Nat.le_of_ble_eq_true rfl) dL_sound_61 ⟨Nat.le_of_ble_eq_true rfl, Nat.le_of_ble_eq_true rfl⟩ rfl (fun v hv => ?_)
        obtain rfl := hv
        refine g_st (st' := [_]) rfl ?_
        refine g_istore X [(11, _), (10, _), (8, _), (7, _), (6, _), (5, _), (4, _), (3, _), (2, _), (0, _), (1, _)] dL_sound_64 (by decide) rfl rfl ?_
        refine g_iconst (v := (0 : Int32)) X dL_sound_66 (by decide) rfl ?_
        refine g_istore X [(12, _), (11, _), (10, _), (8, _), (7, _), (6, _), (5, _), (4, _), (3, _), (2, _), (0, _), (1, _)] dL_sound_67 (by decide) rfl rfl ?_
        refine g_iload X dL_sound_69 2 rfl rfl ?_
        refine g_istore X [(13, _), (12, _), (11, _), (10, _), (8, _), (7, _), (6, _), (5, _), (4, _), (3, _), (2, _), (0, _), (1, _)] dL_sound_71 (by decide) rfl rfl ?_
        have L73 : ∀ (k c9 : Nat) (y : Int32) (hy : y = -6 ∨ ∃ r : Nat, r < k ∧ r < mk ∧ y = nI r) (hR : chI f (k + 1) y c9 = chN f (nI i)), GG p l e (wRoom 7 167 0 0) s m ([.ref (a 19), .int (v)] : List Value).toArray below meth c D A 16 true 0 0 (MQ below (roQ (fun v => v = some (.int (1)))) ([.ref (a 19), .int (v)] : List Value).toArray s 0 0 (fun _ => False)) (wB D a f na w td vl L pt fl kd kp fq fs tl) 73 [(13, .int (y)), (12, .int (nI c9)), (11, .int (b2i (gd f i))), (10, .int (nI i)), (8, .long (lN (mskN (fun s => decide (ofM f s 0 = nI pg) && (gd f s && decide (hidM f s mk = 0))) i))), (7, .int (nI (cnI (fun s => gd f s && decide (ofM f s 0 = nI pg)) i))), (6, .int (nI pg)), (5, .int (nI (lgL f i))), (4, .int (lgI f i)), (3, .int (nI (cnI (gd f) i))), (2, .int (nI mk)), (0, .ref (a 19)), (1, .int (v))] [] := by
          intro k
          induction k using Nat.strongRecOn with
          | _ k ihc =>
          intro c9 y hy hR
          rcases hy with rfl | ⟨r, hrk, hrm, rfl⟩
          · have hc9 : c9 = chN f (nI i) := by rw [← hR, chI, if_pos neg6]
            refine g_iload X dL_sound_73 0 rfl rfl ?_
            refine g_if_lt X dL_sound_75 93 (by decide) rfl (fun h75 => ?_) (fun h75 => absurd h75 (by decide))
            refine g_lve [(13, .int (-6)), (12, .int (nI (chN f (nI i)))), (11, .int (b2i (gd f i))), (10, .int (nI i)), (8, .long (lN (mskN (fun s => decide (ofM f s 0 = nI pg) && (gd f s && decide (hidM f s mk = 0))) i))), (7, .int (nI (cnI (fun s => gd f s && decide (ofM f s 0 = nI pg)) i))), (6, .int (nI pg)), (5, .int (nI (lgL f i))), (4, .int (lgI f i)), (3, .int (nI (cnI (gd f) i))), (2, .int (nI mk)), (0, .ref (a 19)), (1, .int (v))] (by rw [hc9]) ?_
            refine g_iconst (v := (0 : Int32)) X dL_sound_93 (by decide) rfl ?_
            refine g_istore X [(13, _), (12, _), (11, _), (10, _), (8, _), (7, _), (6, _), (5, _), (4, _), (3, _), (2, _), (0, _), (1, _)] dL_sound_94 (by decide) rfl rfl ?_
            refine g_iload X dL_sound_96 3 rfl rfl ?_
            refine g_iconst (v := (1 : Int32)) X dL_sound_98 (by decide) rfl ?_
            refine g_iadd X dL_sound_99 rfl ?_
            refine g_topi (y := nI (i + 1)) (nI_add i 1) ?_
            refine g_istore X [(14, _), (13, _), (12, _), (11, _), (10, _), (8, _), (7, _), (6, _), (5, _), (4, _), (3, _), (2, _), (0, _), (1, _)] dL_sound_100 (by decide) rfl rfl ?_
            have L102 : ∀ (ju u : Nat) (hiu : i < u) (hu : u ≤ mk) (hju : mk - u = ju), GG p l e (wRoom 7 167 0 0) s m ([.ref (a 19), .int (v)] : List Value).toArray below meth c D A 16 true 0 0 (MQ below (roQ (fun v => v = some (.int (1)))) ([.ref (a 19), .int (v)] : List Value).toArray s 0 0 (fun _ => False)) (wB D a f na w td vl L pt fl kd kp fq fs tl) 102 [(14, .int (nI u)), (13, .int (nI (cnI (fun s => decide (i < s) && isIC f i s) u))), (12, .int (nI (chN f (nI i)))), (11, .int (b2i (gd f i))), (10, .int (nI i)), (8, .long (lN (mskN (fun s => decide (ofM f s 0 = nI pg) && (gd f s && decide (hidM f s mk = 0))) i))), (7, .int (nI (cnI (fun s => gd f s && decide (ofM f s 0 = nI pg)) i))), (6, .int (nI pg)), (5, .int (nI (lgL f i))), (4, .int (lgI f i)), (3, .int (nI (cnI (gd f) i))), (2, .int (nI mk)), (0, .ref (a 19)), (1, .int (v))] [] := by
              intro ju
              induction ju using Nat.strongRecOn with
              | _ ju ihu =>
              intro u hiu hu hju
              refine g_iload X dL_sound_102 0 rfl rfl ?_
              refine g_iload_n X dL_sound_104 rfl 11 rfl rfl ?_
              refine g_icmp_ge X dL_sound_105 147 (by decide) rfl (fun h105 => ?_) (fun h105 => ?_)
              · have i105 := nj_le (a := mk) (b := u) (by omega) (by omega) h105
                rw [show u = mk from by omega]
                refine g_lve [(14, .int (nI mk)), (13, .int (nI (bhN f i mk))), (12, .int (nI (chN f (nI i)))), (11, .int (b2i (gd f i))), (10, .int (nI i)), (8, .long (lN (mskN (fun s => decide (ofM f s 0 = nI pg) && (gd f s && decide (hidM f s mk = 0))) i))), (7, .int (nI (cnI (fun s => gd f s && decide (ofM f s 0 = nI pg)) i))), (6, .int (nI pg)), (5, .int (nI (lgL f i))), (4, .int (lgI f i)), (3, .int (nI (cnI (gd f) i))), (2, .int (nI mk)), (0, .ref (a 19)), (1, .int (v))] (rfl) ?_
                refine g_aload_n X dL_sound_147 rfl 12 rfl rfl ?_
                refine g_iload X dL_sound_148 4 rfl rfl ?_
                refine g_bipush (v := (7 : Int32)) X dL_sound_150 (by decide) rfl ?_
                refine g_callVRX (w0 := []) (n := 2) (As := [_, _]) (rest := []) X (c_X6_ofStamp l D a f na w td vl L pt fl kd kp fq fs tl mk n b hW hNR _ _) gL_sound_X6_ofStamp rfl (by decide +kernel) ⟨Nat.le_of_ble_eq_true rfl, Nat.le_of_ble_eq_true rfl⟩ 20 rfl rfl rfl rfl rfl (Nat.le_of_ble_eq_true rfl) dL_sound_152 ⟨Nat.le_of_ble_eq_true rfl, Nat.le_of_ble_eq_true rfl⟩ rfl (fun v hv => ?_)
                obtain rfl := hv
                refine g_st (st' := [_]) rfl ?_
                refine g_topi (oSt7 (q := i) eN1 (by omega) hm40) ?_
                refine g_iload X dL_sound_155 3 rfl rfl ?_
                refine g_if_eq X dL_sound_157 164 (by decide) rfl (fun h157 => ?_) (fun h157 => ?_)
                · replace h157 := b2i_0 h157
                  refine g_iconst (v := (0 : Int32)) X dL_sound_164 (by decide) rfl ?_
                  refine g_icmp_ne X dL_sound_165 194 (by decide) rfl (fun h165 => absurd (by rw [h157]; rfl) h165) (fun h165 => ?_)
                  replace h165 := b2i_0 h165
                  refine g_aload_n X dL_sound_168 rfl 12 rfl rfl ?_
                  refine g_iload X dL_sound_169 4 rfl rfl ?_
                  refine g_bipush (v := (8 : Int32)) X dL_sound_171 (by decide) rfl ?_
                  refine g_callVRX (w0 := []) (n := 2) (As := [_, _]) (rest := []) X (c_X6_ofStamp l D a f na w td vl L pt fl kd kp fq fs tl mk n b hW hNR _ _) gL_sound_X6_ofStamp rfl (by decide +kernel) ⟨Nat.le_of_ble_eq_true rfl, Nat.le_of_ble_eq_true rfl⟩ 20 rfl rfl rfl rfl rfl (Nat.le_of_ble_eq_true rfl) dL_sound_173 ⟨Nat.le_of_ble_eq_true rfl, Nat.le_of_ble_eq_true rfl⟩ rfl (fun v hv => ?_)
                  obtain rfl := hv
                  refine g_st (st' := [_]) rfl ?_
                  refine g_topi (oSt8 (q := i) eN1 (by omega) hm40) ?_
                  refine g_iload X dL_sound_176 2 rfl rfl ?_
                  refine g_icmp_ne X dL_sound_178 194 (by decide) rfl (fun h178 => absurd rfl h178) (fun h178 => ?_)
                  refine g_aload_n X dL_sound_181 rfl 12 rfl rfl ?_
                  refine g_iload X dL_sound_182 4 rfl rfl ?_
                  refine g_bipush (v := (9 : Int32)) X dL_sound_184 (by decide) rfl ?_
                  refine g_callVRX (w0 := []) (n := 2) (As := [_, _]) (rest := []) X (c_X6_ofStamp l D a f na w td vl L pt fl kd kp fq fs tl mk n b hW hNR _ _) gL_sound_X6_ofStamp rfl (by decide +kernel) ⟨Nat.le_of_ble_eq_true rfl, Nat.le_of_ble_eq_true rfl⟩ 20 rfl rfl rfl rfl rfl (Nat.le_of_ble_eq_true rfl) dL_sound_186 ⟨Nat.le_of_ble_eq_true rfl, Nat.le_of_ble_eq_true rfl⟩ rfl (fun v hv => ?_)
                  obtain rfl := hv
                  refine g_st (st' := [_]) rfl ?_
                  refine g_topi (oSt9 (q := i) eN1 (by omega) hm40) ?_
                  refine g_iload X dL_sound_189 1 rfl rfl ?_
                  refine g_icmp_eq X dL_sound_191 196 (by decide) rfl (fun h191 => ?_) (fun h191 => absurd rfl h191)
                  refine g_aload_n X dL_sound_196 rfl 12 rfl rfl ?_
                  refine g_iload X dL_sound_197 4 rfl rfl ?_
                  refine g_iconst (v := (0 : Int32)) X dL_sound_199 (by decide) rfl ?_
                  refine g_callVRX (w0 := []) (n := 2) (As := [_, _]) (rest := []) X (c_X6_ofStamp l D a f na w td vl L pt fl kd kp fq fs tl mk n b hW hNR _ _) gL_sound_X6_ofStamp rfl (by decide +kernel) ⟨Nat.le_of_ble_eq_true rfl, Nat.le_of_ble_eq_true rfl⟩ 20 rfl rfl rfl rfl rfl (Nat.le_of_ble_eq_true rfl) dL_sound_200 ⟨Nat.le_of_ble_eq_true rfl, Nat.le_of_ble_eq_true rfl⟩ rfl (fun v hv => ?_)
                  obtain rfl := hv
                  refine g_st (st' := [_]) rfl ?_
                  refine g_topi (oSt (q := i) 0 eN1 (by omega) hm40 rfl (by decide)) ?_
                  obtain ⟨⟨po, hpo, epo⟩, -, -, -, -, -, -⟩ := id (hst i (by omega))
                  refine g_topi (epo) ?_
                  refine g_istore X [(14, _), (13, _), (12, _), (11, _), (10, _), (8, _), (7, _), (6, _), (5, _), (4, _), (3, _), (2, _), (0, _), (1, _)] dL_sound_203 (by decide) rfl rfl ?_
                  refine g_aload_n X dL_sound_205 rfl 12 rfl rfl ?_
                  refine g_iload X dL_sound_206 0 rfl rfl ?_
                  refine g_iconst (v := (1 : Int32)) X dL_sound_208 (by decide) rfl ?_
                  refine g_iconst (v := ((-1) : Int32)) X dL_sound_209 (by decide) rfl ?_
                  refine g_callSRX (w0 := []) (n := 4) (As := [_, _, _, _]) (rest := []) X (c_L_who l D a f na w td vl L pt fl kd kp fq fs tl mk n b hW hNR po (by omega) ((1 : Int32)) ((-1 : Int32)) (Or.inl rfl)) gL_sound_L_who rfl (by decide +kernel) ⟨Nat.le_of_ble_eq_true rfl, Nat.le_of_ble_eq_true rfl⟩ rfl rfl rfl (Nat.le_of_ble_eq_true rfl) dL_sound_210 ⟨Nat.le_of_ble_eq_true rfl, Nat.le_of_ble_eq_true rfl⟩ rfl (fun v hv => ?_)
                  obtain rfl := hv
                  refine g_st (st' := [_]) rfl ?_
                  refine g_aload_n X dL_sound_213 rfl 12 rfl rfl ?_
                  refine g_iload X dL_sound_214 0 rfl rfl ?_
                  refine g_iconst (v := (1 : Int32)) X dL_sound_216 (by decide) rfl ?_
                  refine g_iload X dL_sound_217 4 rfl rfl ?_
                  refine g_callSRX (w0 := []) (n := 4) (As := [_, _, _, _]) (rest := [_]) X (c_L_who l D a f na w td vl L pt fl kd kp fq fs tl mk n b hW hNR po (by omega) ((1 : Int32)) (nI i) (Or.inr ⟨i, by omega, rfl⟩)) gL_sound_L_who rfl (by decide +kernel) ⟨Nat.le_of_ble_eq_true rfl, Nat.le_of_ble_eq_true rfl⟩ rfl rfl rfl (Nat.le_of_ble_eq_true rfl) dL_sound_219 ⟨Nat.le_of_ble_eq_true rfl, Nat.le_of_ble_eq_true rfl⟩ rfl (fun v hv => ?_)
                  obtain rfl := hv
                  refine g_st (st' := [_, _]) rfl ?_
                  refine g_iconst (v := ((-1) : Int32)) X dL_sound_222 (by decide) rfl ?_
                  refine g_ixor X dL_sound_223 rfl ?_
                  refine g_iand X dL_sound_224 rfl ?_
                  refine g_topi (hid_gW hst hm40 (by omega) epo hpo) ?_
                  refine g_istore X [(15, _), (14, _), (13, _), (12, _), (11, _), (10, _), (8, _), (7, _), (6, _), (5, _), (4, _), (3, _), (2, _), (0, _), (1, _)] dL_sound_225 (by decide) rfl rfl ?_
                  refine g_aload_n X dL_sound_227 rfl 13 rfl rfl ?_
                  refine g_iload X dL_sound_228 5 rfl rfl ?_
                  refine g_callVRX (w0 := []) (n := 1) (As := [_]) (rest := []) X (c_X6_hides l D a f na w td vl L pt fl kd kp fq fs tl mk n b hW hNR _) gL_sound_X6_hides rfl (by decide +kernel) ⟨Nat.le_of_ble_eq_true rfl, Nat.le_of_ble_eq_true rfl⟩ 20 rfl rfl rfl rfl rfl (Nat.le_of_ble_eq_true rfl) dL_sound_230 ⟨Nat.le_of_ble_eq_true rfl, Nat.le_of_ble_eq_true rfl⟩ rfl (fun v hv => ?_)
                  obtain rfl := hv
                  refine g_st (st' := [_]) rfl ?_
                  refine g_topi (oHd (q := i) eN1 (by omega) hm40) ?_
                  refine g_iload X dL_sound_233 0 rfl rfl ?_
                  refine g_icmp_eq X dL_sound_235 240 (by decide) rfl (fun h235 => ?_) (fun h235 => absurd rfl h235)
                  refine g_iload X dL_sound_240 4 rfl rfl ?_
                  refine g_if_ne X dL_sound_242 248 (by decide) rfl (fun h242 => absurd (by rw [h157]; rfl) h242) (fun h242 => ?_)
                  replace h242 := b2i_0 h242
                  refine g_goto X dL_sound_245 293 (by decide) ?_
                  refine g_iinc (v := nI (i + 1)) X [(10, _), (15, _), (14, _), (13, _), (12, _), (11, _), (8, _), (7, _), (6, _), (5, _), (4, _), (3, _), (2, _), (0, _), (1, _)] dL_sound_293 5 rfl (nI_add i 1) (by decide) rfl rfl ?_
                  refine g_goto X dL_sound_296 52 (by decide) ?_
                  have eA := cnI_f (P := gd f) h157
                  have eH := cnI_f (P := (fun s => gd f s && decide (ofM f s 0 = nI pg))) (show (gd f i && decide (ofM f i 0 = nI pg)) = false from by rw [h157]; rfl)
                  obtain ⟨eL1, eL2⟩ := lg_f (f := f) (i := i) (by omega) (Or.inl h157)
                  have eN := mskN_f (P := (fun s => decide (ofM f s 0 = nI pg) && (gd f s && decide (hidM f s mk = 0)))) (show (decide (ofM f i 0 = nI pg) && (gd f i && decide (hidM f i mk = 0))) = false from by rw [h157]; simp)
                  refine g_lve [(10, .int (nI (i + 1))), (15, .int (hidM f i mk)), (14, .int (nI po)), (13, .int (nI (bhN f i mk))), (12, .int (nI (chN f (nI i)))), (11, .int (b2i (gd f i))), (8, .long (lN (mskN (fun s => decide (ofM f s 0 = nI pg) && (gd f s && decide (hidM f s mk = 0))) (i + 1)))), (7, .int (nI (cnI (fun s => gd f s && decide (ofM f s 0 = nI pg)) (i + 1)))), (6, .int (nI pg)), (5, .int (nI (lgL f (i + 1)))), (4, .int (lgI f (i + 1))), (3, .int (nI (cnI (gd f) (i + 1)))), (2, .int (nI mk)), (0, .ref (a 19)), (1, .int (v))] (by rw [eA, eH, eL1, eL2]; first | rw [eN] | rw [← eN]) ?_
                  refine g_lv [0, 6, 7, 8, 9, 10, 11, 12, 13, 14] [(10, _), (8, _), (7, _), (6, _), (5, _), (4, _), (3, _), (2, _), (0, _), (1, _)] rfl ?_
                  exact ih (mk - (i + 1)) (by omega) (i + 1) (by omega) rfl
                · replace h157 := b2i_n0 h157
                  refine g_iconst (v := (1 : Int32)) X dL_sound_160 (by decide) rfl ?_
                  refine g_goto X dL_sound_161 165 (by decide) ?_
                  refine g_icmp_ne X dL_sound_165 194 (by decide) rfl (fun h165 => absurd (by rw [h157]; rfl) h165) (fun h165 => ?_)
                  replace h165 := b2i_1 h165
                  refine g_aload_n X dL_sound_168 rfl 12 rfl rfl ?_
                  refine g_iload X dL_sound_169 4 rfl rfl ?_
                  refine g_bipush (v := (8 : Int32)) X dL_sound_171 (by decide) rfl ?_
                  refine g_callVRX (w0 := []) (n := 2) (As := [_, _]) (rest := []) X (c_X6_ofStamp l D a f na w td vl L pt fl kd kp fq fs tl mk n b hW hNR _ _) gL_sound_X6_ofStamp rfl (by decide +kernel) ⟨Nat.le_of_ble_eq_true rfl, Nat.le_of_ble_eq_true rfl⟩ 20 rfl rfl rfl rfl rfl (Nat.le_of_ble_eq_true rfl) dL_sound_173 ⟨Nat.le_of_ble_eq_true rfl, Nat.le_of_ble_eq_true rfl⟩ rfl (fun v hv => ?_)
                  obtain rfl := hv
                  refine g_st (st' := [_]) rfl ?_
                  refine g_topi (oSt8 (q := i) eN1 (by omega) hm40) ?_
                  refine g_iload X dL_sound_176 2 rfl rfl ?_
                  refine g_icmp_ne X dL_sound_178 194 (by decide) rfl (fun h178 => absurd rfl h178) (fun h178 => ?_)
                  refine g_aload_n X dL_sound_181 rfl 12 rfl rfl ?_
                  refine g_iload X dL_sound_182 4 rfl rfl ?_
                  refine g_bipush (v := (9 : Int32)) X dL_sound_184 (by decide) rfl ?_
                  refine g_callVRX (w0 := []) (n := 2) (As := [_, _]) (rest := []) X (c_X6_ofStamp l D a f na w td vl L pt fl kd kp fq fs tl mk n b hW hNR _ _) gL_sound_X6_ofStamp rfl (by decide +kernel) ⟨Nat.le_of_ble_eq_true rfl, Nat.le_of_ble_eq_true rfl⟩ 20 rfl rfl rfl rfl rfl (Nat.le_of_ble_eq_true rfl) dL_sound_186 ⟨Nat.le_of_ble_eq_true rfl, Nat.le_of_ble_eq_true rfl⟩ rfl (fun v hv => ?_)
                  obtain rfl := hv
                  refine g_st (st' := [_]) rfl ?_
                  refine g_topi (oSt9 (q := i) eN1 (by omega) hm40) ?_
                  refine g_iload X dL_sound_189 1 rfl rfl ?_
                  refine g_icmp_eq X dL_sound_191 196 (by decide) rfl (fun h191 => ?_) (fun h191 => absurd rfl h191)
                  refine g_aload_n X dL_sound_196 rfl 12 rfl rfl ?_
                  refine g_iload X dL_sound_197 4 rfl rfl ?_
                  refine g_iconst (v := (0 : Int32)) X dL_sound_199 (by decide) rfl ?_
                  refine g_callVRX (w0 := []) (n := 2) (As := [_, _]) (rest := []) X (c_X6_ofStamp l D a f na w td vl L pt fl kd kp fq fs tl mk n b hW hNR _ _) gL_sound_X6_ofStamp rfl (by decide +kernel) ⟨Nat.le_of_ble_eq_true rfl, Nat.le_of_ble_eq_true rfl⟩ 20 rfl rfl rfl rfl rfl (Nat.le_of_ble_eq_true rfl) dL_sound_200 ⟨Nat.le_of_ble_eq_true rfl, Nat.le_of_ble_eq_true rfl⟩ rfl (fun v hv => ?_)
                  obtain rfl := hv
                  refine g_st (st' := [_]) rfl ?_
                  refine g_topi (oSt (q := i) 0 eN1 (by omega) hm40 rfl (by decide)) ?_
                  obtain ⟨⟨po, hpo, epo⟩, -, -, -, -, -, -⟩ := id (hst i (by omega))
                  refine g_topi (epo) ?_
                  refine g_istore X [(14, _), (13, _), (12, _), (11, _), (10, _), (8, _), (7, _), (6, _), (5, _), (4, _), (3, _), (2, _), (0, _), (1, _)] dL_sound_203 (by decide) rfl rfl ?_
                  refine g_aload_n X dL_sound_205 rfl 12 rfl rfl ?_
                  refine g_iload X dL_sound_206 0 rfl rfl ?_
                  refine g_iconst (v := (1 : Int32)) X dL_sound_208 (by decide) rfl ?_
                  refine g_iconst (v := ((-1) : Int32)) X dL_sound_209 (by decide) rfl ?_
                  refine g_callSRX (w0 := []) (n := 4) (As := [_, _, _, _]) (rest := []) X (c_L_who l D a f na w td vl L pt fl kd kp fq fs tl mk n b hW hNR po (by omega) ((1 : Int32)) ((-1 : Int32)) (Or.inl rfl)) gL_sound_L_who rfl (by decide +kernel) ⟨Nat.le_of_ble_eq_true rfl, Nat.le_of_ble_eq_true rfl⟩ rfl rfl rfl (Nat.le_of_ble_eq_true rfl) dL_sound_210 ⟨Nat.le_of_ble_eq_true rfl, Nat.le_of_ble_eq_true rfl⟩ rfl (fun v hv => ?_)
                  obtain rfl := hv
                  refine g_st (st' := [_]) rfl ?_
                  refine g_aload_n X dL_sound_213 rfl 12 rfl rfl ?_
                  refine g_iload X dL_sound_214 0 rfl rfl ?_
                  refine g_iconst (v := (1 : Int32)) X dL_sound_216 (by decide) rfl ?_
                  refine g_iload X dL_sound_217 4 rfl rfl ?_
                  refine g_callSRX (w0 := []) (n := 4) (As := [_, _, _, _]) (rest := [_]) X (c_L_who l D a f na w td vl L pt fl kd kp fq fs tl mk n b hW hNR po (by omega) ((1 : Int32)) (nI i) (Or.inr ⟨i, by omega, rfl⟩)) gL_sound_L_who rfl (by decide +kernel) ⟨Nat.le_of_ble_eq_true rfl, Nat.le_of_ble_eq_true rfl⟩ rfl rfl rfl (Nat.le_of_ble_eq_true rfl) dL_sound_219 ⟨Nat.le_of_ble_eq_true rfl, Nat.le_of_ble_eq_true rfl⟩ rfl (fun v hv => ?_)
                  obtain rfl := hv
                  refine g_st (st' := [_, _]) rfl ?_
                  refine g_iconst (v := ((-1) : Int32)) X dL_sound_222 (by decide) rfl ?_
                  refine g_ixor X dL_sound_223 rfl ?_
                  refine g_iand X dL_sound_224 rfl ?_
                  refine g_topi (hid_gW hst hm40 (by omega) epo hpo) ?_
                  refine g_istore X [(15, _), (14, _), (13, _), (12, _), (11, _), (10, _), (8, _), (7, _), (6, _), (5, _), (4, _), (3, _), (2, _), (0, _), (1, _)] dL_sound_225 (by decide) rfl rfl ?_
                  refine g_aload_n X dL_sound_227 rfl 13 rfl rfl ?_
                  refine g_iload X dL_sound_228 5 rfl rfl ?_
                  refine g_callVRX (w0 := []) (n := 1) (As := [_]) (rest := []) X (c_X6_hides l D a f na w td vl L pt fl kd kp fq fs tl mk n b hW hNR _) gL_sound_X6_hides rfl (by decide +kernel) ⟨Nat.le_of_ble_eq_true rfl, Nat.le_of_ble_eq_true rfl⟩ 20 rfl rfl rfl rfl rfl (Nat.le_of_ble_eq_true rfl) dL_sound_230 ⟨Nat.le_of_ble_eq_true rfl, Nat.le_of_ble_eq_true rfl⟩ rfl (fun v hv => ?_)
                  obtain rfl := hv
                  refine g_st (st' := [_]) rfl ?_
                  refine g_topi (oHd (q := i) eN1 (by omega) hm40) ?_
                  refine g_iload X dL_sound_233 0 rfl rfl ?_
                  refine g_icmp_eq X dL_sound_235 240 (by decide) rfl (fun h235 => ?_) (fun h235 => absurd rfl h235)
                  refine g_iload X dL_sound_240 4 rfl rfl ?_
                  refine g_if_ne X dL_sound_242 248 (by decide) rfl (fun h242 => ?_) (fun h242 => absurd h242 (by rw [h157]; decide))
                  replace h242 := b2i_n0 h242
                  refine g_iinc (v := nI ((cnI (gd f) i) + 1)) X [(3, _), (15, _), (14, _), (13, _), (12, _), (11, _), (10, _), (8, _), (7, _), (6, _), (5, _), (4, _), (2, _), (0, _), (1, _)] dL_sound_248 11 rfl (nI_add (cnI (gd f) i) 1) (by decide) rfl rfl ?_
                  refine g_iload X dL_sound_251 4 rfl rfl ?_
                  refine g_iload X dL_sound_253 10 rfl rfl ?_
                  refine g_icmp_le X dL_sound_255 266 (by decide) rfl (fun h255 => ?_) (fun h255 => ?_)
                  · have i255 := nj_le (a := (chN f (nI i))) (b := (lgL f i)) (by omega) (by omega) h255
                    refine g_iload X dL_sound_266 2 rfl rfl ?_
                    refine g_iload X dL_sound_268 9 rfl rfl ?_
                    refine g_icmp_eq X dL_sound_270 276 (by decide) rfl (fun h270 => ?_) (fun h270 => ?_)
                    · have i270 := nj_eq (a := po) (b := pg) (by omega) (by omega) h270
                      refine g_iinc (v := nI ((cnI (fun s => gd f s && decide (ofM f s 0 = nI pg)) i) + 1)) X [(7, _), (3, _), (15, _), (14, _), (13, _), (12, _), (11, _), (10, _), (8, _), (6, _), (5, _), (4, _), (2, _), (0, _), (1, _)] dL_sound_276 8 rfl (nI_add (cnI (fun s => gd f s && decide (ofM f s 0 = nI pg)) i) 1) (by decide) rfl rfl ?_
                      refine g_iload X dL_sound_279 2 rfl rfl ?_
                      refine g_if_ne X dL_sound_281 293 (by decide) rfl (fun h281 => ?_) (fun h281 => ?_)
                      · refine g_iinc (v := nI (i + 1)) X [(10, _), (7, _), (3, _), (15, _), (14, _), (13, _), (12, _), (11, _), (8, _), (6, _), (5, _), (4, _), (2, _), (0, _), (1, _)] dL_sound_293 7 rfl (nI_add i 1) (by decide) rfl rfl ?_
                        refine g_goto X dL_sound_296 52 (by decide) ?_
                        have eA := cnI_t (P := gd f) h157
                        obtain ⟨eL1, eL2⟩ := lg_f (f := f) (i := i) (by omega) (Or.inr i255)
                        have eH := cnI_t (P := (fun s => gd f s && decide (ofM f s 0 = nI pg))) (show (gd f i && decide (ofM f i 0 = nI pg)) = true from by rw [epo, h157, decide_eq_true h270]; rfl)
                        have eN := mskN_f (P := (fun s => decide (ofM f s 0 = nI pg) && (gd f s && decide (hidM f s mk = 0)))) (show (decide (ofM f i 0 = nI pg) && (gd f i && decide (hidM f i mk = 0))) = false from by rw [decide_eq_false h281]; simp)
                        refine g_lve [(10, .int (nI (i + 1))), (7, .int (nI (cnI (fun s => gd f s && decide (ofM f s 0 = nI pg)) (i + 1)))), (3, .int (nI (cnI (gd f) (i + 1)))), (15, .int (hidM f i mk)), (14, .int (nI po)), (13, .int (nI (bhN f i mk))), (12, .int (nI (chN f (nI i)))), (11, .int (b2i (gd f i))), (8, .long (lN (mskN (fun s => decide (ofM f s 0 = nI pg) && (gd f s && decide (hidM f s mk = 0))) (i + 1)))), (6, .int (nI pg)), (5, .int (nI (lgL f (i + 1)))), (4, .int (lgI f (i + 1))), (2, .int (nI mk)), (0, .ref (a 19)), (1, .int (v))] (by rw [eA, eH, eL1, eL2]; first | rw [eN] | rw [← eN]) ?_
                        refine g_lv [0, 8, 1, 9, 10, 11, 2, 12, 13, 14] [(10, _), (8, _), (7, _), (6, _), (5, _), (4, _), (3, _), (2, _), (0, _), (1, _)] rfl ?_
                        exact ih (mk - (i + 1)) (by omega) (i + 1) (by omega) rfl
                      · refine g_lload X dL_sound_284 8 rfl rfl ?_
                        refine g_lconst (v := (1 : Int64)) X dL_sound_286 (by decide) rfl ?_
                        refine g_iload X dL_sound_287 7 rfl rfl ?_
                        refine g_lshl X dL_sound_289 rfl rfl ?_
                        refine g_lor X dL_sound_290 rfl ?_
                        refine g_lstore X [(8, _), (7, _), (3, _), (15, _), (14, _), (13, _), (12, _), (11, _), (10, _), (6, _), (5, _), (4, _), (2, _), (0, _), (1, _)] dL_sound_291 (by decide) rfl rfl ?_
                        refine g_iinc (v := nI (i + 1)) X [(10, _), (8, _), (7, _), (3, _), (15, _), (14, _), (13, _), (12, _), (11, _), (6, _), (5, _), (4, _), (2, _), (0, _), (1, _)] dL_sound_293 8 rfl (nI_add i 1) (by decide) rfl rfl ?_
                        refine g_goto X dL_sound_296 52 (by decide) ?_
                        have eA := cnI_t (P := gd f) h157
                        obtain ⟨eL1, eL2⟩ := lg_f (f := f) (i := i) (by omega) (Or.inr i255)
                        have eH := cnI_t (P := (fun s => gd f s && decide (ofM f s 0 = nI pg))) (show (gd f i && decide (ofM f i 0 = nI pg)) = true from by rw [epo, h157, decide_eq_true h270]; rfl)
                        have eN := mskN_t (P := (fun s => decide (ofM f s 0 = nI pg) && (gd f s && decide (hidM f s mk = 0)))) (i := i) (by omega) (show (decide (ofM f i 0 = nI pg) && (gd f i && decide (hidM f i mk = 0))) = true from by rw [epo, h157, decide_eq_true h270, decide_eq_true h281]; rfl)
                        refine g_lve [(10, .int (nI (i + 1))), (8, .long (lN (mskN (fun s => decide (ofM f s 0 = nI pg) && (gd f s && decide (hidM f s mk = 0))) (i + 1)))), (7, .int (nI (cnI (fun s => gd f s && decide (ofM f s 0 = nI pg)) (i + 1)))), (3, .int (nI (cnI (gd f) (i + 1)))), (15, .int (hidM f i mk)), (14, .int (nI po)), (13, .int (nI (bhN f i mk))), (12, .int (nI (chN f (nI i)))), (11, .int (b2i (gd f i))), (6, .int (nI pg)), (5, .int (nI (lgL f (i + 1)))), (4, .int (lgI f (i + 1))), (2, .int (nI mk)), (0, .ref (a 19)), (1, .int (v))] (by rw [eA, eH, eL1, eL2]; first | rw [eN] | rw [← eN]) ?_
                        refine g_lv [0, 1, 2, 9, 10, 11, 3, 12, 13, 14] [(10, _), (8, _), (7, _), (6, _), (5, _), (4, _), (3, _), (2, _), (0, _), (1, _)] rfl ?_
                        exact ih (mk - (i + 1)) (by omega) (i + 1) (by omega) rfl
                    · have i270 := nj_ne (a := po) (b := pg) (by omega) (by omega) h270
                      refine g_goto X dL_sound_273 293 (by decide) ?_
                      refine g_iinc (v := nI (i + 1)) X [(10, _), (3, _), (15, _), (14, _), (13, _), (12, _), (11, _), (8, _), (7, _), (6, _), (5, _), (4, _), (2, _), (0, _), (1, _)] dL_sound_293 6 rfl (nI_add i 1) (by decide) rfl rfl ?_
                      refine g_goto X dL_sound_296 52 (by decide) ?_
                      have eA := cnI_t (P := gd f) h157
                      obtain ⟨eL1, eL2⟩ := lg_f (f := f) (i := i) (by omega) (Or.inr i255)
                      have eH := cnI_f (P := (fun s => gd f s && decide (ofM f s 0 = nI pg))) (show (gd f i && decide (ofM f i 0 = nI pg)) = false from by rw [epo, decide_eq_false h270, Bool.and_false])
                      have eN := mskN_f (P := (fun s => decide (ofM f s 0 = nI pg) && (gd f s && decide (hidM f s mk = 0)))) (show (decide (ofM f i 0 = nI pg) && (gd f i && decide (hidM f i mk = 0))) = false from by rw [epo, decide_eq_false h270, Bool.false_and])
                      refine g_lve [(10, .int (nI (i + 1))), (3, .int (nI (cnI (gd f) (i + 1)))), (15, .int (hidM f i mk)), (14, .int (nI po)), (13, .int (nI (bhN f i mk))), (12, .int (nI (chN f (nI i)))), (11, .int (b2i (gd f i))), (8, .long (lN (mskN (fun s => decide (ofM f s 0 = nI pg) && (gd f s && decide (hidM f s mk = 0))) (i + 1)))), (7, .int (nI (cnI (fun s => gd f s && decide (ofM f s 0 = nI pg)) (i + 1)))), (6, .int (nI pg)), (5, .int (nI (lgL f (i + 1)))), (4, .int (lgI f (i + 1))), (2, .int (nI mk)), (0, .ref (a 19)), (1, .int (v))] (by rw [eA, eH, eL1, eL2]; first | rw [eN] | rw [← eN]) ?_
                      refine g_lv [0, 7, 8, 9, 10, 11, 1, 12, 13, 14] [(10, _), (8, _), (7, _), (6, _), (5, _), (4, _), (3, _), (2, _), (0, _), (1, _)] rfl ?_
                      exact ih (mk - (i + 1)) (by omega) (i + 1) (by omega) rfl
                  · have i255 := nj_nle (a := (chN f (nI i))) (b := (lgL f i)) (by omega) (by omega) h255
                    refine g_iload X dL_sound_258 4 rfl rfl ?_
                    refine g_istore X [(5, _), (3, _), (15, _), (14, _), (13, _), (12, _), (11, _), (10, _), (8, _), (7, _), (6, _), (4, _), (2, _), (0, _), (1, _)] dL_sound_260 (by decide) rfl rfl ?_
                    refine g_iload X dL_sound_262 7 rfl rfl ?_
                    refine g_istore X [(4, _), (5, _), (3, _), (15, _), (14, _), (13, _), (12, _), (11, _), (10, _), (8, _), (7, _), (6, _), (2, _), (0, _), (1, _)] dL_sound_264 (by decide) rfl rfl ?_
                    refine g_iload X dL_sound_266 4 rfl rfl ?_
                    refine g_iload X dL_sound_268 11 rfl rfl ?_
                    refine g_icmp_eq X dL_sound_270 276 (by decide) rfl (fun h270 => ?_) (fun h270 => ?_)
                    · have i270 := nj_eq (a := po) (b := pg) (by omega) (by omega) h270
                      refine g_iinc (v := nI ((cnI (fun s => gd f s && decide (ofM f s 0 = nI pg)) i) + 1)) X [(7, _), (4, _), (5, _), (3, _), (15, _), (14, _), (13, _), (12, _), (11, _), (10, _), (8, _), (6, _), (2, _), (0, _), (1, _)] dL_sound_276 10 rfl (nI_add (cnI (fun s => gd f s && decide (ofM f s 0 = nI pg)) i) 1) (by decide) rfl rfl ?_
                      refine g_iload X dL_sound_279 4 rfl rfl ?_
                      refine g_if_ne X dL_sound_281 293 (by decide) rfl (fun h281 => ?_) (fun h281 => ?_)
                      · refine g_iinc (v := nI (i + 1)) X [(10, _), (7, _), (4, _), (5, _), (3, _), (15, _), (14, _), (13, _), (12, _), (11, _), (8, _), (6, _), (2, _), (0, _), (1, _)] dL_sound_293 9 rfl (nI_add i 1) (by decide) rfl rfl ?_
                        refine g_goto X dL_sound_296 52 (by decide) ?_
                        have eA := cnI_t (P := gd f) h157
                        obtain ⟨eL1, eL2⟩ := lg_t (f := f) (i := i) (by omega) h157 i255
                        have eH := cnI_t (P := (fun s => gd f s && decide (ofM f s 0 = nI pg))) (show (gd f i && decide (ofM f i 0 = nI pg)) = true from by rw [epo, h157, decide_eq_true h270]; rfl)
                        have eN := mskN_f (P := (fun s => decide (ofM f s 0 = nI pg) && (gd f s && decide (hidM f s mk = 0)))) (show (decide (ofM f i 0 = nI pg) && (gd f i && decide (hidM f i mk = 0))) = false from by rw [decide_eq_false h281]; simp)
                        refine g_lve [(10, .int (nI (i + 1))), (7, .int (nI (cnI (fun s => gd f s && decide (ofM f s 0 = nI pg)) (i + 1)))), (4, .int (lgI f (i + 1))), (5, .int (nI (lgL f (i + 1)))), (3, .int (nI (cnI (gd f) (i + 1)))), (15, .int (hidM f i mk)), (14, .int (nI po)), (13, .int (nI (bhN f i mk))), (12, .int (nI (chN f (nI i)))), (11, .int (b2i (gd f i))), (8, .long (lN (mskN (fun s => decide (ofM f s 0 = nI pg) && (gd f s && decide (hidM f s mk = 0))) (i + 1)))), (6, .int (nI pg)), (2, .int (nI mk)), (0, .ref (a 19)), (1, .int (v))] (by rw [eA, eH, eL1, eL2]; first | rw [eN] | rw [← eN]) ?_
                        refine g_lv [0, 10, 1, 11, 3, 2, 4, 12, 13, 14] [(10, _), (8, _), (7, _), (6, _), (5, _), (4, _), (3, _), (2, _), (0, _), (1, _)] rfl ?_
                        exact ih (mk - (i + 1)) (by omega) (i + 1) (by omega) rfl
                      · refine g_lload X dL_sound_284 10 rfl rfl ?_
                        refine g_lconst (v := (1 : Int64)) X dL_sound_286 (by decide) rfl ?_
                        refine g_iload X dL_sound_287 9 rfl rfl ?_
                        refine g_lshl X dL_sound_289 rfl rfl ?_
                        refine g_lor X dL_sound_290 rfl ?_
                        refine g_lstore X [(8, _), (7, _), (4, _), (5, _), (3, _), (15, _), (14, _), (13, _), (12, _), (11, _), (10, _), (6, _), (2, _), (0, _), (1, _)] dL_sound_291 (by decide) rfl rfl ?_
                        refine g_iinc (v := nI (i + 1)) X [(10, _), (8, _), (7, _), (4, _), (5, _), (3, _), (15, _), (14, _), (13, _), (12, _), (11, _), (6, _), (2, _), (0, _), (1, _)] dL_sound_293 10 rfl (nI_add i 1) (by decide) rfl rfl ?_
                        refine g_goto X dL_sound_296 52 (by decide) ?_
                        have eA := cnI_t (P := gd f) h157
                        obtain ⟨eL1, eL2⟩ := lg_t (f := f) (i := i) (by omega) h157 i255
                        have eH := cnI_t (P := (fun s => gd f s && decide (ofM f s 0 = nI pg))) (show (gd f i && decide (ofM f i 0 = nI pg)) = true from by rw [epo, h157, decide_eq_true h270]; rfl)
                        have eN := mskN_t (P := (fun s => decide (ofM f s 0 = nI pg) && (gd f s && decide (hidM f s mk = 0)))) (i := i) (by omega) (show (decide (ofM f i 0 = nI pg) && (gd f i && decide (hidM f i mk = 0))) = true from by rw [epo, h157, decide_eq_true h270, decide_eq_true h281]; rfl)
                        refine g_lve [(10, .int (nI (i + 1))), (8, .long (lN (mskN (fun s => decide (ofM f s 0 = nI pg) && (gd f s && decide (hidM f s mk = 0))) (i + 1)))), (7, .int (nI (cnI (fun s => gd f s && decide (ofM f s 0 = nI pg)) (i + 1)))), (4, .int (lgI f (i + 1))), (5, .int (nI (lgL f (i + 1)))), (3, .int (nI (cnI (gd f) (i + 1)))), (15, .int (hidM f i mk)), (14, .int (nI po)), (13, .int (nI (bhN f i mk))), (12, .int (nI (chN f (nI i)))), (11, .int (b2i (gd f i))), (6, .int (nI pg)), (2, .int (nI mk)), (0, .ref (a 19)), (1, .int (v))] (by rw [eA, eH, eL1, eL2]; first | rw [eN] | rw [← eN]) ?_
                        refine g_lv [0, 1, 2, 11, 4, 3, 5, 12, 13, 14] [(10, _), (8, _), (7, _), (6, _), (5, _), (4, _), (3, _), (2, _), (0, _), (1, _)] rfl ?_
                        exact ih (mk - (i + 1)) (by omega) (i + 1) (by omega) rfl
                    · have i270 := nj_ne (a := po) (b := pg) (by omega) (by omega) h270
                      refine g_goto X dL_sound_273 293 (by decide) ?_
                      refine g_iinc (v := nI (i + 1)) X [(10, _), (4, _), (5, _), (3, _), (15, _), (14, _), (13, _), (12, _), (11, _), (8, _), (7, _), (6, _), (2, _), (0, _), (1, _)] dL_sound_293 8 rfl (nI_add i 1) (by decide) rfl rfl ?_
                      refine g_goto X dL_sound_296 52 (by decide) ?_
                      have eA := cnI_t (P := gd f) h157
                      obtain ⟨eL1, eL2⟩ := lg_t (f := f) (i := i) (by omega) h157 i255
                      have eH := cnI_f (P := (fun s => gd f s && decide (ofM f s 0 = nI pg))) (show (gd f i && decide (ofM f i 0 = nI pg)) = false from by rw [epo, decide_eq_false h270, Bool.and_false])
                      have eN := mskN_f (P := (fun s => decide (ofM f s 0 = nI pg) && (gd f s && decide (hidM f s mk = 0)))) (show (decide (ofM f i 0 = nI pg) && (gd f i && decide (hidM f i mk = 0))) = false from by rw [epo, decide_eq_false h270, Bool.false_and])
                      refine g_lve [(10, .int (nI (i + 1))), (4, .int (lgI f (i + 1))), (5, .int (nI (lgL f (i + 1)))), (3, .int (nI (cnI (gd f) (i + 1)))), (15, .int (hidM f i mk)), (14, .int (nI po)), (13, .int (nI (bhN f i mk))), (12, .int (nI (chN f (nI i)))), (11, .int (b2i (gd f i))), (8, .long (lN (mskN (fun s => decide (ofM f s 0 = nI pg) && (gd f s && decide (hidM f s mk = 0))) (i + 1)))), (7, .int (nI (cnI (fun s => gd f s && decide (ofM f s 0 = nI pg)) (i + 1)))), (6, .int (nI pg)), (2, .int (nI mk)), (0, .ref (a 19)), (1, .int (v))] (by rw [eA, eH, eL1, eL2]; first | rw [eN] | rw [← eN]) ?_
                      refine g_lv [0, 9, 10, 11, 2, 1, 3, 12, 13, 14] [(10, _), (8, _), (7, _), (6, _), (5, _), (4, _), (3, _), (2, _), (0, _), (1, _)] rfl ?_
                      exact ih (mk - (i + 1)) (by omega) (i + 1) (by omega) rfl
              · have i105 := nj_nle (a := mk) (b := u) (by omega) (by omega) h105
                refine g_iload X dL_sound_108 0 rfl rfl ?_
                refine g_istore X [(15, _), (14, _), (13, _), (12, _), (11, _), (10, _), (8, _), (7, _), (6, _), (5, _), (4, _), (3, _), (2, _), (0, _), (1, _)] dL_sound_110 (by decide) rfl rfl ?_
                have L112 : ∀ (k : Nat) (y : Int32) (bc : Nat) (hy : y = -6 ∨ ∃ r : Nat, r < k ∧ r < mk ∧ y = nI r) (hB : (bc = cnI (fun s => decide (i < s) && isIC f i s) u ∧ isIC f i u = (decide (¬ y < 0) && inC f (nI i) y.toNatClampNeg)) ∨ (bc = cnI (fun s => decide (i < s) && isIC f i s) (u + 1) ∧ y < nI i)), GG p l e (wRoom 7 167 0 0) s m ([.ref (a 19), .int (v)] : List Value).toArray below meth c D A 16 true 0 0 (MQ below (roQ (fun v => v = some (.int (1)))) ([.ref (a 19), .int (v)] : List Value).toArray s 0 0 (fun _ => False)) (wB D a f na w td vl L pt fl kd kp fq fs tl) 112 [(15, .int (y)), (13, .int (nI bc)), (14, .int (nI u)), (12, .int (nI (chN f (nI i)))), (11, .int (b2i (gd f i))), (10, .int (nI i)), (8, .long (lN (mskN (fun s => decide (ofM f s 0 = nI pg) && (gd f s && decide (hidM f s mk = 0))) i))), (7, .int (nI (cnI (fun s => gd f s && decide (ofM f s 0 = nI pg)) i))), (6, .int (nI pg)), (5, .int (nI (lgL f i))), (4, .int (lgI f i)), (3, .int (nI (cnI (gd f) i))), (2, .int (nI mk)), (0, .ref (a 19)), (1, .int (v))] [] := by
                  intro k
                  induction k using Nat.strongRecOn with
                  | _ k ihk =>
                  intro y bc hy hB
                  rcases hy with rfl | ⟨r, hrk, hrm, rfl⟩
                  · have hcU : bc = cnI (fun s => decide (i < s) && isIC f i s) (u + 1) := by
                      rcases hB with ⟨h1, h2⟩ | ⟨h1, -⟩
                      · rw [h1]
                        exact (cnI_f (show (decide (i < u) && isIC f i u) = false from by rw [h2, decide_eq_false (not_not_intro neg6), Bool.false_and, Bool.and_false])).symm
                      · exact h1
                    refine g_iload X dL_sound_112 0 rfl rfl ?_
                    refine g_iload X dL_sound_114 5 rfl rfl ?_
                    refine g_icmp_lt X dL_sound_116 141 (by decide) rfl (fun h116 => ?_) (fun h116 => absurd (n6_lt (by omega)) h116)
                    refine g_iinc (v := nI (u + 1)) X [(14, _), (15, _), (13, _), (12, _), (11, _), (10, _), (8, _), (7, _), (6, _), (5, _), (4, _), (3, _), (2, _), (0, _), (1, _)] dL_sound_141 2 rfl (nI_add u 1) (by decide) rfl rfl ?_
                    refine g_goto X dL_sound_144 102 (by decide) ?_
                    refine g_lve [(14, .int (nI (u + 1))), (15, .int (-6)), (13, .int (nI (cnI (fun s => decide (i < s) && isIC f i s) (u + 1)))), (12, .int (nI (chN f (nI i)))), (11, .int (b2i (gd f i))), (10, .int (nI i)), (8, .long (lN (mskN (fun s => decide (ofM f s 0 = nI pg) && (gd f s && decide (hidM f s mk = 0))) i))), (7, .int (nI (cnI (fun s => gd f s && decide (ofM f s 0 = nI pg)) i))), (6, .int (nI pg)), (5, .int (nI (lgL f i))), (4, .int (lgI f i)), (3, .int (nI (cnI (gd f) i))), (2, .int (nI mk)), (0, .ref (a 19)), (1, .int (v))] (by rw [hcU]) ?_
                    refine g_lv [0, 2, 3, 4, 5, 6, 7, 8, 9, 10, 11, 12, 13, 14] [(14, _), (13, _), (12, _), (11, _), (10, _), (8, _), (7, _), (6, _), (5, _), (4, _), (3, _), (2, _), (0, _), (1, _)] rfl ?_
                    exact ihu (mk - (u + 1)) (by omega) (u + 1) (by omega) (by omega) rfl
                  · obtain ⟨-, -, -, -, hrt, -, -⟩ := id (hst r hrm)
                    refine g_iload X dL_sound_112 0 rfl rfl ?_
                    refine g_iload X dL_sound_114 5 rfl rfl ?_
                    refine g_icmp_lt X dL_sound_116 141 (by decide) rfl (fun h116 => ?_) (fun h116 => ?_)
                    · have i116 := nj_lt (a := r) (b := i) (by omega) (by omega) h116
                      have hcU : bc = cnI (fun s => decide (i < s) && isIC f i s) (u + 1) := by
                        rcases hB with ⟨h1, h2⟩ | ⟨h1, -⟩
                        · rw [h1]
                          exact (cnI_f (show (decide (i < u) && isIC f i u) = false from by rw [h2, nI_clamp (by omega), inC_n (by omega), isIC_lo (by omega) i116, Bool.and_false, Bool.and_false])).symm
                        · exact h1
                      refine g_iinc (v := nI (u + 1)) X [(14, _), (15, _), (13, _), (12, _), (11, _), (10, _), (8, _), (7, _), (6, _), (5, _), (4, _), (3, _), (2, _), (0, _), (1, _)] dL_sound_141 2 rfl (nI_add u 1) (by decide) rfl rfl ?_
                      refine g_goto X dL_sound_144 102 (by decide) ?_
                      refine g_lve [(14, .int (nI (u + 1))), (15, .int (nI r)), (13, .int (nI (cnI (fun s => decide (i < s) && isIC f i s) (u + 1)))), (12, .int (nI (chN f (nI i)))), (11, .int (b2i (gd f i))), (10, .int (nI i)), (8, .long (lN (mskN (fun s => decide (ofM f s 0 = nI pg) && (gd f s && decide (hidM f s mk = 0))) i))), (7, .int (nI (cnI (fun s => gd f s && decide (ofM f s 0 = nI pg)) i))), (6, .int (nI pg)), (5, .int (nI (lgL f i))), (4, .int (lgI f i)), (3, .int (nI (cnI (gd f) i))), (2, .int (nI mk)), (0, .ref (a 19)), (1, .int (v))] (by rw [hcU]) ?_
                      refine g_lv [0, 2, 3, 4, 5, 6, 7, 8, 9, 10, 11, 12, 13, 14] [(14, _), (13, _), (12, _), (11, _), (10, _), (8, _), (7, _), (6, _), (5, _), (4, _), (3, _), (2, _), (0, _), (1, _)] rfl ?_
                      exact ihu (mk - (u + 1)) (by omega) (u + 1) (by omega) (by omega) rfl
                    · have i116 := nj_nlt (a := r) (b := i) (by omega) (by omega) h116
                      have hBl := hB.resolve_right (fun z => absurd ((nI_ltI (by omega) (by omega)).mp z.2) (by omega))
                      refine g_iload X dL_sound_119 0 rfl rfl ?_
                      refine g_iload X dL_sound_121 5 rfl rfl ?_
                      refine g_icmp_ne X dL_sound_123 129 (by decide) rfl (fun h123 => ?_) (fun h123 => ?_)
                      · have i123 := nj_ne (a := r) (b := i) (by omega) (by omega) h123
                        refine g_aload_n X dL_sound_129 rfl 13 rfl rfl ?_
                        refine g_iload X dL_sound_130 0 rfl rfl ?_
                        refine g_iconst (v := (4 : Int32)) X dL_sound_132 (by decide) rfl ?_
                        refine g_callVRX (w0 := []) (n := 2) (As := [_, _]) (rest := []) X (c_X6_ofStamp l D a f na w td vl L pt fl kd kp fq fs tl mk n b hW hNR _ _) gL_sound_X6_ofStamp rfl (by decide +kernel) ⟨Nat.le_of_ble_eq_true rfl, Nat.le_of_ble_eq_true rfl⟩ 20 rfl rfl rfl rfl rfl (Nat.le_of_ble_eq_true rfl) dL_sound_133 ⟨Nat.le_of_ble_eq_true rfl, Nat.le_of_ble_eq_true rfl⟩ rfl (fun v hv => ?_)
                        obtain rfl := hv
                        refine g_st (st' := [_]) rfl ?_
                        refine g_topi (oSt (q := r) 4 eN1 (by omega) hm40 rfl (by decide)) ?_
                        refine g_istore X [(15, _), (13, _), (14, _), (12, _), (11, _), (10, _), (8, _), (7, _), (6, _), (5, _), (4, _), (3, _), (2, _), (0, _), (1, _)] dL_sound_136 (by decide) rfl rfl ?_
                        refine g_goto X dL_sound_138 112 (by decide) ?_
                        refine ihk r hrk _ _ ?_ ?_
                        · rcases hrt with z | ⟨r2, hr2, z⟩
                          · exact Or.inl z
                          · exact Or.inr ⟨r2, hr2, by omega, z⟩
                        · refine Or.inl ⟨hBl.1, ?_⟩
                          rw [hBl.2, decide_eq_true (nI_pos (by omega)), Bool.true_and, nI_clamp (by omega), inC_s hst hm40 hrm (Or.inr ⟨i, by omega, rfl⟩), decide_eq_false (p := nI r = nI i) h123, Bool.false_or]
                      · have i123 := nj_eq (a := r) (b := i) (by omega) (by omega) h123
                        refine g_iinc (v := nI (bc + 1)) X [(13, _), (15, _), (14, _), (12, _), (11, _), (10, _), (8, _), (7, _), (6, _), (5, _), (4, _), (3, _), (2, _), (0, _), (1, _)] dL_sound_126 1 rfl (nI_add bc 1) (by decide) rfl rfl ?_
                        refine g_aload_n X dL_sound_129 rfl 13 rfl rfl ?_
                        refine g_iload X dL_sound_130 1 rfl rfl ?_
                        refine g_iconst (v := (4 : Int32)) X dL_sound_132 (by decide) rfl ?_
                        refine g_callVRX (w0 := []) (n := 2) (As := [_, _]) (rest := []) X (c_X6_ofStamp l D a f na w td vl L pt fl kd kp fq fs tl mk n b hW hNR _ _) gL_sound_X6_ofStamp rfl (by decide +kernel) ⟨Nat.le_of_ble_eq_true rfl, Nat.le_of_ble_eq_true rfl⟩ 20 rfl rfl rfl rfl rfl (Nat.le_of_ble_eq_true rfl) dL_sound_133 ⟨Nat.le_of_ble_eq_true rfl, Nat.le_of_ble_eq_true rfl⟩ rfl (fun v hv => ?_)
                        obtain rfl := hv
                        refine g_st (st' := [_]) rfl ?_
                        refine g_topi (oSt (q := r) 4 eN1 (by omega) hm40 rfl (by decide)) ?_
                        refine g_istore X [(15, _), (13, _), (14, _), (12, _), (11, _), (10, _), (8, _), (7, _), (6, _), (5, _), (4, _), (3, _), (2, _), (0, _), (1, _)] dL_sound_136 (by decide) rfl rfl ?_
                        refine g_goto X dL_sound_138 112 (by decide) ?_
                        refine ihk r hrk _ _ ?_ ?_
                        · rcases hrt with z | ⟨r2, hr2, z⟩
                          · exact Or.inl z
                          · exact Or.inr ⟨r2, hr2, by omega, z⟩
                        · refine Or.inr ⟨?_, ?_⟩
                          · rw [hBl.1]
                            exact (cnI_t (show (decide (i < u) && isIC f i u) = true from by rw [decide_eq_true hiu, hBl.2, decide_eq_true (nI_pos (by omega)), nI_clamp (by omega), inC_n (by omega), i123, isIC_q (by omega)]; rfl)).symm
                          · rcases hrt with z | ⟨r2, hr2, z⟩
                            · rw [z]; exact n6_lt (by omega)
                            · rw [z]; exact (nI_ltI (by omega) (by omega)).mpr (by omega)
                refine g_lv [0, 2, 1, 3, 4, 5, 6, 7, 8, 9, 10, 11, 12, 13, 14] [(15, _), (13, _), (14, _), (12, _), (11, _), (10, _), (8, _), (7, _), (6, _), (5, _), (4, _), (3, _), (2, _), (0, _), (1, _)] rfl ?_
                exact L112 mk (nI u) _ (Or.inr ⟨u, by omega, by omega, rfl⟩) (Or.inl ⟨rfl, by rw [nI_clamp (by omega), decide_eq_true (nI_pos (by omega)), inC_n (by omega)]; rfl⟩)
            refine g_lve [(14, .int (nI (i + 1))), (13, .int (nI (cnI (fun s => decide (i < s) && isIC f i s) (i + 1)))), (12, .int (nI (chN f (nI i)))), (11, .int (b2i (gd f i))), (10, .int (nI i)), (8, .long (lN (mskN (fun s => decide (ofM f s 0 = nI pg) && (gd f s && decide (hidM f s mk = 0))) i))), (7, .int (nI (cnI (fun s => gd f s && decide (ofM f s 0 = nI pg)) i))), (6, .int (nI pg)), (5, .int (nI (lgL f i))), (4, .int (lgI f i)), (3, .int (nI (cnI (gd f) i))), (2, .int (nI mk)), (0, .ref (a 19)), (1, .int (v))] (by rw [show cnI (fun s => decide (i < s) && isIC f i s) (i + 1) = 0 from cnI_0 (fun k hk => by rw [decide_eq_false (by omega), Bool.false_and])]; rfl) ?_
            exact L102 (mk - (i + 1)) (i + 1) (by omega) (by omega) rfl
          · obtain ⟨-, -, -, -, hrt, -, -⟩ := id (hst r hrm)
            refine g_iload X dL_sound_73 0 rfl rfl ?_
            refine g_if_lt X dL_sound_75 93 (by decide) rfl (fun h75 => absurd h75 (nI_pos (by omega))) (fun h75 => ?_)
            have i75 := nj_nlt (a := r) (b := 0) (by omega) (by omega) h75
            refine g_iinc (v := nI (c9 + 1)) X [(12, _), (13, _), (11, _), (10, _), (8, _), (7, _), (6, _), (5, _), (4, _), (3, _), (2, _), (0, _), (1, _)] dL_sound_78 1 rfl (nI_add c9 1) (by decide) rfl rfl ?_
            refine g_aload_n X dL_sound_81 rfl 11 rfl rfl ?_
            refine g_iload X dL_sound_82 1 rfl rfl ?_
            refine g_iconst (v := (4 : Int32)) X dL_sound_84 (by decide) rfl ?_
            refine g_callVRX (w0 := []) (n := 2) (As := [_, _]) (rest := []) X (c_X6_ofStamp l D a f na w td vl L pt fl kd kp fq fs tl mk n b hW hNR _ _) gL_sound_X6_ofStamp rfl (by decide +kernel) ⟨Nat.le_of_ble_eq_true rfl, Nat.le_of_ble_eq_true rfl⟩ 20 rfl rfl rfl rfl rfl (Nat.le_of_ble_eq_true rfl) dL_sound_85 ⟨Nat.le_of_ble_eq_true rfl, Nat.le_of_ble_eq_true rfl⟩ rfl (fun v hv => ?_)
            obtain rfl := hv
            refine g_st (st' := [_]) rfl ?_
            refine g_topi (oSt (q := r) 4 eN1 (by omega) hm40 rfl (by decide)) ?_
            refine g_istore X [(13, _), (12, _), (11, _), (10, _), (8, _), (7, _), (6, _), (5, _), (4, _), (3, _), (2, _), (0, _), (1, _)] dL_sound_88 (by decide) rfl rfl ?_
            refine g_goto X dL_sound_90 73 (by decide) ?_
            refine ihc (k - 1) (by omega) (c9 + 1) _ ?_ ?_
            · rcases hrt with z | ⟨r2, hr2, z⟩
              · exact Or.inl z
              · exact Or.inr ⟨r2, by omega, by omega, z⟩
            · rw [← hR, show k - 1 + 1 = k from by omega, chI, if_neg (nI_pos (by omega)), nI_clamp (by omega)]
        exact L73 40 0 (nI i) (Or.inr ⟨i, by omega, by omega, rfl⟩) rfl
    exact L52 mk 0 (by omega) rfl
  refine g_iload_n X dL_sound_15 rfl 5 rfl rfl ?_
  refine g_iconst (v := (2 : Int32)) X dL_sound_16 (by decide) rfl ?_
  refine g_callSR (n := 2) (As := [_, _]) (rest := []) X (c_L_up l D (v) 2 (by omega)) gL_sound_L_up rfl (by decide +kernel) ⟨Nat.le_of_ble_eq_true rfl, Nat.le_of_ble_eq_true rfl⟩ [] rfl rfl rfl rfl (Nat.le_of_ble_eq_true rfl) dL_sound_17 ⟨Nat.le_of_ble_eq_true rfl, Nat.le_of_ble_eq_true rfl⟩ rfl (fun v hv => ?_)
  obtain rfl := hv
  refine g_st (st' := [_]) rfl ?_
  refine g_upn (by omega) (fun u17 hu17 eu17 => ?_)
  refine g_if_ne X dL_sound_20 33 (by decide) rfl (fun h20 => ?_) (fun h20 => ?_)
  · have i20 := nj_ne (a := u17) (b := 0) (by omega) (by omega) h20
    refine g_iload_n X dL_sound_33 rfl 5 rfl rfl ?_
    refine g_iconst (v := (1 : Int32)) X dL_sound_34 (by decide) rfl ?_
    refine g_ishr X dL_sound_35 rfl ?_
    refine g_bipush (v := (12 : Int32)) X dL_sound_36 (by decide) rfl ?_
    refine g_callSR (n := 2) (As := [_, _]) (rest := []) X (c_L_up l D ((v >>> ((1 : Int32) &&& 31))) 12 (by omega)) gL_sound_L_up rfl (by decide +kernel) ⟨Nat.le_of_ble_eq_true rfl, Nat.le_of_ble_eq_true rfl⟩ [] rfl rfl rfl rfl (Nat.le_of_ble_eq_true rfl) dL_sound_38 ⟨Nat.le_of_ble_eq_true rfl, Nat.le_of_ble_eq_true rfl⟩ rfl (fun v hv => ?_)
    obtain rfl := hv
    refine g_st (st' := [_]) rfl ?_
    refine g_upn (by omega) (fun u38 hu38 eu38 => ?_)
    exact L41 _ (by omega)
  · have i20 := nj_eq (a := u17) (b := 0) (by omega) (by omega) h20
    refine g_iload_n X dL_sound_23 rfl 5 rfl rfl ?_
    refine g_iconst (v := (1 : Int32)) X dL_sound_24 (by decide) rfl ?_
    refine g_ishr X dL_sound_25 rfl ?_
    refine g_iconst (v := (2 : Int32)) X dL_sound_26 (by decide) rfl ?_
    refine g_callSR (n := 2) (As := [_, _]) (rest := []) X (c_L_up l D ((v >>> ((1 : Int32) &&& 31))) 2 (by omega)) gL_sound_L_up rfl (by decide +kernel) ⟨Nat.le_of_ble_eq_true rfl, Nat.le_of_ble_eq_true rfl⟩ [] rfl rfl rfl rfl (Nat.le_of_ble_eq_true rfl) dL_sound_27 ⟨Nat.le_of_ble_eq_true rfl, Nat.le_of_ble_eq_true rfl⟩ rfl (fun v hv => ?_)
    obtain rfl := hv
    refine g_st (st' := [_]) rfl ?_
    refine g_upn (by omega) (fun u27 hu27 eu27 => ?_)
    refine g_goto X dL_sound_30 41 (by decide) ?_
    exact L41 _ (by omega)
