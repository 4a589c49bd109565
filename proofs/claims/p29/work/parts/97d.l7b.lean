set_option maxHeartbeats 4000000 in
set_option maxRecDepth 100000 in
theorem c_L_back (l : Launch) (D : DT) (a : Nat → Nat) (f : Nat → Int32) (na : Nat → Nat → Int32) (w td vl : Nat → Int32) (L pt fl : Nat) (kd : Int32) (kp : Nat) (pq ps : Nat → Option HH) (mk n b : Nat) (hW : WF f mk n b) (hNR : NR f na n) (hF : FB f) (hkp : kp ≤ 6) (l9 : List (Nat → Int32)) (hHL : HL kp pq l9) (cr : Nat) (hcr : cr ≤ 1000) (hS : SI cr f) (hL : L ≤ 80) (hch : ∀ k, k < L → ∃ ch : Nat, ch < 256 ∧ td k = nI ch) (hps : ∀ q, q < 2 → ps q = none) (vv : Int32) : MW l yL_back wsL_back 6 145 144 3060 D [.ref (a 19), .int (vv)] (wB D a f na w td vl L pt fl kd kp (fqa pq) (fqa ps) (tlW D pq ps)) (fun v w9 => v = some (.int 1) ∧ ∃ (na' : Nat → Nat → Int32) (w' td' vl' : Nat → Int32) (L' pt' fl' : Nat) (kd' : Int32) (kp' : Nat) (pq' ps' : Nat → Option HH), NRx f na' ∧ AD w9 (wB D a f na w td vl L pt fl kd kp (fqa pq) (fqa ps) (tlW D pq ps)) ∧ w9 = wC D a f na' w' td' vl' L' pt' fl' kd' kp' pq' ps') := by
  obtain ⟨hmk, hm40, hn8, hb0, hb01, hb08, hn8b, hst, hno, how, hdo, hb0a, hb0c, hb0d, hb0z⟩ := id hW
  have hm8 : n ≤ 8 := by omega
  obtain ⟨eN1, eN2, -⟩ := hW.N
  refine MW.of (cc := cL_back) (maxL := 7) (ret := (some .boolean)) (lv := [(0, .ref (a 19)), (1, .int (vv))]) (by decide +kernel) rfl (Nat.le_of_ble_eq_true rfl) rfl ?_
  intro p e s m below meth c A hAe hAg X hr hmn
  refine g_aload_n X dL_back_0 rfl 0 rfl rfl ?_
  refine g_callSRX (w0 := []) (n := 1) (As := [_]) (rest := []) X (c_L_print l D a f na w td vl L pt fl kd kp (fqa pq) (fqa ps) (tlW D pq ps) mk n b hW hNR) gL_back_L_print rfl (by decide +kernel) ⟨Nat.le_of_ble_eq_true rfl, Nat.le_of_ble_eq_true rfl⟩ rfl rfl rfl (Nat.le_of_ble_eq_true rfl) dL_back_1 ⟨Nat.le_of_ble_eq_true rfl, Nat.le_of_ble_eq_true rfl⟩ rfl (fun v hv => ?_)
  obtain rfl := hv
  refine g_st (st' := [_]) rfl ?_
  refine g_lstore_n X [(2, _), (0, _), (1, _)] dL_back_4 rfl (by decide) rfl rfl ?_
  refine g_aload_n X dL_back_5 rfl 1 rfl rfl ?_
  refine g_iconst (v := (0 : Int32)) X dL_back_6 (by decide) rfl ?_
  refine g_callVRX (w0 := []) (n := 1) (As := [_]) (rest := []) X (c_X6_count l D a f na w td vl L pt fl kd kp (fqa pq) (fqa ps) (tlW D pq ps) mk n b hW hNR _) gL_back_X6_count rfl (by decide +kernel) ⟨Nat.le_of_ble_eq_true rfl, Nat.le_of_ble_eq_true rfl⟩ 20 rfl rfl rfl rfl rfl (Nat.le_of_ble_eq_true rfl) dL_back_7 ⟨Nat.le_of_ble_eq_true rfl, Nat.le_of_ble_eq_true rfl⟩ rfl (fun v hv => ?_)
  obtain rfl := hv
  refine g_st (st' := [_]) rfl ?_
  refine g_topi (oC0.trans hmk) ?_
  refine g_istore X [(4, _), (2, _), (0, _), (1, _)] dL_back_10 (by decide) rfl rfl ?_
  refine g_aload_n X dL_back_12 rfl 2 rfl rfl ?_
  refine g_iload_n X dL_back_13 rfl 3 rfl rfl ?_
  refine g_iconst (v := (2 : Int32)) X dL_back_14 (by decide) rfl ?_
  refine g_callSR (n := 2) (As := [_, _]) (rest := [_]) X (c_L_up l D (vv) 2 (by omega)) gL_back_L_up rfl (by decide +kernel) ⟨Nat.le_of_ble_eq_true rfl, Nat.le_of_ble_eq_true rfl⟩ [] rfl rfl rfl rfl (Nat.le_of_ble_eq_true rfl) dL_back_15 ⟨Nat.le_of_ble_eq_true rfl, Nat.le_of_ble_eq_true rfl⟩ rfl (fun v hv => ?_)
  obtain rfl := hv
  refine g_st (st' := [_, _]) rfl ?_
  refine g_upn (by omega) (fun u15 hu15 eu15 => ?_)
  refine g_callVXs (n := 1) (As := [_]) (rest := []) X hAg rfl (c_X6_save l D a f na w td vl L pt fl kd kp pq ps hF _) gL_back_X6_save rfl (by decide +kernel) ⟨Nat.le_of_ble_eq_true rfl, Nat.le_of_ble_eq_true rfl⟩ 20 rfl rfl rfl rfl (Nat.le_of_ble_eq_true rfl) dL_back_18 ⟨Nat.le_of_ble_eq_true rfl, Nat.le_of_ble_eq_true rfl⟩ rfl (fun v w9 hv => ?_)
  obtain ⟨hADS, hv⟩ := hv
  rcases hv with hv | ⟨hr2, -⟩
  rotate_left
  · exact absurd (rng_nI' hu15 (by omega)) (by rw [hr2]; exact Bool.false_ne_true)
  obtain ⟨-, rfl, bS, rfl⟩ := hv
  obtain ⟨psS, hpsS⟩ : ∃ z, up ps (nI u15).toNatClampNeg (some (bS, f, na)) = z := ⟨_, rfl⟩
  rw [hpsS] at hADS ⊢
  rw [nI_clamp (by omega)] at hpsS
  refine ⟨hADS, ?_⟩
  refine g_st (st' := [_]) rfl ?_
  refine g_topi (hmk) ?_
  have hp1 : psS u15 = some (bS, f, na) := by rw [← hpsS, up_s]
  have hp0 : ∀ q, q < 2 → q ≠ u15 → psS q = none := fun q hq hne => by rw [← hpsS, up_n _ _ hne]; exact hps q hq
  have hFs : ∀ q, q < 2 → ∀ h : HH, psS q = some h → FB h.2.1 := by
    intro q hq h e
    by_cases hz : q = u15
    · rw [hz, hp1] at e
      cases e
      exact hF
    · rw [hp0 q hq hz] at e
      cases e
  refine g_iload X dL_back_21 0 rfl rfl ?_
  refine g_icmp_eq X dL_back_23 28 (by decide) rfl (fun h23 => ?_) (fun h23 => absurd rfl h23)
  refine g_iconst (v := (2 : Int32)) X dL_back_28 (by decide) rfl ?_
  refine g_istore X [(5, _), (4, _), (2, _), (0, _), (1, _)] dL_back_29 (by decide) rfl rfl ?_
  refine g_aload_n X dL_back_31 rfl 3 rfl rfl ?_
  refine g_iconst (v := (0 : Int32)) X dL_back_32 (by decide) rfl ?_
  refine g_iload_n X dL_back_33 rfl 4 rfl rfl ?_
  refine g_iconst (v := (1 : Int32)) X dL_back_34 (by decide) rfl ?_
  refine g_ishr X dL_back_35 rfl ?_
  refine g_bipush (v := (6 : Int32)) X dL_back_36 (by decide) rfl ?_
  refine g_callSR (n := 2) (As := [_, _]) (rest := [_, _]) X (c_L_up l D ((vv >>> ((1 : Int32) &&& 31))) 6 (by omega)) gL_back_L_up rfl (by decide +kernel) ⟨Nat.le_of_ble_eq_true rfl, Nat.le_of_ble_eq_true rfl⟩ [] rfl rfl rfl rfl (Nat.le_of_ble_eq_true rfl) dL_back_38 ⟨Nat.le_of_ble_eq_true rfl, Nat.le_of_ble_eq_true rfl⟩ rfl (fun v hv => ?_)
  obtain rfl := hv
  refine g_st (st' := [_, _, _]) rfl ?_
  refine g_upn (by omega) (fun u38 hu38 eu38 => ?_)
  refine g_callVXs (n := 2) (As := [_, _]) (rest := []) X hAg rfl (c_X6_own l D a f na w td vl L pt fl kd kp pq psS mk n b hW hNR hF hkp hHL.hq _ _) gL_back_X6_own rfl (by decide +kernel) ⟨Nat.le_of_ble_eq_true rfl, Nat.le_of_ble_eq_true rfl⟩ 20 rfl rfl rfl rfl (Nat.le_of_ble_eq_true rfl) dL_back_41 ⟨Nat.le_of_ble_eq_true rfl, Nat.le_of_ble_eq_true rfl⟩ rfl (fun v w9 hv => ?_)
  obtain ⟨rfl, fP, naP, wP, kpP, pqP, efP, hNP, hAP, hkpP, hHLP, ekP, rfl⟩ := ch_out hv hkp hHL hF ⟨_, hNR, hn8⟩
  have hADP := hAP.trans hADS
  refine ⟨hAP, ?_⟩
  refine g_st (st' := [_]) rfl ?_
  obtain ⟨mkP, nP, bP, hWP⟩ : WFx fP := by rw [efP]; exact own_ok ⟨mk, n, b, hW⟩
  have hSP : SI (cr + 1) fP := by rw [efP]; exact own_si (p := 0) hW (SI_le (Nat.le_succ _) hS) (by omega) hu38
  have hge : (0 : Int32) ≤ (ownS f 0 (nI u38)).1 := own_ge (p := 0) hW hS (by omega) hu38
  have hNRP := hNP.to hWP
  have hFP : FB fP := by rw [efP]; exact own_fb ⟨mk, n, b, hW⟩ hF
  obtain ⟨hmkP, hm40P, hn8P, hb0P, hb0P1, hb0P8, hn8Pb, hstP, hnoP, howP, hdoP, hb0Pa, hb0Pc, hb0Pd, hb0Pz⟩ := id hWP
  have hm8P : nP ≤ 8 := by omega
  obtain ⟨eN1P, eN2P, -⟩ := hWP.N
  have hHp : HL kpP pqP (f :: List.take 5 l9) := hN_t hge hHLP
  refine g_if_lt X dL_back_44 54 (by decide) rfl (fun h44 => absurd h44 (Int32.not_lt.mpr hge)) (fun h44 => ?_)
  refine g_aload_n X dL_back_47 rfl 3 rfl rfl ?_
  refine g_callVXs (n := 0) (As := []) (rest := []) X hAg rfl (c_X6_flush l D a fP naP wP td vl L pt fl kd kpP pqP psS mkP nP bP hWP hNRP hFP hkpP hHp.hq ) gL_back_X6_flush rfl (by decide +kernel) ⟨Nat.le_of_ble_eq_true rfl, Nat.le_of_ble_eq_true rfl⟩ 20 rfl rfl rfl rfl (Nat.le_of_ble_eq_true rfl) dL_back_48 ⟨Nat.le_of_ble_eq_true rfl, Nat.le_of_ble_eq_true rfl⟩ rfl (fun v w9 hv => ?_)
  obtain ⟨rfl, fQ, naQ, wQ, kpQ, pqQ, efQ, hNQ, hAQ, hkpQ, hHLQ, ekQ, rfl⟩ := ch_out hv hkpP hHp hFP ⟨_, hNRP, hn8P⟩
  have hADQ := hAQ.trans hADP
  refine ⟨hAQ, ?_⟩
  refine g_st (st' := [_]) rfl ?_
  obtain ⟨hrxQ, hWQ, hSQ, -⟩ := flush_chg hWP hSP efQ
  refine g_topi (hrxQ) ?_
  have hNRQ := hNQ.to hWQ
  have hFQ : FB fQ := by rw [efQ]; exact flush_fb hFP
  obtain ⟨hmkQ, hm40Q, hn8Q, hb0Q, hb0Q1, hb0Q8, hn8Qb, hstQ, hnoQ, howQ, hdoQ, hb0Qa, hb0Qc, hb0Qd, hb0Qz⟩ := id hWQ
  have hm8Q : 0 ≤ 8 := by omega
  obtain ⟨eN1Q, eN2Q, -⟩ := hWQ.N
  have hHq : HL kpQ pqQ (fP :: f :: List.take 4 (List.take 5 l9)) := hN_t (by rw [hrxQ]; exact nI_ge0 (by omega)) hHLQ
  refine g_if_ge X dL_back_51 56 (by decide) rfl (fun h51 => ?_) (fun h51 => absurd (nI_ge0 (by omega)) h51)
  have i51 := nj_le (a := 0) (b := nP) (by omega) (by omega) h51
  have L114 : ∀ (ii kk dn : Nat) (hki : kk + ii = dn) (hdn : dn ≤ 5) (gL : Nat → Int32) (nbL : Nat → Nat → Int32) (wL : Nat → Int32) (kpL9 : Nat) (pqL : Nat → Option HH) (lL : List (Nat → Int32)) (hkpL : kpL9 ≤ 6) (hHLL : HL kpL9 pqL lL) (hli : (gL :: lL)[ii]? = some f) (hNL : NRx gL nbL) (hADL : AD (wB D a gL nbL wL td vl L pt fl kd kpL9 (fqa pqL) (fqa psS) (tlW D pqL psS)) (wB D a f na w td vl L pt fl kd kp (fqa pq) (fqa ps) (tlW D pq ps))), GG p l e (wRoom 6 145 144 3060) s m ([.ref (a 19), .int (vv)] : List Value).toArray below meth c D A 7 false 96 2040 (MQ below (wrQ D (wB D a f na w td vl L pt fl kd kp (fqa pq) (fqa ps) (tlW D pq ps)) s.heap.size (fun v w9 => v = some (.int 1) ∧ ∃ (na' : Nat → Nat → Int32) (w' td' vl' : Nat → Int32) (L' pt' fl' : Nat) (kd' : Int32) (kp' : Nat) (pq' ps' : Nat → Option HH), NRx f na' ∧ AD w9 (wB D a f na w td vl L pt fl kd kp (fqa pq) (fqa ps) (tlW D pq ps)) ∧ w9 = wC D a f na' w' td' vl' L' pt' fl' kd' kp' pq' ps')) ([.ref (a 19), .int (vv)] : List Value).toArray s 144 3060 (va_A (wB D a f na w td vl L pt fl kd kp (fqa pq) (fqa ps) (tlW D pq ps)) s.heap.size)) (wB D a gL nbL wL td vl L pt fl kd kpL9 (fqa pqL) (fqa psS) (tlW D pqL psS)) 114 [(6, .int (nI kk)), (5, .int (nI dn)), (4, .int (nI mk)), (2, .long (prS f)), (0, .ref (a 19)), (1, .int (vv))] [] := by
    intro ii
    induction ii using Nat.strongRecOn with
    | _ ii ih =>
    intro kk dn hki hdn gL nbL wL kpL9 pqL lL hkpL hHLL hli hNL hADL
    refine g_iload X dL_back_114 0 rfl rfl ?_
    refine g_iload X dL_back_116 1 rfl rfl ?_
    refine g_icmp_ge X dL_back_118 136 (by decide) rfl (fun h118 => ?_) (fun h118 => ?_)
    · have i118 := nj_le (a := dn) (b := kk) (by omega) (by omega) h118
      obtain rfl : ii = 0 := by omega
      have eg : f = gL := by simpa using hli.symm
      subst eg
      have hNRu := hNL.to hW
      refine g_aload_n X dL_back_136 rfl 4 rfl rfl ?_
      refine g_callSRX (w0 := []) (n := 1) (As := [_]) (rest := []) X (c_L_print l D a f nbL wL td vl L pt fl kd kpL9 (fqa pqL) (fqa psS) (tlW D pqL psS) mk n b hW hNRu) gL_back_L_print rfl (by decide +kernel) ⟨Nat.le_of_ble_eq_true rfl, Nat.le_of_ble_eq_true rfl⟩ rfl rfl rfl (Nat.le_of_ble_eq_true rfl) dL_back_137 ⟨Nat.le_of_ble_eq_true rfl, Nat.le_of_ble_eq_true rfl⟩ rfl (fun v hv => ?_)
      obtain rfl := hv
      refine g_st (st' := [_]) rfl ?_
      refine g_lload_n X dL_back_140 rfl 3 rfl rfl ?_
      refine g_lcmp X dL_back_141 rfl ?_
      refine g_if_eq X dL_back_142 147 (by decide) rfl (fun h142 => ?_) (fun h142 => absurd (lg_self _) h142)
      refine g_aload_n X dL_back_147 rfl 4 rfl rfl ?_
      refine g_iconst (v := (5 : Int32)) X dL_back_148 (by decide) rfl ?_
      refine g_bipush (v := (9 : Int32)) X dL_back_149 (by decide) rfl ?_
      refine g_iconst (v := (2 : Int32)) X dL_back_151 (by decide) rfl ?_
      refine g_callVXs (n := 3) (As := [_, _, _]) (rest := []) X hAg rfl (c_X6_come l D a f nbL wL td vl L pt fl kd kpL9 pqL psS mk n b hW hNRu hF hkpL hHLL.hq _ _ _) gL_back_X6_come rfl (by decide +kernel) ⟨Nat.le_of_ble_eq_true rfl, Nat.le_of_ble_eq_true rfl⟩ 20 rfl rfl rfl rfl (Nat.le_of_ble_eq_true rfl) dL_back_152 ⟨Nat.le_of_ble_eq_true rfl, Nat.le_of_ble_eq_true rfl⟩ rfl (fun v w9 hv => ?_)
      obtain ⟨rfl, fX, naX, wX, kpX, pqX, efX, hNX, hAX, hkpX, hHLX, ekX, rfl⟩ := ch_out hv hkpL hHLL hF ⟨_, hNRu, hn8⟩
      have hADX := hAX.trans hADL
      refine ⟨hAX, ?_⟩
      refine g_st (st' := [_]) rfl ?_
      obtain ⟨mkX, nX, bX, hWX⟩ : WFx fX := by rw [efX]; exact come_ok ⟨mk, n, b, hW⟩
      have hNRX := hNX.to hWX
      have hFX : FB fX := by rw [efX]; exact come_fb ⟨mk, n, b, hW⟩ hF
      obtain ⟨hmkX, hm40X, hn8X, hb0X, hb0X1, hb0X8, hn8Xb, hstX, hnoX, howX, hdoX, hb0Xa, hb0Xc, hb0Xd, hb0Xz⟩ := id hWX
      have hm8X : nX ≤ 8 := by omega
      obtain ⟨eN1X, eN2X, -⟩ := hWX.N
      refine g_pop X dL_back_155 rfl rfl ?_
      refine g_aload_n X dL_back_156 rfl 4 rfl rfl ?_
      refine g_iload_n X dL_back_157 rfl 5 rfl rfl ?_
      refine g_iconst (v := (2 : Int32)) X dL_back_158 (by decide) rfl ?_
      refine g_callSR (n := 2) (As := [_, _]) (rest := [_]) X (c_L_up l D (vv) 2 (by omega)) gL_back_L_up rfl (by decide +kernel) ⟨Nat.le_of_ble_eq_true rfl, Nat.le_of_ble_eq_true rfl⟩ [] rfl rfl rfl rfl (Nat.le_of_ble_eq_true rfl) dL_back_159 ⟨Nat.le_of_ble_eq_true rfl, Nat.le_of_ble_eq_true rfl⟩ rfl (fun v hv => ?_)
      obtain rfl := hv
      refine g_st (st' := [_, _]) rfl ?_
      refine g_upn (by omega) (fun u159 hu159 eu159 => ?_)
      refine g_callVXs (n := 1) (As := [_]) (rest := []) X hAg rfl (c_X6_restore l D a fX naX wX td vl L pt fl kd kpX pqX psS hFX hkpX hHLX.hq hFs _) gL_back_X6_restore rfl (by decide +kernel) ⟨Nat.le_of_ble_eq_true rfl, Nat.le_of_ble_eq_true rfl⟩ 20 rfl rfl rfl rfl (Nat.le_of_ble_eq_true rfl) dL_back_162 ⟨Nat.le_of_ble_eq_true rfl, Nat.le_of_ble_eq_true rfl⟩ rfl (fun v w9 hv => ?_)
      obtain ⟨hAY, hv⟩ := hv
      have eu : u159 = u15 := by omega
      subst eu
      rw [nI_clamp (by omega)] at hv
      rcases hv with ⟨hr2, -⟩ | ⟨-, hz, -⟩ | ⟨-, bR, gR, nbR, b0, hz, rfl, rfl⟩
      · exact absurd (rng_nI' hu159 (by omega)) (by rw [hr2]; exact Bool.false_ne_true)
      · rw [hp1] at hz; cases hz
      rw [hp1] at hz
      cases hz
      obtain ⟨kpY, pqY, ekY, epY, hkpY, hHLY⟩ := co_hist (b0 := b0) (x := f 76) (by rw [hmk]; exact nI_ge0 (by omega)) hHLX hkpX hFX ⟨nX, hNRX, hn8X⟩
      rw [ekY, epY] at hAY ⊢
      refine ⟨hAY, ?_⟩
      refine g_st (st' := [_]) rfl ?_
      refine g_topi (hmk) ?_
      have hADY := hAY.trans hADX
      refine g_iload X dL_back_165 2 rfl rfl ?_
      refine g_icmp_ne X dL_back_167 199 (by decide) rfl (fun h167 => absurd rfl h167) (fun h167 => ?_)
      refine g_aload_n X dL_back_170 rfl 4 rfl rfl ?_
      refine g_callSRX (w0 := []) (n := 1) (As := [_]) (rest := []) X (c_L_print l D a f na wX td vl L pt fl kd kpY (fqa pqY) (fqa psS) (tlW D pqY psS) mk n b hW hNR) gL_back_L_print rfl (by decide +kernel) ⟨Nat.le_of_ble_eq_true rfl, Nat.le_of_ble_eq_true rfl⟩ rfl rfl rfl (Nat.le_of_ble_eq_true rfl) dL_back_171 ⟨Nat.le_of_ble_eq_true rfl, Nat.le_of_ble_eq_true rfl⟩ rfl (fun v hv => ?_)
      obtain rfl := hv
      refine g_st (st' := [_]) rfl ?_
      refine g_lload_n X dL_back_174 rfl 3 rfl rfl ?_
      refine g_lcmp X dL_back_175 rfl ?_
      refine g_if_ne X dL_back_176 199 (by decide) rfl (fun h176 => absurd (lg_self _) h176) (fun h176 => ?_)
      refine g_aload_n X dL_back_179 rfl 4 rfl rfl ?_
      refine g_iconst (v := (1 : Int32)) X dL_back_180 (by decide) rfl ?_
      refine g_iload_n X dL_back_181 rfl 5 rfl rfl ?_
      refine g_iconst (v := (2 : Int32)) X dL_back_182 (by decide) rfl ?_
      refine g_callSR (n := 2) (As := [_, _]) (rest := [_, _]) X (c_L_up l D (vv) 2 (by omega)) gL_back_L_up rfl (by decide +kernel) ⟨Nat.le_of_ble_eq_true rfl, Nat.le_of_ble_eq_true rfl⟩ [] rfl rfl rfl rfl (Nat.le_of_ble_eq_true rfl) dL_back_183 ⟨Nat.le_of_ble_eq_true rfl, Nat.le_of_ble_eq_true rfl⟩ rfl (fun v hv => ?_)
      obtain rfl := hv
      refine g_st (st' := [_, _, _]) rfl ?_
      refine g_upn (by omega) (fun u183 hu183 eu183 => ?_)
      refine g_isub X dL_back_186 rfl ?_
      refine g_topi (y := nI (1 - u183)) (pk_sub (a := 1) (b := u183) (by omega)) ?_
      refine g_callVXs (n := 1) (As := [_]) (rest := []) X hAg rfl (c_X6_restore l D a f na wX td vl L pt fl kd kpY pqY psS hF hkpY hHLY.hq hFs _) gL_back_X6_restore rfl (by decide +kernel) ⟨Nat.le_of_ble_eq_true rfl, Nat.le_of_ble_eq_true rfl⟩ 20 rfl rfl rfl rfl (Nat.le_of_ble_eq_true rfl) dL_back_187 ⟨Nat.le_of_ble_eq_true rfl, Nat.le_of_ble_eq_true rfl⟩ rfl (fun v w9 hv => ?_)
      obtain ⟨-, hv⟩ := hv
      rw [nI_clamp (by omega)] at hv
      rcases hv with ⟨hr2, -⟩ | ⟨-, hz, rfl, rfl⟩ | ⟨-, bR, gR, nbR, b0R, hz, -⟩
      · exact absurd (rng_nI' (n := 2) (r := 1 - u183) (by omega) (by omega)) (by rw [hr2]; exact Bool.false_ne_true)
      rotate_left
      · rw [hp0 (1 - u183) (by omega) (by omega)] at hz; cases hz
      refine ⟨AD.rf rfl, ?_⟩
      refine g_st (st' := [_]) rfl ?_
      refine g_bipush (v := ((-5) : Int32)) X dL_back_190 (by decide) rfl ?_
      refine g_icmp_ne X dL_back_192 199 (by decide) rfl (fun h192 => absurd h192 (by decide)) (fun h192 => ?_)
      refine g_iconst (v := (1 : Int32)) X dL_back_195 (by decide) rfl ?_
      refine g_goto X dL_back_196 200 (by decide) ?_
      refine g_retW X hr (by first | rfl | exact b2i_nar _) dL_back_200 hAe ?_
      exact ⟨rfl, na, wX, td, vl, L, pt, fl, kd, kpY, pqY, psS, ⟨n, hNR, hn8⟩, hADY, rfl⟩
    · have i118 := nj_nle (a := dn) (b := kk) (by omega) (by omega) h118
      obtain ⟨z9, rfl⟩ : ∃ z, ii = z + 1 := ⟨ii - 1, by omega⟩
      obtain ⟨g2, l2, rfl⟩ : ∃ g2 l2, lL = g2 :: l2 := by
        cases lL with
        | nil => simp at hli
        | cons x y => exact ⟨x, y, rfl⟩
      refine g_aload_n X dL_back_121 rfl 4 rfl rfl ?_
      refine g_callVXs (n := 0) (As := []) (rest := []) X hAg rfl (c_X6_undo l D a gL nbL wL td vl L pt fl kd kpL9 pqL psS hkpL hHLL.hq hHLL.fb) gL_back_X6_undo rfl (by decide +kernel) ⟨Nat.le_of_ble_eq_true rfl, Nat.le_of_ble_eq_true rfl⟩ 20 rfl rfl rfl rfl (Nat.le_of_ble_eq_true rfl) dL_back_122 ⟨Nat.le_of_ble_eq_true rfl, Nat.le_of_ble_eq_true rfl⟩ rfl (fun v w9 hv => ?_)
      obtain ⟨r9, rfl, hv⟩ := hv
      obtain ⟨hk1, hpp, hHL3⟩ := hHLL.pop
      rcases hv with ⟨hk0, -, -⟩ | ⟨-, rfl, bU, gU, nb3, hpU, rfl⟩
      · omega
      obtain ⟨eg, hN3, -⟩ := hpp _ _ _ hpU
      replace eg := eg.symm
      subst eg
      refine ⟨AD.rf rfl, ?_⟩
      refine g_st (st' := [_]) rfl ?_
      have hk3 : kpL9 - 1 ≤ 6 := by omega
      have hAD3 : AD (wB D a g2 nb3 wL td vl L pt fl kd (kpL9 - 1) (fqa pqL) (fqa psS) (tlW D pqL psS)) (wB D a f na w td vl L pt fl kd kp (fqa pq) (fqa ps) (tlW D pq ps)) := AD.trans (v := wB D a gL nbL wL td vl L pt fl kd kpL9 (fqa pqL) (fqa psS) (tlW D pqL psS)) (AD.rf rfl) hADL
      refine g_if_ge X dL_back_125 130 (by decide) rfl (fun h125 => ?_) (fun h125 => absurd (nI_ge0 (by omega)) h125)
      have i125 := nj_le (a := 0) (b := (kpL9 - 1)) (by omega) (by omega) h125
      refine g_iinc (v := nI (kk + 1)) X [(6, _), (5, _), (4, _), (2, _), (0, _), (1, _)] dL_back_130 0 rfl (nI_add kk 1) (by decide) rfl rfl ?_
      refine g_goto X dL_back_133 114 (by decide) ?_
      exact ih z9 (by omega) (kk + 1) dn (by omega) hdn _ _ _ _ _ _ hk3 hHL3 (by simpa using hli) hN3 hAD3
  refine g_aload_n X dL_back_56 rfl 3 rfl rfl ?_
  refine g_iconst (v := (0 : Int32)) X dL_back_57 (by decide) rfl ?_
  refine g_iconst (v := (1 : Int32)) X dL_back_58 (by decide) rfl ?_
  refine g_iconst (v := (2 : Int32)) X dL_back_59 (by decide) rfl ?_
  refine g_iconst (v := (3 : Int32)) X dL_back_60 (by decide) rfl ?_
  refine g_bipush (v := ((-6) : Int32)) X dL_back_61 (by decide) rfl ?_
  refine g_callVXs (n := 5) (As := [_, _, _, _, _]) (rest := []) X hAg rfl (c_X6_forge l D a fQ naQ wQ td vl L pt fl kd kpQ pqQ psS mkP 0 bP hWQ hNRQ hFQ hkpQ hHq.hq _ _ _ _ _) gL_back_X6_forge rfl (by decide +kernel) ⟨Nat.le_of_ble_eq_true rfl, Nat.le_of_ble_eq_true rfl⟩ 20 rfl rfl rfl rfl (Nat.le_of_ble_eq_true rfl) dL_back_63 ⟨Nat.le_of_ble_eq_true rfl, Nat.le_of_ble_eq_true rfl⟩ rfl (fun v w9 hv => ?_)
  obtain ⟨rfl, fG, naG, wG, kpG, pqG, efG, hNG, hAG, hkpG, hHLG, ekG, rfl⟩ := ch_out hv hkpQ hHq hFQ ⟨_, hNRQ, hn8Q⟩
  have hADG := hAG.trans hADQ
  refine ⟨hAG, ?_⟩
  refine g_st (st' := [_]) rfl ?_
  obtain ⟨mkG, nG, bG, hWG⟩ : WFx fG := by rw [efG]; exact forge_ok ⟨mkP, 0, bP, hWQ⟩
  have hSG : SI (cr + 1) fG := by rw [efG]; exact forge_si (gv := 0) (hd := 1) (pg := 2) (rt := 3) hWQ hSQ (by omega) (by omega) (by omega) (by omega)
  have hNRG := hNG.to hWG
  have hFG : FB fG := by rw [efG]; exact forge_fb  hFQ
  obtain ⟨hmkG, hm40G, hn8G, hb0G, hb0G1, hb0G8, hn8Gb, hstG, hnoG, howG, hdoG, hb0Ga, hb0Gc, hb0Gd, hb0Gz⟩ := id hWG
  have hm8G : nG ≤ 8 := by omega
  obtain ⟨eN1G, eN2G, -⟩ := hWG.N
  refine g_if_lt X dL_back_66 72 (by decide) rfl (fun h66 => ?_) (fun h66 => ?_)
  · have hHrf : HL kpG pqG (fP :: f :: (List.take 4 (List.take 5 l9))) := hN_f h66 hHLG
    refine g_aload_n X dL_back_72 rfl 3 rfl rfl ?_
    refine g_iload_n X dL_back_73 rfl 4 rfl rfl ?_
    refine g_iconst (v := (4 : Int32)) X dL_back_74 (by decide) rfl ?_
    refine g_ishr X dL_back_75 rfl ?_
    refine g_bipush (v := (40 : Int32)) X dL_back_76 (by decide) rfl ?_
    refine g_callSR (n := 2) (As := [_, _]) (rest := [_]) X (c_L_up l D ((vv >>> ((4 : Int32) &&& 31))) 40 (by omega)) gL_back_L_up rfl (by decide +kernel) ⟨Nat.le_of_ble_eq_true rfl, Nat.le_of_ble_eq_true rfl⟩ [] rfl rfl rfl rfl (Nat.le_of_ble_eq_true rfl) dL_back_78 ⟨Nat.le_of_ble_eq_true rfl, Nat.le_of_ble_eq_true rfl⟩ rfl (fun v hv => ?_)
    obtain rfl := hv
    refine g_st (st' := [_, _]) rfl ?_
    refine g_upn (by omega) (fun u78 hu78 eu78 => ?_)
    refine g_callVXs (n := 1) (As := [_]) (rest := []) X hAg rfl (c_X6_takeBack l D a fG naG wG td vl L pt fl kd kpG pqG psS mkG nG bG hWG hNRG hFG hkpG hHrf.hq _) gL_back_X6_takeBack rfl (by decide +kernel) ⟨Nat.le_of_ble_eq_true rfl, Nat.le_of_ble_eq_true rfl⟩ 20 rfl rfl rfl rfl (Nat.le_of_ble_eq_true rfl) dL_back_81 ⟨Nat.le_of_ble_eq_true rfl, Nat.le_of_ble_eq_true rfl⟩ rfl (fun v w9 hv => ?_)
    obtain ⟨rfl, fT, naT, wT, kpT, pqT, efT, hNT, hAT, hkpT, hHLT, ekT, rfl⟩ := ch_out hv hkpG hHrf hFG ⟨_, hNRG, hn8G⟩
    have hADT := hAT.trans hADG
    refine ⟨hAT, ?_⟩
    refine g_st (st' := [_]) rfl ?_
    obtain ⟨mkT, nT, bT, hWT⟩ : WFx fT := by rw [efT]; exact take_ok ⟨mkG, nG, bG, hWG⟩
    have hST : SI (cr + 1) fT := by rw [efT]; exact take_si hWG hSG hu78
    have hNRT := hNT.to hWT
    have hFT : FB fT := by rw [efT]; exact take_fb ⟨mkG, nG, bG, hWG⟩ hFG
    obtain ⟨hmkT, hm40T, hn8T, hb0T, hb0T1, hb0T8, hn8Tb, hstT, hnoT, howT, hdoT, hb0Ta, hb0Tc, hb0Td, hb0Tz⟩ := id hWT
    have hm8T : nT ≤ 8 := by omega
    obtain ⟨eN1T, eN2T, -⟩ := hWT.N
    refine g_if_lt X dL_back_84 90 (by decide) rfl (fun h84 => ?_) (fun h84 => ?_)
    · have hHtf : HL kpT pqT (fP :: f :: (List.take 4 (List.take 5 l9))) := hN_f h84 hHLT
      refine g_aload_n X dL_back_90 rfl 3 rfl rfl ?_
      refine g_iload_n X dL_back_91 rfl 4 rfl rfl ?_
      refine g_bipush (v := (6 : Int32)) X dL_back_92 (by decide) rfl ?_
      refine g_ishr X dL_back_94 rfl ?_
      refine g_bipush (v := (6 : Int32)) X dL_back_95 (by decide) rfl ?_
      refine g_callSR (n := 2) (As := [_, _]) (rest := [_]) X (c_L_up l D ((vv >>> ((6 : Int32) &&& 31))) 6 (by omega)) gL_back_L_up rfl (by decide +kernel) ⟨Nat.le_of_ble_eq_true rfl, Nat.le_of_ble_eq_true rfl⟩ [] rfl rfl rfl rfl (Nat.le_of_ble_eq_true rfl) dL_back_97 ⟨Nat.le_of_ble_eq_true rfl, Nat.le_of_ble_eq_true rfl⟩ rfl (fun v hv => ?_)
      obtain rfl := hv
      refine g_st (st' := [_, _]) rfl ?_
      refine g_upn (by omega) (fun u97 hu97 eu97 => ?_)
      refine g_iconst (v := (0 : Int32)) X dL_back_100 (by decide) rfl ?_
      refine g_iconst (v := (1 : Int32)) X dL_back_101 (by decide) rfl ?_
      refine g_callVXs (n := 3) (As := [_, _, _]) (rest := []) X hAg rfl (c_X6_come l D a fT naT wT td vl L pt fl kd kpT pqT psS mkT nT bT hWT hNRT hFT hkpT hHtf.hq _ _ _) gL_back_X6_come rfl (by decide +kernel) ⟨Nat.le_of_ble_eq_true rfl, Nat.le_of_ble_eq_true rfl⟩ 20 rfl rfl rfl rfl (Nat.le_of_ble_eq_true rfl) dL_back_102 ⟨Nat.le_of_ble_eq_true rfl, Nat.le_of_ble_eq_true rfl⟩ rfl (fun v w9 hv => ?_)
      obtain ⟨rfl, fV, naV, wV, kpV, pqV, efV, hNV, hAV, hkpV, hHLV, ekV, rfl⟩ := ch_out hv hkpT hHtf hFT ⟨_, hNRT, hn8T⟩
      have hADV := hAV.trans hADT
      refine ⟨hAV, ?_⟩
      refine g_st (st' := [_]) rfl ?_
      obtain ⟨mkV, nV, bV, hWV⟩ : WFx fV := by rw [efV]; exact come_ok ⟨mkT, nT, bT, hWT⟩
      have hSV : SI (cr + 1 + 1) fV := by rw [efV]; exact come_si (d := 0) (e := 1) hWT hST hu97 (by omega) (Or.inl rfl)
      have hNRV := hNV.to hWV
      have hFV : FB fV := by rw [efV]; exact come_fb ⟨mkT, nT, bT, hWT⟩ hFT
      obtain ⟨hmkV, hm40V, hn8V, hb0V, hb0V1, hb0V8, hn8Vb, hstV, hnoV, howV, hdoV, hb0Va, hb0Vc, hb0Vd, hb0Vz⟩ := id hWV
      have hm8V : nV ≤ 8 := by omega
      obtain ⟨eN1V, eN2V, -⟩ := hWV.N
      refine g_if_lt X dL_back_105 111 (by decide) rfl (fun h105 => ?_) (fun h105 => ?_)
      · have hHwf : HL kpV pqV (fP :: f :: (List.take 4 (List.take 5 l9))) := hN_f h105 hHLV
        refine g_iconst (v := (0 : Int32)) X dL_back_111 (by decide) rfl ?_
        refine g_istore X [(6, _), (5, _), (4, _), (2, _), (0, _), (1, _)] dL_back_112 (by decide) rfl rfl ?_
        exact L114 2 0 2 (by omega) (by omega) _ _ _ _ _ _ hkpV hHwf rfl ⟨_, hNRV, hn8V⟩ hADV
      · have hHwt : HL kpV pqV (fT :: fP :: f :: (List.take 3 (List.take 4 (List.take 5 l9)))) := hN_t (Int32.not_lt.mp h105) hHLV
        refine g_iinc (v := nI (2 + 1)) X [(5, _), (4, _), (2, _), (0, _), (1, _)] dL_back_108 0 rfl (nI_add 2 1) (by decide) rfl rfl ?_
        refine g_iconst (v := (0 : Int32)) X dL_back_111 (by decide) rfl ?_
        refine g_istore X [(6, _), (5, _), (4, _), (2, _), (0, _), (1, _)] dL_back_112 (by decide) rfl rfl ?_
        exact L114 3 0 3 (by omega) (by omega) _ _ _ _ _ _ hkpV hHwt rfl ⟨_, hNRV, hn8V⟩ hADV
    · have hHtt : HL kpT pqT (fG :: fP :: f :: (List.take 3 (List.take 4 (List.take 5 l9)))) := hN_t (Int32.not_lt.mp h84) hHLT
      refine g_iinc (v := nI (2 + 1)) X [(5, _), (4, _), (2, _), (0, _), (1, _)] dL_back_87 0 rfl (nI_add 2 1) (by decide) rfl rfl ?_
      refine g_aload_n X dL_back_90 rfl 3 rfl rfl ?_
      refine g_iload_n X dL_back_91 rfl 4 rfl rfl ?_
      refine g_bipush (v := (6 : Int32)) X dL_back_92 (by decide) rfl ?_
      refine g_ishr X dL_back_94 rfl ?_
      refine g_bipush (v := (6 : Int32)) X dL_back_95 (by decide) rfl ?_
      refine g_callSR (n := 2) (As := [_, _]) (rest := [_]) X (c_L_up l D ((vv >>> ((6 : Int32) &&& 31))) 6 (by omega)) gL_back_L_up rfl (by decide +kernel) ⟨Nat.le_of_ble_eq_true rfl, Nat.le_of_ble_eq_true rfl⟩ [] rfl rfl rfl rfl (Nat.le_of_ble_eq_true rfl) dL_back_97 ⟨Nat.le_of_ble_eq_true rfl, Nat.le_of_ble_eq_true rfl⟩ rfl (fun v hv => ?_)
      obtain rfl := hv
      refine g_st (st' := [_, _]) rfl ?_
      refine g_upn (by omega) (fun u97 hu97 eu97 => ?_)
      refine g_iconst (v := (0 : Int32)) X dL_back_100 (by decide) rfl ?_
      refine g_iconst (v := (1 : Int32)) X dL_back_101 (by decide) rfl ?_
      refine g_callVXs (n := 3) (As := [_, _, _]) (rest := []) X hAg rfl (c_X6_come l D a fT naT wT td vl L pt fl kd kpT pqT psS mkT nT bT hWT hNRT hFT hkpT hHtt.hq _ _ _) gL_back_X6_come rfl (by decide +kernel) ⟨Nat.le_of_ble_eq_true rfl, Nat.le_of_ble_eq_true rfl⟩ 20 rfl rfl rfl rfl (Nat.le_of_ble_eq_true rfl) dL_back_102 ⟨Nat.le_of_ble_eq_true rfl, Nat.le_of_ble_eq_true rfl⟩ rfl (fun v w9 hv => ?_)
      obtain ⟨rfl, fV, naV, wV, kpV, pqV, efV, hNV, hAV, hkpV, hHLV, ekV, rfl⟩ := ch_out hv hkpT hHtt hFT ⟨_, hNRT, hn8T⟩
      have hADV := hAV.trans hADT
      refine ⟨hAV, ?_⟩
      refine g_st (st' := [_]) rfl ?_
      obtain ⟨mkV, nV, bV, hWV⟩ : WFx fV := by rw [efV]; exact come_ok ⟨mkT, nT, bT, hWT⟩
      have hSV : SI (cr + 1 + 1) fV := by rw [efV]; exact come_si (d := 0) (e := 1) hWT hST hu97 (by omega) (Or.inl rfl)
      have hNRV := hNV.to hWV
      have hFV : FB fV := by rw [efV]; exact come_fb ⟨mkT, nT, bT, hWT⟩ hFT
      obtain ⟨hmkV, hm40V, hn8V, hb0V, hb0V1, hb0V8, hn8Vb, hstV, hnoV, howV, hdoV, hb0Va, hb0Vc, hb0Vd, hb0Vz⟩ := id hWV
      have hm8V : nV ≤ 8 := by omega
      obtain ⟨eN1V, eN2V, -⟩ := hWV.N
      refine g_if_lt X dL_back_105 111 (by decide) rfl (fun h105 => ?_) (fun h105 => ?_)
      · have hHwf : HL kpV pqV (fG :: fP :: f :: (List.take 3 (List.take 4 (List.take 5 l9)))) := hN_f h105 hHLV
        refine g_iconst (v := (0 : Int32)) X dL_back_111 (by decide) rfl ?_
        refine g_istore X [(6, _), (5, _), (4, _), (2, _), (0, _), (1, _)] dL_back_112 (by decide) rfl rfl ?_
        exact L114 3 0 3 (by omega) (by omega) _ _ _ _ _ _ hkpV hHwf rfl ⟨_, hNRV, hn8V⟩ hADV
      · have hHwt : HL kpV pqV (fT :: fG :: fP :: f :: (List.take 2 (List.take 3 (List.take 4 (List.take 5 l9))))) := hN_t (Int32.not_lt.mp h105) hHLV
        refine g_iinc (v := nI ((2 + 1) + 1)) X [(5, _), (4, _), (2, _), (0, _), (1, _)] dL_back_108 0 rfl (nI_add (2 + 1) 1) (by decide) rfl rfl ?_
        refine g_iconst (v := (0 : Int32)) X dL_back_111 (by decide) rfl ?_
        refine g_istore X [(6, _), (5, _), (4, _), (2, _), (0, _), (1, _)] dL_back_112 (by decide) rfl rfl ?_
        exact L114 4 0 4 (by omega) (by omega) _ _ _ _ _ _ hkpV hHwt rfl ⟨_, hNRV, hn8V⟩ hADV
  · have hHrt : HL kpG pqG (fQ :: fP :: f :: (List.take 3 (List.take 4 (List.take 5 l9)))) := hN_t (Int32.not_lt.mp h66) hHLG
    refine g_iinc (v := nI (2 + 1)) X [(5, _), (4, _), (2, _), (0, _), (1, _)] dL_back_69 0 rfl (nI_add 2 1) (by decide) rfl rfl ?_
    refine g_aload_n X dL_back_72 rfl 3 rfl rfl ?_
    refine g_iload_n X dL_back_73 rfl 4 rfl rfl ?_
    refine g_iconst (v := (4 : Int32)) X dL_back_74 (by decide) rfl ?_
    refine g_ishr X dL_back_75 rfl ?_
    refine g_bipush (v := (40 : Int32)) X dL_back_76 (by decide) rfl ?_
    refine g_callSR (n := 2) (As := [_, _]) (rest := [_]) X (c_L_up l D ((vv >>> ((4 : Int32) &&& 31))) 40 (by omega)) gL_back_L_up rfl (by decide +kernel) ⟨Nat.le_of_ble_eq_true rfl, Nat.le_of_ble_eq_true rfl⟩ [] rfl rfl rfl rfl (Nat.le_of_ble_eq_true rfl) dL_back_78 ⟨Nat.le_of_ble_eq_true rfl, Nat.le_of_ble_eq_true rfl⟩ rfl (fun v hv => ?_)
    obtain rfl := hv
    refine g_st (st' := [_, _]) rfl ?_
    refine g_upn (by omega) (fun u78 hu78 eu78 => ?_)
    refine g_callVXs (n := 1) (As := [_]) (rest := []) X hAg rfl (c_X6_takeBack l D a fG naG wG td vl L pt fl kd kpG pqG psS mkG nG bG hWG hNRG hFG hkpG hHrt.hq _) gL_back_X6_takeBack rfl (by decide +kernel) ⟨Nat.le_of_ble_eq_true rfl, Nat.le_of_ble_eq_true rfl⟩ 20 rfl rfl rfl rfl (Nat.le_of_ble_eq_true rfl) dL_back_81 ⟨Nat.le_of_ble_eq_true rfl, Nat.le_of_ble_eq_true rfl⟩ rfl (fun v w9 hv => ?_)
    obtain ⟨rfl, fT, naT, wT, kpT, pqT, efT, hNT, hAT, hkpT, hHLT, ekT, rfl⟩ := ch_out hv hkpG hHrt hFG ⟨_, hNRG, hn8G⟩
    have hADT := hAT.trans hADG
    refine ⟨hAT, ?_⟩
    refine g_st (st' := [_]) rfl ?_
    obtain ⟨mkT, nT, bT, hWT⟩ : WFx fT := by rw [efT]; exact take_ok ⟨mkG, nG, bG, hWG⟩
    have hST : SI (cr + 1) fT := by rw [efT]; exact take_si hWG hSG hu78
    have hNRT := hNT.to hWT
    have hFT : FB fT := by rw [efT]; exact take_fb ⟨mkG, nG, bG, hWG⟩ hFG
    obtain ⟨hmkT, hm40T, hn8T, hb0T, hb0T1, hb0T8, hn8Tb, hstT, hnoT, howT, hdoT, hb0Ta, hb0Tc, hb0Td, hb0Tz⟩ := id hWT
    have hm8T : nT ≤ 8 := by omega
    obtain ⟨eN1T, eN2T, -⟩ := hWT.N
    refine g_if_lt X dL_back_84 90 (by decide) rfl (fun h84 => ?_) (fun h84 => ?_)
    · have hHtf : HL kpT pqT (fQ :: fP :: f :: (List.take 3 (List.take 4 (List.take 5 l9)))) := hN_f h84 hHLT
      refine g_aload_n X dL_back_90 rfl 3 rfl rfl ?_
      refine g_iload_n X dL_back_91 rfl 4 rfl rfl ?_
      refine g_bipush (v := (6 : Int32)) X dL_back_92 (by decide) rfl ?_
      refine g_ishr X dL_back_94 rfl ?_
      refine g_bipush (v := (6 : Int32)) X dL_back_95 (by decide) rfl ?_
      refine g_callSR (n := 2) (As := [_, _]) (rest := [_]) X (c_L_up l D ((vv >>> ((6 : Int32) &&& 31))) 6 (by omega)) gL_back_L_up rfl (by decide +kernel) ⟨Nat.le_of_ble_eq_true rfl, Nat.le_of_ble_eq_true rfl⟩ [] rfl rfl rfl rfl (Nat.le_of_ble_eq_true rfl) dL_back_97 ⟨Nat.le_of_ble_eq_true rfl, Nat.le_of_ble_eq_true rfl⟩ rfl (fun v hv => ?_)
      obtain rfl := hv
      refine g_st (st' := [_, _]) rfl ?_
      refine g_upn (by omega) (fun u97 hu97 eu97 => ?_)
      refine g_iconst (v := (0 : Int32)) X dL_back_100 (by decide) rfl ?_
      refine g_iconst (v := (1 : Int32)) X dL_back_101 (by decide) rfl ?_
      refine g_callVXs (n := 3) (As := [_, _, _]) (rest := []) X hAg rfl (c_X6_come l D a fT naT wT td vl L pt fl kd kpT pqT psS mkT nT bT hWT hNRT hFT hkpT hHtf.hq _ _ _) gL_back_X6_come rfl (by decide +kernel) ⟨Nat.le_of_ble_eq_true rfl, Nat.le_of_ble_eq_true rfl⟩ 20 rfl rfl rfl rfl (Nat.le_of_ble_eq_true rfl) dL_back_102 ⟨Nat.le_of_ble_eq_true rfl, Nat.le_of_ble_eq_true rfl⟩ rfl (fun v w9 hv => ?_)
      obtain ⟨rfl, fV, naV, wV, kpV, pqV, efV, hNV, hAV, hkpV, hHLV, ekV, rfl⟩ := ch_out hv hkpT hHtf hFT ⟨_, hNRT, hn8T⟩
      have hADV := hAV.trans hADT
      refine ⟨hAV, ?_⟩
      refine g_st (st' := [_]) rfl ?_
      obtain ⟨mkV, nV, bV, hWV⟩ : WFx fV := by rw [efV]; exact come_ok ⟨mkT, nT, bT, hWT⟩
      have hSV : SI (cr + 1 + 1) fV := by rw [efV]; exact come_si (d := 0) (e := 1) hWT hST hu97 (by omega) (Or.inl rfl)
      have hNRV := hNV.to hWV
      have hFV : FB fV := by rw [efV]; exact come_fb ⟨mkT, nT, bT, hWT⟩ hFT
      obtain ⟨hmkV, hm40V, hn8V, hb0V, hb0V1, hb0V8, hn8Vb, hstV, hnoV, howV, hdoV, hb0Va, hb0Vc, hb0Vd, hb0Vz⟩ := id hWV
      have hm8V : nV ≤ 8 := by omega
      obtain ⟨eN1V, eN2V, -⟩ := hWV.N
      refine g_if_lt X dL_back_105 111 (by decide) rfl (fun h105 => ?_) (fun h105 => ?_)
      · have hHwf : HL kpV pqV (fQ :: fP :: f :: (List.take 3 (List.take 4 (List.take 5 l9)))) := hN_f h105 hHLV
        refine g_iconst (v := (0 : Int32)) X dL_back_111 (by decide) rfl ?_
        refine g_istore X [(6, _), (5, _), (4, _), (2, _), (0, _), (1, _)] dL_back_112 (by decide) rfl rfl ?_
        exact L114 3 0 3 (by omega) (by omega) _ _ _ _ _ _ hkpV hHwf rfl ⟨_, hNRV, hn8V⟩ hADV
      · have hHwt : HL kpV pqV (fT :: fQ :: fP :: f :: (List.take 2 (List.take 3 (List.take 4 (List.take 5 l9))))) := hN_t (Int32.not_lt.mp h105) hHLV
        refine g_iinc (v := nI ((2 + 1) + 1)) X [(5, _), (4, _), (2, _), (0, _), (1, _)] dL_back_108 0 rfl (nI_add (2 + 1) 1) (by decide) rfl rfl ?_
        refine g_iconst (v := (0 : Int32)) X dL_back_111 (by decide) rfl ?_
        refine g_istore X [(6, _), (5, _), (4, _), (2, _), (0, _), (1, _)] dL_back_112 (by decide) rfl rfl ?_
        exact L114 4 0 4 (by omega) (by omega) _ _ _ _ _ _ hkpV hHwt rfl ⟨_, hNRV, hn8V⟩ hADV
    · have hHtt : HL kpT pqT (fG :: fQ :: fP :: f :: (List.take 2 (List.take 3 (List.take 4 (List.take 5 l9))))) := hN_t (Int32.not_lt.mp h84) hHLT
      refine g_iinc (v := nI ((2 + 1) + 1)) X [(5, _), (4, _), (2, _), (0, _), (1, _)] dL_back_87 0 rfl (nI_add (2 + 1) 1) (by decide) rfl rfl ?_
      refine g_aload_n X dL_back_90 rfl 3 rfl rfl ?_
      refine g_iload_n X dL_back_91 rfl 4 rfl rfl ?_
      refine g_bipush (v := (6 : Int32)) X dL_back_92 (by decide) rfl ?_
      refine g_ishr X dL_back_94 rfl ?_
      refine g_bipush (v := (6 : Int32)) X dL_back_95 (by decide) rfl ?_
      refine g_callSR (n := 2) (As := [_, _]) (rest := [_]) X (c_L_up l D ((vv >>> ((6 : Int32) &&& 31))) 6 (by omega)) gL_back_L_up rfl (by decide +kernel) ⟨Nat.le_of_ble_eq_true rfl, Nat.le_of_ble_eq_true rfl⟩ [] rfl rfl rfl rfl (Nat.le_of_ble_eq_true rfl) dL_back_97 ⟨Nat.le_of_ble_eq_true rfl, Nat.le_of_ble_eq_true rfl⟩ rfl (fun v hv => ?_)
      obtain rfl := hv
      refine g_st (st' := [_, _]) rfl ?_
      refine g_upn (by omega) (fun u97 hu97 eu97 => ?_)
      refine g_iconst (v := (0 : Int32)) X dL_back_100 (by decide) rfl ?_
      refine g_iconst (v := (1 : Int32)) X dL_back_101 (by decide) rfl ?_
      refine g_callVXs (n := 3) (As := [_, _, _]) (rest := []) X hAg rfl (c_X6_come l D a fT naT wT td vl L pt fl kd kpT pqT psS mkT nT bT hWT hNRT hFT hkpT hHtt.hq _ _ _) gL_back_X6_come rfl (by decide +kernel) ⟨Nat.le_of_ble_eq_true rfl, Nat.le_of_ble_eq_true rfl⟩ 20 rfl rfl rfl rfl (Nat.le_of_ble_eq_true rfl) dL_back_102 ⟨Nat.le_of_ble_eq_true rfl, Nat.le_of_ble_eq_true rfl⟩ rfl (fun v w9 hv => ?_)
      obtain ⟨rfl, fV, naV, wV, kpV, pqV, efV, hNV, hAV, hkpV, hHLV, ekV, rfl⟩ := ch_out hv hkpT hHtt hFT ⟨_, hNRT, hn8T⟩
      have hADV := hAV.trans hADT
      refine ⟨hAV, ?_⟩
      refine g_st (st' := [_]) rfl ?_
      obtain ⟨mkV, nV, bV, hWV⟩ : WFx fV := by rw [efV]; exact come_ok ⟨mkT, nT, bT, hWT⟩
      have hSV : SI (cr + 1 + 1) fV := by rw [efV]; exact come_si (d := 0) (e := 1) hWT hST hu97 (by omega) (Or.inl rfl)
      have hNRV := hNV.to hWV
      have hFV : FB fV := by rw [efV]; exact come_fb ⟨mkT, nT, bT, hWT⟩ hFT
      obtain ⟨hmkV, hm40V, hn8V, hb0V, hb0V1, hb0V8, hn8Vb, hstV, hnoV, howV, hdoV, hb0Va, hb0Vc, hb0Vd, hb0Vz⟩ := id hWV
      have hm8V : nV ≤ 8 := by omega
      obtain ⟨eN1V, eN2V, -⟩ := hWV.N
      refine g_if_lt X dL_back_105 111 (by decide) rfl (fun h105 => ?_) (fun h105 => ?_)
      · have hHwf : HL kpV pqV (fG :: fQ :: fP :: f :: (List.take 2 (List.take 3 (List.take 4 (List.take 5 l9))))) := hN_f h105 hHLV
        refine g_iconst (v := (0 : Int32)) X dL_back_111 (by decide) rfl ?_
        refine g_istore X [(6, _), (5, _), (4, _), (2, _), (0, _), (1, _)] dL_back_112 (by decide) rfl rfl ?_
        exact L114 4 0 4 (by omega) (by omega) _ _ _ _ _ _ hkpV hHwf rfl ⟨_, hNRV, hn8V⟩ hADV
      · have hHwt : HL kpV pqV (fT :: fG :: fQ :: fP :: f :: (List.take 1 (List.take 2 (List.take 3 (List.take 4 (List.take 5 l9)))))) := hN_t (Int32.not_lt.mp h105) hHLV
        refine g_iinc (v := nI (((2 + 1) + 1) + 1)) X [(5, _), (4, _), (2, _), (0, _), (1, _)] dL_back_108 0 rfl (nI_add ((2 + 1) + 1) 1) (by decide) rfl rfl ?_
        refine g_iconst (v := (0 : Int32)) X dL_back_111 (by decide) rfl ?_
        refine g_istore X [(6, _), (5, _), (4, _), (2, _), (0, _), (1, _)] dL_back_112 (by decide) rfl rfl ?_
        exact L114 5 0 5 (by omega) (by omega) _ _ _ _ _ _ hkpV hHwt rfl ⟨_, hNRV, hn8V⟩ hADV
