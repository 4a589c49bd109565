set_option maxHeartbeats 4000000 in
set_option maxRecDepth 100000 in
theorem c_L_back (l : Launch) (D : DT) (a : Nat → Nat) (f : Nat → Int32) (na : Nat → Nat → Int32) (w td vl : Nat → Int32) (L pt fl : Nat) (kd : Int32) (kp : Nat) (pq ps : Nat → Option HH) (mk n b : Nat) (hW : WF f mk n b) (hNR : NR f na n) (hF : FB f) (hkp : kp ≤ 6) (l9 : List (Nat → Int32)) (hHL : HL kp pq l9) (cr : Nat) (hcr : cr ≤ 1000) (hS : SI cr f) (hL : L ≤ 80) (hch : ∀ k, k < L → ∃ ch : Nat, ch < 256 ∧ td k = nI ch) (hps : ∀ q, q < 2 → ps q = none) (vv : Int32) : MW l yL_back wsL_back 6 145 144 3060 D [.ref (a 19), .int (vv)] (wB D a f na w td vl L pt fl kd kp (fqa pq) (fqa ps) (tlW D pq ps)) (fun v w9 => v = some (.int 1) ∧ ∃ (na' : Nat → Nat → Int32) (w' td' vl' : Nat → Int32) (L' pt' fl' : Nat) (kd' : Int32) (kp' : Nat) (pq' ps' : Nat → Option HH), NRx f na' ∧ AD w9 (wB D a f na w td vl L pt fl kd kp (fqa pq) (fqa ps) (tlW D pq ps)) ∧ w9 = wC D a f na' w' td' vl' L' pt' fl' kd' kp' pq' ps') := by
  obtain ⟨hmk, hm40, hn8, hb0, hb01, hb08, hn8b, hst, hno, how, hdo, hb0a, hb0c, hb0d, hb0z⟩ := id hW
  have hm8 : n ≤ 8 := by omega
  obtain ⟨eN1, eN2, -⟩ := hW.N
  refine MW.of (cc := cL_back) (maxL := 7) (ret := (some .boolean)) (lv := [(0, .ref (a 19)), (1, .int (vv))]) (by decide +kernel) rfl (Nat.le_of_ble_eq_true rfl) rfl ?_
  intro p e s m below meth c A hAe hAg X hr hmn
  refine g_aload_n X dL_back_0 rfl 0 rfl rfl ?_
  refine g_callSRX (w0 := []) (n := 1) (As := [_]) (rest := []) X (c_L_print l D a f na w td vl L pt fl kd kp (fqa pq) (fqa ps) (tlW D pq ps) mk n b hW hNR) gL_back_L_print rfl (by decide +kernel) ⟨Nat.le_of_ble_eq_true rfl, Nat.le_of_ble_eq_true rfl⟩ rfl rfl rfl (Nat.le_of_ble_eq_true rfl) dL_back_1 ⟨Nat.le_of_ble_eq_true rfl, Nat.le_of_ble_eq_true rfl⟩ rfl (fun v hv => ?_)
  obtain rfl := hv
  refine g_st (st' := [_]) rfl ?_
  refine g_lstore_n X [(2, _), (0, _), (1, _)] dL_back_4 rfl (by decide) rfl rfl ?_
  refine g_aload_n X dL_back_5 rfl 1 rfl rfl ?_
  refine g_iconst (v := (0 : Int32)) X dL_back_6 (by decide) rfl ?_
  refine g_callVRX (w0 := []) (n := 1) (As := [_]) (rest := []) X (c_X6_count l D a f na w td vl L pt fl kd kp (fqa pq) (fqa ps) (tlW D pq ps) mk n b hW hNR _) gL_back_X6_count rfl (by decide +kernel) ⟨Nat.le_of_ble_eq_true rfl, Nat.le_of_ble_eq_true rfl⟩ 20 rfl rfl rfl rfl rfl (Nat.le_of_ble_eq_true rfl) dL_back_7 ⟨Nat.le_of_ble_eq_true rfl, Nat.le_of_ble_eq_true rfl⟩ rfl (fun v hv => ?_)
  obtain rfl := hv
  refine g_st (st' := [_]) rfl ?_
  refine g_topi (oC0.trans hmk) ?_
  refine g_istore X [(4, _), (2, _), (0, _), (1, _)] dL_back_10 (by decide) rfl rfl ?_
  refine g_aload_n X dL_back_12 rfl 2 rfl rfl ?_
  refine g_iload_n X dL_back_13 rfl 3 rfl rfl ?_
  refine g_iconst (v := (2 : Int32)) X dL_back_14 (by decide) rfl ?_
  refine g_callSR (n := 2) (As := [_, _]) (rest := [_]) X (c_L_up l D (vv) 2 (by omega)) gL_back_L_up rfl (by decide +kernel) ⟨Nat.le_of_ble_eq_true rfl, Nat.le_of_ble_eq_true rfl⟩ [] rfl rfl rfl rfl (Nat.le_of_ble_eq_true rfl) dL_back_15 ⟨Nat.le_of_ble_eq_true rfl, Nat.le_of_ble_eq_true rfl⟩ rfl (fun v hv => ?_)
  obtain rfl := hv
  refine g_st (st' := [_, _]) rfl ?_
  refine g_upn (by omega) (fun u15 hu15 eu15 => ?_)
  refine g_callVXs (n := 1) (As := [_]) (rest := []) X hAg rfl (c_X6_save l D a f na w td vl L pt fl kd kp pq ps hF _) gL_back_X6_save rfl (by decide +kernel) ⟨Nat.le_of_ble_eq_true rfl, Nat.le_of_ble_eq_true rfl⟩ 20 rfl rfl rfl rfl (Nat.le_of_ble_eq_true rfl) dL_back_18 ⟨Nat.le_of_ble_eq_true rfl, Nat.le_of_ble_eq_true rfl⟩ rfl (fun v w9 hv => ?_)
  obtain ⟨hADS, hv⟩ := hv
  rcases hv with hv | ⟨hr2, -⟩
  rotate_left
  · exact absurd (rng_nI' hu15 (by omega)) (by rw [hr2]; exact Bool.false_ne_true)
  obtain ⟨-, rfl, bS, rfl⟩ := hv
  obtain ⟨psS, hpsS⟩ : ∃ z, up ps (nI u15).toNatClampNeg (some (bS, f, na)) = z := ⟨_, rfl⟩
  rw [hpsS] at hADS ⊢
  rw [nI_clamp (by omega)] at hpsS
  refine ⟨hADS, ?_⟩
  refine g_st (st' := [_]) rfl ?_
  refine g_topi (hmk) ?_
  have hp1 : psS u15 = some (bS, f, na) := by rw [← hpsS, up_s]
  have hp0 : ∀ q, q < 2 → q ≠ u15 → psS q = none := fun q hq hne => by rw [← hpsS, up_n _ _ hne]; exact hps q hq
  have hFs : ∀ q, q < 2 → ∀ h : HH, psS q = some h → FB h.2.1 := by
    intro q hq h e
    by_cases hz : q = u15
    · rw [hz, hp1] at e
      cases e
      exact hF
    · rw [hp0 q hq hz] at e
      cases e
  refine g_iload X dL_back_21 0 rfl rfl ?_
  refine g_icmp_eq X dL_back_23 28 (by decide) rfl (fun h23 => ?_) (fun h23 => absurd rfl h23)
  refine g_iconst (v := (2 : Int32)) X dL_back_28 (by decide) rfl ?_
  refine g_istore X [(5, _), (4, _), (2, _), (0, _), (1, _)] dL_back_29 (by decide) rfl rfl ?_
  refine g_aload_n X dL_back_31 rfl 3 rfl rfl ?_
  refine g_iconst (v := (0 : Int32)) X dL_back_32 (by decide) rfl ?_
  refine g_iload_n X dL_back_33 rfl 4 rfl rfl ?_
  refine g_iconst (v := (1 : Int32)) X dL_back_34 (by decide) rfl ?_
  refine g_ishr X dL_back_35 rfl ?_
  refine g_bipush (v := (6 : Int32)) X dL_back_36 (by decide) rfl ?_
  refine g_callSR (n := 2) (As := [_, _]) (rest := [_, _]) X (c_L_up l D ((vv >>> ((1 : Int32) &&& 31))) 6 (by omega)) gL_back_L_up rfl (by decide +kernel) ⟨Nat.le_of_ble_eq_true rfl, Nat.le_of_ble_eq_true rfl⟩ [] rfl rfl rfl rfl (Nat.le_of_ble_eq_true rfl) dL_back_38 ⟨Nat.le_of_ble_eq_true rfl, Nat.le_of_ble_eq_true rfl⟩ rfl (fun v hv => ?_)
  obtain rfl := hv
  refine g_st (st' := [_, _, _]) rfl ?_
  refine g_upn (by omega) (fun u38 hu38 eu38 => ?_)
  refine g_callVXs (n := 2) (As := [_, _]) (rest := []) X hAg rfl (c_X6_own l D a f na w td vl L pt fl kd kp pq psS mk n b hW hNR hF hkp hHL.hq _ _) gL_back_X6_own rfl (by decide +kernel) ⟨Nat.le_of_ble_eq_true rfl, Nat.le_of_ble_eq_true rfl⟩ 20 rfl rfl rfl rfl (Nat.le_of_ble_eq_true rfl) dL_back_41 ⟨Nat.le_of_ble_eq_true rfl, Nat.le_of_ble_eq_true rfl⟩ rfl (fun v w9 hv => ?_)
  obtain ⟨rfl, fP, naP, wP, kpP, pqP, efP, hNP, hAP, hkpP, hHLP, ekP, rfl⟩ := ch_out hv hkp hHL hF ⟨_, hNR, hn8⟩
  have hADP := hAP.trans hADS
  refine ⟨hAP, ?_⟩
  refine g_st (st' := [_]) rfl ?_
  obtain ⟨mkP, nP, bP, hWP⟩ : WFx fP := by rw [efP]; exact own_ok ⟨mk, n, b, hW⟩
  have hSP : SI (cr + 1) fP := by rw [efP]; exact own_si (p := 0) hW (SI_le (Nat.le_succ _) hS) (by omega) hu38
  have hge : (0 : Int32) ≤ (ownS f 0 (nI u38)).1 := own_ge (p := 0) hW hS (by omega) hu38
  have hNRP := hNP.to hWP
  have hFP : FB fP := by rw [efP]; exact own_fb ⟨mk, n, b, hW⟩ hF
  obtain ⟨hmkP, hm40P, hn8P, hb0P, hb0P1, hb0P8, hn8Pb, hstP, hnoP, howP, hdoP, hb0Pa, hb0Pc, hb0Pd, hb0Pz⟩ := id hWP
  have hm8P : nP ≤ 8 := by omega
  obtain ⟨eN1P, eN2P, -⟩ := hWP.N
  have hHp : HL kpP pqP (f :: List.take 5 l9) := hN_t hge hHLP
  refine g_if_lt X dL_back_44 54 (by decide) rfl (fun h44 => absurd h44 (Int32.not_lt.mpr hge)) (fun h44 => ?_)
  refine g_aload_n X dL_back_47 rfl 3 rfl rfl ?_
  refine g_callVXs (n := 0) (As := []) (rest := []) X hAg rfl (c_X6_flush l D a fP naP wP td vl L pt fl kd kpP pqP psS mkP nP bP hWP hNRP hFP hkpP hHp.hq ) gL_back_X6_flush rfl (by decide +kernel) ⟨Nat.le_of_ble_eq_true rfl, Nat.le_of_ble_eq_true rfl⟩ 20 rfl rfl rfl rfl (Nat.le_of_ble_eq_true rfl) dL_back_48 ⟨Nat.le_of_ble_eq_true rfl, Nat.le_of_ble_eq_true rfl⟩ rfl (fun v w9 hv => ?_)
  obtain ⟨rfl, fQ, naQ, wQ, kpQ, pqQ, efQ, hNQ, hAQ, hkpQ, hHLQ, ekQ, rfl⟩ := ch_out hv hkpP hHp hFP ⟨_, hNRP, hn8P⟩
  have hADQ := hAQ.trans hADP
  refine ⟨hAQ, ?_⟩
  refine g_st (st' := [_]) rfl ?_
  obtain ⟨hrxQ, hWQ, hSQ, -⟩ := flush_chg hWP hSP efQ
  refine g_topi (hrxQ) ?_
  have hNRQ := hNQ.to hWQ
  have hFQ : FB fQ := by rw [efQ]; exact flush_fb hFP
  obtain ⟨hmkQ, hm40Q, hn8Q, hb0Q, hb0Q1, hb0Q8, hn8Qb, hstQ, hnoQ, howQ, hdoQ, hb0Qa, hb0Qc, hb0Qd, hb0Qz⟩ := id hWQ
  have hm8Q : 0 ≤ 8 := by omega
  obtain ⟨eN1Q, eN2Q, -⟩ := hWQ.N
  have hHq : HL kpQ pqQ (fP :: f :: List.take 4 (List.take 5 l9)) := hN_t (by rw [hrxQ]; exact nI_ge0 (by omega)) hHLQ
  refine g_if_ge X dL_back_51 56 (by decide) rfl (fun h51 => ?_) (fun h51 => absurd (nI_ge0 (by omega)) h51)
  have i51 := nj_le (a := 0) (b := nP) (by omega) (by omega) h51
  refine g_aload_n X dL_back_56 rfl 3 rfl rfl ?_
  refine g_iconst (v := (0 : Int32)) X dL_back_57 (by decide) rfl ?_
  refine g_iconst (v := (1 : Int32)) X dL_back_58 (by decide) rfl ?_
  refine g_iconst (v := (2 : Int32)) X dL_back_59 (by decide) rfl ?_
  refine g_iconst (v := (3 : Int32)) X dL_back_60 (by decide) rfl ?_
  refine g_bipush (v := ((-6) : Int32)) X dL_back_61 (by decide) rfl ?_
  refine g_callVXs (n := 5) (As := [_, _, _, _, _]) (rest := []) X hAg rfl (c_X6_forge l D a fQ naQ wQ td vl L pt fl kd kpQ pqQ psS mkP 0 bP hWQ hNRQ hFQ hkpQ hHq.hq _ _ _ _ _) gL_back_X6_forge rfl (by decide +kernel) ⟨Nat.le_of_ble_eq_true rfl, Nat.le_of_ble_eq_true rfl⟩ 20 rfl rfl rfl rfl (Nat.le_of_ble_eq_true rfl) dL_back_63 ⟨Nat.le_of_ble_eq_true rfl, Nat.le_of_ble_eq_true rfl⟩ rfl (fun v w9 hv => ?_)
  obtain ⟨rfl, fG, naG, wG, kpG, pqG, efG, hNG, hAG, hkpG, hHLG, ekG, rfl⟩ := ch_out hv hkpQ hHq hFQ ⟨_, hNRQ, hn8Q⟩
  have hADG := hAG.trans hADQ
  refine ⟨hAG, ?_⟩
  refine g_st (st' := [_]) rfl ?_
  obtain ⟨mkG, nG, bG, hWG⟩ : WFx fG := by rw [efG]; exact forge_ok ⟨mkP, 0, bP, hWQ⟩
  have hSG : SI (cr + 1) fG := by rw [efG]; exact forge_si (gv := 0) (hd := 1) (pg := 2) (rt := 3) hWQ hSQ (by omega) (by omega) (by omega) (by omega)
  have hNRG := hNG.to hWG
  have hFG : FB fG := by rw [efG]; exact forge_fb  hFQ
  obtain ⟨hmkG, hm40G, hn8G, hb0G, hb0G1, hb0G8, hn8Gb, hstG, hnoG, howG, hdoG, hb0Ga, hb0Gc, hb0Gd, hb0Gz⟩ := id hWG
  have hm8G : nG ≤ 8 := by omega
  obtain ⟨eN1G, eN2G, -⟩ := hWG.N
  refine g_if_lt X dL_back_66 72 (by decide) rfl (fun h66 => ?_) (fun h66 => ?_)
  · have hHrf : HL kpG pqG (fP :: f :: (List.take 4 (List.take 5 l9))) := hN_f h66 hHLG
    refine g_aload_n X dL_back_72 rfl 3 rfl rfl ?_
    refine g_iload_n X dL_back_73 rfl 4 rfl rfl ?_
    refine g_iconst (v := (4 : Int32)) X dL_back_74 (by decide) rfl ?_
    refine g_ishr X dL_back_75 rfl ?_
    refine g_bipush (v := (40 : Int32)) X dL_back_76 (by decide) rfl ?_
    refine g_callSR (n := 2) (As := [_, _]) (rest := [_]) X (c_L_up l D ((vv >>> ((4 : Int32) &&& 31))) 40 (by omega)) gL_back_L_up rfl (by decide +kernel) ⟨Nat.le_of_ble_eq_true rfl, Nat.le_of_ble_eq_true rfl⟩ [] rfl rfl rfl rfl (Nat.le_of_ble_eq_true rfl) dL_back_78 ⟨Nat.le_of_ble_eq_true rfl, Nat.le_of_ble_eq_true rfl⟩ rfl (fun v hv => ?_)
    obtain rfl := hv
    refine g_st (st' := [_, _]) rfl ?_
    refine g_upn (by omega) (fun u78 hu78 eu78 => ?_)
    refine g_callVXs (n := 1) (As := [_]) (rest := []) X hAg rfl (c_X6_takeBack l D a fG naG wG td vl L pt fl kd kpG pqG psS mkG nG bG hWG hNRG hFG hkpG hHrf.hq _) gL_back_X6_takeBack rfl (by decide +kernel) ⟨Nat.le_of_ble_eq_true rfl, Nat.le_of_ble_eq_true rfl⟩ 20 rfl rfl rfl rfl (Nat.le_of_ble_eq_true rfl) dL_back_81 ⟨Nat.le_of_ble_eq_true rfl, Nat.le_of_ble_eq_true rfl⟩ rfl (fun v w9 hv => ?_)
    obtain ⟨rfl, fT, naT, wT, kpT, pqT, efT, hNT, hAT, hkpT, hHLT, ekT, rfl⟩ := ch_out hv hkpG hHrf hFG ⟨_, hNRG, hn8G⟩
    have hADT := hAT.trans hADG
    refine ⟨hAT, ?_⟩
    refine g_st (st' := [_]) rfl ?_
    obtain ⟨mkT, nT, bT, hWT⟩ : WFx fT := by rw [efT]; exact take_ok ⟨mkG, nG, bG, hWG⟩
    have hST : SI (cr + 1) fT := by rw [efT]; exact take_si hWG hSG hu78
    have hNRT := hNT.to hWT
    have hFT : FB fT := by rw [efT]; exact take_fb ⟨mkG, nG, bG, hWG⟩ hFG
    obtain ⟨hmkT, hm40T, hn8T, hb0T, hb0T1, hb0T8, hn8Tb, hstT, hnoT, howT, hdoT, hb0Ta, hb0Tc, hb0Td, hb0Tz⟩ := id hWT
    have hm8T : nT ≤ 8 := by omega
    obtain ⟨eN1T, eN2T, -⟩ := hWT.N
    refine g_if_lt X dL_back_84 90 (by decide) rfl (fun h84 => ?_) (fun h84 => ?_)
    · have hHtf : HL kpT pqT (fP :: f :: (List.take 4 (List.take 5 l9))) := hN_f h84 hHLT
      refine g_aload_n X dL_back_90 rfl 3 rfl rfl ?_
      refine g_iload_n X dL_back_91 rfl 4 rfl rfl ?_
      refine g_bipush (v := (6 : Int32)) X dL_back_92 (by decide) rfl ?_
      refine g_ishr X dL_back_94 rfl ?_
      refine g_bipush (v := (6 : Int32)) X dL_back_95 (by decide) rfl ?_
      refine g_callSR (n := 2) (As := [_, _]) (rest := [_]) X (c_L_up l D ((vv >>> ((6 : Int32) &&& 31))) 6 (by omega)) gL_back_L_up rfl (by decide +kernel) ⟨Nat.le_of_ble_eq_true rfl, Nat.le_of_ble_eq_true rfl⟩ [] rfl rfl rfl rfl (Nat.le_of_ble_eq_true rfl) dL_back_97 ⟨Nat.le_of_ble_eq_true rfl, Nat.le_of_ble_eq_true rfl⟩ rfl (fun v hv => ?_)
      obtain rfl := hv
      refine g_st (st' := [_, _]) rfl ?_
      refine g_upn (by omega) (fun u97 hu97 eu97 => ?_)
      refine g_iconst (v := (0 : Int32)) X dL_back_100 (by decide) rfl ?_
      refine g_iconst (v := (1 : Int32)) X dL_back_101 (by decide) rfl ?_
      refine g_callVXs (n := 3) (As := [_, _, _]) (rest := []) X hAg rfl (c_X6_come l D a fT naT wT td vl L pt fl kd kpT pqT psS mkT nT bT hWT hNRT hFT hkpT hHtf.hq _ _ _) gL_back_X6_come rfl (by decide +kernel) ⟨Nat.le_of_ble_eq_true rfl, Nat.le_of_ble_eq_true rfl⟩ 20 rfl rfl rfl rfl (Nat.le_of_ble_eq_true rfl) dL_back_102 ⟨Nat.le_of_ble_eq_true rfl, Nat.le_of_ble_eq_true rfl⟩ rfl (fun v w9 hv => ?_)
      obtain ⟨rfl, fV, naV, wV, kpV, pqV, efV, hNV, hAV, hkpV, hHLV, ekV, rfl⟩ := ch_out hv hkpT hHtf hFT ⟨_, hNRT, hn8T⟩
      have hADV := hAV.trans hADT
      refine ⟨hAV, ?_⟩
      refine g_st (st' := [_]) rfl ?_
      obtain ⟨mkV, nV, bV, hWV⟩ : WFx fV := by rw [efV]; exact come_ok ⟨mkT, nT, bT, hWT⟩
      have hSV : SI (cr + 1 + 1) fV := by rw [efV]; exact come_si (d := 0) (e := 1) hWT hST hu97 (by omega) (Or.inl rfl)
      have hNRV := hNV.to hWV
      have hFV : FB fV := by rw [efV]; exact come_fb ⟨mkT, nT, bT, hWT⟩ hFT
      obtain ⟨hmkV, hm40V, hn8V, hb0V, hb0V1, hb0V8, hn8Vb, hstV, hnoV, howV, hdoV, hb0Va, hb0Vc, hb0Vd, hb0Vz⟩ := id hWV
      have hm8V : nV ≤ 8 := by omega
      obtain ⟨eN1V, eN2V, -⟩ := hWV.N
      refine g_if_lt X dL_back_105 111 (by decide) rfl (fun h105 => ?_) (fun h105 => ?_)
      · have hHwf : HL kpV pqV (fP :: f :: (List.take 4 (List.take 5 l9))) := hN_f h105 hHLV
        refine g_iconst (v := (0 : Int32)) X dL_back_111 (by decide) rfl ?_
        refine g_istore X [(6, _), (5, _), (4, _), (2, _), (0, _), (1, _)] dL_back_112 (by decide) rfl rfl ?_
        refine g_iload X dL_back_114 0 rfl rfl ?_
        refine g_iload X dL_back_116 1 rfl rfl ?_
        refine g_icmp_ge X dL_back_118 136 (by decide) rfl (fun h118 => absurd h118 (by decide)) (fun h118 => ?_)
        refine g_aload_n X dL_back_121 rfl 4 rfl rfl ?_
        refine g_callVXs (n := 0) (As := []) (rest := []) X hAg rfl (c_X6_undo l D a fV naV wV td vl L pt fl kd kpV pqV psS hkpV hHwf.hq hHwf.fb) gL_back_X6_undo rfl (by decide +kernel) ⟨Nat.le_of_ble_eq_true rfl, Nat.le_of_ble_eq_true rfl⟩ 20 rfl rfl rfl rfl (Nat.le_of_ble_eq_true rfl) dL_back_122 ⟨Nat.le_of_ble_eq_true rfl, Nat.le_of_ble_eq_true rfl⟩ rfl (fun v w9 hv => ?_)
        obtain ⟨r9, rfl, hv⟩ := hv
        obtain ⟨hk1, hpp, hHL0⟩ := hHwf.pop
        rcases hv with ⟨hk0, -, -⟩ | ⟨-, rfl, bU, gU, nb0, hpU, rfl⟩
        · omega
        obtain ⟨eg, hN0, -⟩ := hpp _ _ _ hpU
        replace eg := eg.symm
        subst eg
        refine ⟨AD.rf rfl, ?_⟩
        refine g_st (st' := [_]) rfl ?_
        have hk0 : kpV - 1 ≤ 6 := by omega
        have hADu0 : AD (wB D a fP nb0 wV td vl L pt fl kd (kpV - 1) (fqa pqV) (fqa psS) (tlW D pqV psS)) (wB D a f na w td vl L pt fl kd kp (fqa pq) (fqa ps) (tlW D pq ps)) := AD.trans (v := wB D a fV naV wV td vl L pt fl kd kpV (fqa pqV) (fqa psS) (tlW D pqV psS)) (AD.rf rfl) hADV
        refine g_if_ge X dL_back_125 130 (by decide) rfl (fun h125 => ?_) (fun h125 => absurd (nI_ge0 (by omega)) h125)
        have i125 := nj_le (a := 0) (b := (kpV - 1)) (by omega) (by omega) h125
        refine g_iinc (v := nI (0 + 1)) X [(6, _), (5, _), (4, _), (2, _), (0, _), (1, _)] dL_back_130 0 rfl (nI_add 0 1) (by decide) rfl rfl ?_
        refine g_goto X dL_back_133 114 (by decide) ?_
        refine g_iload X dL_back_114 0 rfl rfl ?_
        refine g_iload X dL_back_116 1 rfl rfl ?_
        refine g_icmp_ge X dL_back_118 136 (by decide) rfl (fun h118 => absurd (nj_le (a := 2) (b := (0 + 1)) (by omega) (by omega) h118) (by omega)) (fun h118 => ?_)
        have i118 := nj_nle (a := 2) (b := (0 + 1)) (by omega) (by omega) h118
        refine g_aload_n X dL_back_121 rfl 4 rfl rfl ?_
        refine g_callVXs (n := 0) (As := []) (rest := []) X hAg rfl (c_X6_undo l D a fP nb0 wV td vl L pt fl kd (kpV - 1) pqV psS hk0 hHL0.hq hHL0.fb) gL_back_X6_undo rfl (by decide +kernel) ⟨Nat.le_of_ble_eq_true rfl, Nat.le_of_ble_eq_true rfl⟩ 20 rfl rfl rfl rfl (Nat.le_of_ble_eq_true rfl) dL_back_122 ⟨Nat.le_of_ble_eq_true rfl, Nat.le_of_ble_eq_true rfl⟩ rfl (fun v w9 hv => ?_)
        obtain ⟨r9, rfl, hv⟩ := hv
        obtain ⟨hk1, hpp, hHL1⟩ := hHL0.pop
        rcases hv with ⟨hk0, -, -⟩ | ⟨-, rfl, bU, gU, nb1, hpU, rfl⟩
        · omega
        obtain ⟨eg, hN1, -⟩ := hpp _ _ _ hpU
        replace eg := eg.symm
        subst eg
        refine ⟨AD.rf rfl, ?_⟩
        refine g_st (st' := [_]) rfl ?_
        have hk1 : (kpV - 1) - 1 ≤ 6 := by omega
        have hADu1 : AD (wB D a f nb1 wV td vl L pt fl kd ((kpV - 1) - 1) (fqa pqV) (fqa psS) (tlW D pqV psS)) (wB D a f na w td vl L pt fl kd kp (fqa pq) (fqa ps) (tlW D pq ps)) := AD.trans (v := wB D a fP nb0 wV td vl L pt fl kd (kpV - 1) (fqa pqV) (fqa psS) (tlW D pqV psS)) (AD.rf rfl) hADu0
        refine g_if_ge X dL_back_125 130 (by decide) rfl (fun h125 => ?_) (fun h125 => absurd (nI_ge0 (by omega)) h125)
        have i125 := nj_le (a := 0) (b := ((kpV - 1) - 1)) (by omega) (by omega) h125
        refine g_iinc (v := nI ((0 + 1) + 1)) X [(6, _), (5, _), (4, _), (2, _), (0, _), (1, _)] dL_back_130 0 rfl (nI_add (0 + 1) 1) (by decide) rfl rfl ?_
        refine g_goto X dL_back_133 114 (by decide) ?_
        refine g_iload X dL_back_114 0 rfl rfl ?_
        refine g_iload X dL_back_116 1 rfl rfl ?_
        refine g_icmp_ge X dL_back_118 136 (by decide) rfl (fun h118 => ?_) (fun h118 => absurd (nj_nle (a := 2) (b := ((0 + 1) + 1)) (by omega) (by omega) h118) (by omega))
        have i118 := nj_le (a := 2) (b := ((0 + 1) + 1)) (by omega) (by omega) h118
        have hNRu := hN1.to hW
        refine g_aload_n X dL_back_136 rfl 4 rfl rfl ?_
        refine g_callSRX (w0 := []) (n := 1) (As := [_]) (rest := []) X (c_L_print l D a f nb1 wV td vl L pt fl kd ((kpV - 1) - 1) (fqa pqV) (fqa psS) (tlW D pqV psS) mk n b hW hNRu) gL_back_L_print rfl (by decide +kernel) ⟨Nat.le_of_ble_eq_true rfl, Nat.le_of_ble_eq_true rfl⟩ rfl rfl rfl (Nat.le_of_ble_eq_true rfl) dL_back_137 ⟨Nat.le_of_ble_eq_true rfl, Nat.le_of_ble_eq_true rfl⟩ rfl (fun v hv => ?_)
        obtain rfl := hv
        refine g_st (st' := [_]) rfl ?_
        refine g_lload_n X dL_back_140 rfl 3 rfl rfl ?_
        refine g_lcmp X dL_back_141 rfl ?_
        refine g_if_eq X dL_back_142 147 (by decide) rfl (fun h142 => ?_) (fun h142 => absurd (lg_self _) h142)
        refine g_aload_n X dL_back_147 rfl 4 rfl rfl ?_
        refine g_iconst (v := (5 : Int32)) X dL_back_148 (by decide) rfl ?_
        refine g_bipush (v := (9 : Int32)) X dL_back_149 (by decide) rfl ?_
        refine g_iconst (v := (2 : Int32)) X dL_back_151 (by decide) rfl ?_
        refine g_callVXs (n := 3) (As := [_, _, _]) (rest := []) X hAg rfl (c_X6_come l D a f nb1 wV td vl L pt fl kd ((kpV - 1) - 1) pqV psS mk n b hW hNRu hF hk1 hHL1.hq _ _ _) gL_back_X6_come rfl (by decide +kernel) ⟨Nat.le_of_ble_eq_true rfl, Nat.le_of_ble_eq_true rfl⟩ 20 rfl rfl rfl rfl (Nat.le_of_ble_eq_true rfl) dL_back_152 ⟨Nat.le_of_ble_eq_true rfl, Nat.le_of_ble_eq_true rfl⟩ rfl (fun v w9 hv => ?_)
        obtain ⟨rfl, fX, naX, wX, kpX, pqX, efX, hNX, hAX, hkpX, hHLX, ekX, rfl⟩ := ch_out hv hk1 hHL1 hF ⟨_, hNRu, hn8⟩
        have hADX := hAX.trans hADu1
        refine ⟨hAX, ?_⟩
        refine g_st (st' := [_]) rfl ?_
        obtain ⟨mkX, nX, bX, hWX⟩ : WFx fX := by rw [efX]; exact come_ok ⟨mk, n, b, hW⟩
        have hNRX := hNX.to hWX
        have hFX : FB fX := by rw [efX]; exact come_fb ⟨mk, n, b, hW⟩ hF
        obtain ⟨hmkX, hm40X, hn8X, hb0X, hb0X1, hb0X8, hn8Xb, hstX, hnoX, howX, hdoX, hb0Xa, hb0Xc, hb0Xd, hb0Xz⟩ := id hWX
        have hm8X : nX ≤ 8 := by omega
        obtain ⟨eN1X, eN2X, -⟩ := hWX.N
        refine g_pop X dL_back_155 rfl rfl ?_
        refine g_aload_n X dL_back_156 rfl 4 rfl rfl ?_
        refine g_iload_n X dL_back_157 rfl 5 rfl rfl ?_
        refine g_iconst (v := (2 : Int32)) X dL_back_158 (by decide) rfl ?_
        refine g_callSR (n := 2) (As := [_, _]) (rest := [_]) X (c_L_up l D (vv) 2 (by omega)) gL_back_L_up rfl (by decide +kernel) ⟨Nat.le_of_ble_eq_true rfl, Nat.le_of_ble_eq_true rfl⟩ [] rfl rfl rfl rfl (Nat.le_of_ble_eq_true rfl) dL_back_159 ⟨Nat.le_of_ble_eq_true rfl, Nat.le_of_ble_eq_true rfl⟩ rfl (fun v hv => ?_)
        obtain rfl := hv
        refine g_st (st' := [_, _]) rfl ?_
        refine g_upn (by omega) (fun u159 hu159 eu159 => ?_)
        refine g_callVXs (n := 1) (As := [_]) (rest := []) X hAg rfl (c_X6_restore l D a fX naX wX td vl L pt fl kd kpX pqX psS hFX hkpX hHLX.hq hFs _) gL_back_X6_restore rfl (by decide +kernel) ⟨Nat.le_of_ble_eq_true rfl, Nat.le_of_ble_eq_true rfl⟩ 20 rfl rfl rfl rfl (Nat.le_of_ble_eq_true rfl) dL_back_162 ⟨Nat.le_of_ble_eq_true rfl, Nat.le_of_ble_eq_true rfl⟩ rfl (fun v w9 hv => ?_)
        obtain ⟨hAY, hv⟩ := hv
        have eu : u159 = u15 := by omega
        subst eu
        rw [nI_clamp (by omega)] at hv
        rcases hv with ⟨hr2, -⟩ | ⟨-, hz, -⟩ | ⟨-, bR, gR, nbR, b0, hz, rfl, rfl⟩
        · exact absurd (rng_nI' hu159 (by omega)) (by rw [hr2]; exact Bool.false_ne_true)
        · rw [hp1] at hz; cases hz
        rw [hp1] at hz
        cases hz
        obtain ⟨kpY, pqY, ekY, epY, hkpY, hHLY⟩ := co_hist (b0 := b0) (x := f 76) (by rw [hmk]; exact nI_ge0 (by omega)) hHLX hkpX hFX ⟨nX, hNRX, hn8X⟩
        rw [ekY, epY] at hAY ⊢
        refine ⟨hAY, ?_⟩
        refine g_st (st' := [_]) rfl ?_
        refine g_topi (hmk) ?_
        have hADY := hAY.trans hADX
        refine g_iload X dL_back_165 2 rfl rfl ?_
        refine g_icmp_ne X dL_back_167 199 (by decide) rfl (fun h167 => absurd rfl h167) (fun h167 => ?_)
        refine g_aload_n X dL_back_170 rfl 4 rfl rfl ?_
        refine g_callSRX (w0 := []) (n := 1) (As := [_]) (rest := []) X (c_L_print l D a f na wX td vl L pt fl kd kpY (fqa pqY) (fqa psS) (tlW D pqY psS) mk n b hW hNR) gL_back_L_print rfl (by decide +kernel) ⟨Nat.le_of_ble_eq_true rfl, Nat.le_of_ble_eq_true rfl⟩ rfl rfl rfl (Nat.le_of_ble_eq_true rfl) dL_back_171 ⟨Nat.le_of_ble_eq_true rfl, Nat.le_of_ble_eq_true rfl⟩ rfl (fun v hv => ?_)
        obtain rfl := hv
        refine g_st (st' := [_]) rfl ?_
        refine g_lload_n X dL_back_174 rfl 3 rfl rfl ?_
        refine g_lcmp X dL_back_175 rfl ?_
        refine g_if_ne X dL_back_176 199 (by decide) rfl (fun h176 => absurd (lg_self _) h176) (fun h176 => ?_)
        refine g_aload_n X dL_back_179 rfl 4 rfl rfl ?_
        refine g_iconst (v := (1 : Int32)) X dL_back_180 (by decide) rfl ?_
        refine g_iload_n X dL_back_181 rfl 5 rfl rfl ?_
        refine g_iconst (v := (2 : Int32)) X dL_back_182 (by decide) rfl ?_
        refine g_callSR (n := 2) (As := [_, _]) (rest := [_, _]) X (c_L_up l D (vv) 2 (by omega)) gL_back_L_up rfl (by decide +kernel) ⟨Nat.le_of_ble_eq_true rfl, Nat.le_of_ble_eq_true rfl⟩ [] rfl rfl rfl rfl (Nat.le_of_ble_eq_true rfl) dL_back_183 ⟨Nat.le_of_ble_eq_true rfl, Nat.le_of_ble_eq_true rfl⟩ rfl (fun v hv => ?_)
        obtain rfl := hv
        refine g_st (st' := [_, _, _]) rfl ?_
        refine g_upn (by omega) (fun u183 hu183 eu183 => ?_)
        refine g_isub X dL_back_186 rfl ?_
        refine g_topi (y := nI (1 - u183)) (pk_sub (a := 1) (b := u183) (by omega)) ?_
        refine g_callVXs (n := 1) (As := [_]) (rest := []) X hAg rfl (c_X6_restore l D a f na wX td vl L pt fl kd kpY pqY psS hF hkpY hHLY.hq hFs _) gL_back_X6_restore rfl (by decide +kernel) ⟨Nat.le_of_ble_eq_true rfl, Nat.le_of_ble_eq_true rfl⟩ 20 rfl rfl rfl rfl (Nat.le_of_ble_eq_true rfl) dL_back_187 ⟨Nat.le_of_ble_eq_true rfl, Nat.le_of_ble_eq_true rfl⟩ rfl (fun v w9 hv => ?_)
        obtain ⟨-, hv⟩ := hv
        rw [nI_clamp (by omega)] at hv
        rcases hv with ⟨hr2, -⟩ | ⟨-, hz, rfl, rfl⟩ | ⟨-, bR, gR, nbR, b0R, hz, -⟩
        · exact absurd (rng_nI' (n := 2) (k := 1 - u183) (by omega) (by omega)) (by rw [hr2]; exact Bool.false_ne_true)
        rotate_left
        · rw [hp0 (1 - u183) (by omega) (by omega)] at hz; cases hz
        refine ⟨AD.rf rfl, ?_⟩
        refine g_st (st' := [_]) rfl ?_
        refine g_bipush (v := ((-5) : Int32)) X dL_back_190 (by decide) rfl ?_
        refine g_icmp_ne X dL_back_192 199 (by decide) rfl (fun h192 => absurd h192 (by decide)) (fun h192 => ?_)
        refine g_iconst (v := (1 : Int32)) X dL_back_195 (by decide) rfl ?_
        refine g_goto X dL_back_196 200 (by decide) ?_
        refine g_retW X hr (by first | rfl | exact b2i_nar _) dL_back_200 hAe ?_
        exact ⟨rfl, na, wX, td, vl, L, pt, fl, kd, kpY, pqY, psS, ⟨n, hNR, hn8⟩, hADY, rfl⟩
      · have hHwt : HL kpV pqV (fT :: fP :: f :: (List.take 3 (List.take 4 (List.take 5 l9)))) := hN_t (Int32.not_lt.mp h105) hHLV
        refine g_iinc (v := nI (2 + 1)) X [(5, _), (4, _), (2, _), (0, _), (1, _)] dL_back_108 0 rfl (nI_add 2 1) (by decide) rfl rfl ?_
        refine g_iconst (v := (0 : Int32)) X dL_back_111 (by decide) rfl ?_
        refine g_istore X [(6, _), (5, _), (4, _), (2, _), (0, _), (1, _)] dL_back_112 (by decide) rfl rfl ?_
        refine g_iload X dL_back_114 0 rfl rfl ?_
        refine g_iload X dL_back_116 1 rfl rfl ?_
        refine g_icmp_ge X dL_back_118 136 (by decide) rfl (fun h118 => absurd (nj_le (a := (2 + 1)) (b := 0) (by omega) (by omega) h118) (by omega)) (fun h118 => ?_)
        have i118 := nj_nle (a := (2 + 1)) (b := 0) (by omega) (by omega) h118
        refine g_aload_n X dL_back_121 rfl 4 rfl rfl ?_
        refine g_callVXs (n := 0) (As := []) (rest := []) X hAg rfl (c_X6_undo l D a fV naV wV td vl L pt fl kd kpV pqV psS hkpV hHwt.hq hHwt.fb) gL_back_X6_undo rfl (by decide +kernel) ⟨Nat.le_of_ble_eq_true rfl, Nat.le_of_ble_eq_true rfl⟩ 20 rfl rfl rfl rfl (Nat.le_of_ble_eq_true rfl) dL_back_122 ⟨Nat.le_of_ble_eq_true rfl, Nat.le_of_ble_eq_true rfl⟩ rfl (fun v w9 hv => ?_)
        obtain ⟨r9, rfl, hv⟩ := hv
        obtain ⟨hk1, hpp, hHL0⟩ := hHwt.pop
        rcases hv with ⟨hk0, -, -⟩ | ⟨-, rfl, bU, gU, nb0, hpU, rfl⟩
        · omega
        obtain ⟨eg, hN0, -⟩ := hpp _ _ _ hpU
        replace eg := eg.symm
        subst eg
        refine ⟨AD.rf rfl, ?_⟩
        refine g_st (st' := [_]) rfl ?_
        have hk0 : kpV - 1 ≤ 6 := by omega
        have hADu0 : AD (wB D a fT nb0 wV td vl L pt fl kd (kpV - 1) (fqa pqV) (fqa psS) (tlW D pqV psS)) (wB D a f na w td vl L pt fl kd kp (fqa pq) (fqa ps) (tlW D pq ps)) := AD.trans (v := wB D a fV naV wV td vl L pt fl kd kpV (fqa pqV) (fqa psS) (tlW D pqV psS)) (AD.rf rfl) hADV
        refine g_if_ge X dL_back_125 130 (by decide) rfl (fun h125 => ?_) (fun h125 => absurd (nI_ge0 (by omega)) h125)
        have i125 := nj_le (a := 0) (b := (kpV - 1)) (by omega) (by omega) h125
        refine g_iinc (v := nI (0 + 1)) X [(6, _), (5, _), (4, _), (2, _), (0, _), (1, _)] dL_back_130 0 rfl (nI_add 0 1) (by decide) rfl rfl ?_
        refine g_goto X dL_back_133 114 (by decide) ?_
        refine g_iload X dL_back_114 0 rfl rfl ?_
        refine g_iload X dL_back_116 1 rfl rfl ?_
        refine g_icmp_ge X dL_back_118 136 (by decide) rfl (fun h118 => absurd (nj_le (a := (2 + 1)) (b := (0 + 1)) (by omega) (by omega) h118) (by omega)) (fun h118 => ?_)
        have i118 := nj_nle (a := (2 + 1)) (b := (0 + 1)) (by omega) (by omega) h118
        refine g_aload_n X dL_back_121 rfl 4 rfl rfl ?_
        refine g_callVXs (n := 0) (As := []) (rest := []) X hAg rfl (c_X6_undo l D a fT nb0 wV td vl L pt fl kd (kpV - 1) pqV psS hk0 hHL0.hq hHL0.fb) gL_back_X6_undo rfl (by decide +kernel) ⟨Nat.le_of_ble_eq_true rfl, Nat.le_of_ble_eq_true rfl⟩ 20 rfl rfl rfl rfl (Nat.le_of_ble_eq_true rfl) dL_back_122 ⟨Nat.le_of_ble_eq_true rfl, Nat.le_of_ble_eq_true rfl⟩ rfl (fun v w9 hv => ?_)
        obtain ⟨r9, rfl, hv⟩ := hv
        obtain ⟨hk1, hpp, hHL1⟩ := hHL0.pop
        rcases hv with ⟨hk0, -, -⟩ | ⟨-, rfl, bU, gU, nb1, hpU, rfl⟩
        · omega
        obtain ⟨eg, hN1, -⟩ := hpp _ _ _ hpU
        replace eg := eg.symm
        subst eg
        refine ⟨AD.rf rfl, ?_⟩
        refine g_st (st' := [_]) rfl ?_
        have hk1 : (kpV - 1) - 1 ≤ 6 := by omega
        have hADu1 : AD (wB D a fP nb1 wV td vl L pt fl kd ((kpV - 1) - 1) (fqa pqV) (fqa psS) (tlW D pqV psS)) (wB D a f na w td vl L pt fl kd kp (fqa pq) (fqa ps) (tlW D pq ps)) := AD.trans (v := wB D a fT nb0 wV td vl L pt fl kd (kpV - 1) (fqa pqV) (fqa psS) (tlW D pqV psS)) (AD.rf rfl) hADu0
        refine g_if_ge X dL_back_125 130 (by decide) rfl (fun h125 => ?_) (fun h125 => absurd (nI_ge0 (by omega)) h125)
        have i125 := nj_le (a := 0) (b := ((kpV - 1) - 1)) (by omega) (by omega) h125
        refine g_iinc (v := nI ((0 + 1) + 1)) X [(6, _), (5, _), (4, _), (2, _), (0, _), (1, _)] dL_back_130 0 rfl (nI_add (0 + 1) 1) (by decide) rfl rfl ?_
        refine g_goto X dL_back_133 114 (by decide) ?_
        refine g_iload X dL_back_114 0 rfl rfl ?_
        refine g_iload X dL_back_116 1 rfl rfl ?_
        refine g_icmp_ge X dL_back_118 136 (by decide) rfl (fun h118 => absurd (nj_le (a := (2 + 1)) (b := ((0 + 1) + 1)) (by omega) (by omega) h118) (by omega)) (fun h118 => ?_)
        have i118 := nj_nle (a := (2 + 1)) (b := ((0 + 1) + 1)) (by omega) (by omega) h118
        refine g_aload_n X dL_back_121 rfl 4 rfl rfl ?_
        refine g_callVXs (n := 0) (As := []) (rest := []) X hAg rfl (c_X6_undo l D a fP nb1 wV td vl L pt fl kd ((kpV - 1) - 1) pqV psS hk1 hHL1.hq hHL1.fb) gL_back_X6_undo rfl (by decide +kernel) ⟨Nat.le_of_ble_eq_true rfl, Nat.le_of_ble_eq_true rfl⟩ 20 rfl rfl rfl rfl (Nat.le_of_ble_eq_true rfl) dL_back_122 ⟨Nat.le_of_ble_eq_true rfl, Nat.le_of_ble_eq_true rfl⟩ rfl (fun v w9 hv => ?_)
        obtain ⟨r9, rfl, hv⟩ := hv
        obtain ⟨hk1, hpp, hHL2⟩ := hHL1.pop
        rcases hv with ⟨hk0, -, -⟩ | ⟨-, rfl, bU, gU, nb2, hpU, rfl⟩
        · omega
        obtain ⟨eg, hN2, -⟩ := hpp _ _ _ hpU
        replace eg := eg.symm
        subst eg
        refine ⟨AD.rf rfl, ?_⟩
        refine g_st (st' := [_]) rfl ?_
        have hk2 : ((kpV - 1) - 1) - 1 ≤ 6 := by omega
        have hADu2 : AD (wB D a f nb2 wV td vl L pt fl kd (((kpV - 1) - 1) - 1) (fqa pqV) (fqa psS) (tlW D pqV psS)) (wB D a f na w td vl L pt fl kd kp (fqa pq) (fqa ps) (tlW D pq ps)) := AD.trans (v := wB D a fP nb1 wV td vl L pt fl kd ((kpV - 1) - 1) (fqa pqV) (fqa psS) (tlW D pqV psS)) (AD.rf rfl) hADu1
        refine g_if_ge X dL_back_125 130 (by decide) rfl (fun h125 => ?_) (fun h125 => absurd (nI_ge0 (by omega)) h125)
        have i125 := nj_le (a := 0) (b := (((kpV - 1) - 1) - 1)) (by omega) (by omega) h125
        refine g_iinc (v := nI (((0 + 1) + 1) + 1)) X [(6, _), (5, _), (4, _), (2, _), (0, _), (1, _)] dL_back_130 0 rfl (nI_add ((0 + 1) + 1) 1) (by decide) rfl rfl ?_
        refine g_goto X dL_back_133 114 (by decide) ?_
        refine g_iload X dL_back_114 0 rfl rfl ?_
        refine g_iload X dL_back_116 1 rfl rfl ?_
        refine g_icmp_ge X dL_back_118 136 (by decide) rfl (fun h118 => ?_) (fun h118 => absurd (nj_nle (a := (2 + 1)) (b := (((0 + 1) + 1) + 1)) (by omega) (by omega) h118) (by omega))
        have i118 := nj_le (a := (2 + 1)) (b := (((0 + 1) + 1) + 1)) (by omega) (by omega) h118
        have hNRu := hN2.to hW
        refine g_aload_n X dL_back_136 rfl 4 rfl rfl ?_
        refine g_callSRX (w0 := []) (n := 1) (As := [_]) (rest := []) X (c_L_print l D a f nb2 wV td vl L pt fl kd (((kpV - 1) - 1) - 1) (fqa pqV) (fqa psS) (tlW D pqV psS) mk n b hW hNRu) gL_back_L_print rfl (by decide +kernel) ⟨Nat.le_of_ble_eq_true rfl, Nat.le_of_ble_eq_true rfl⟩ rfl rfl rfl (Nat.le_of_ble_eq_true rfl) dL_back_137 ⟨Nat.le_of_ble_eq_true rfl, Nat.le_of_ble_eq_true rfl⟩ rfl (fun v hv => ?_)
        obtain rfl := hv
        refine g_st (st' := [_]) rfl ?_
        refine g_lload_n X dL_back_140 rfl 3 rfl rfl ?_
        refine g_lcmp X dL_back_141 rfl ?_
        refine g_if_eq X dL_back_142 147 (by decide) rfl (fun h142 => ?_) (fun h142 => absurd (lg_self _) h142)
        refine g_aload_n X dL_back_147 rfl 4 rfl rfl ?_
        refine g_iconst (v := (5 : Int32)) X dL_back_148 (by decide) rfl ?_
        refine g_bipush (v := (9 : Int32)) X dL_back_149 (by decide) rfl ?_
        refine g_iconst (v := (2 : Int32)) X dL_back_151 (by decide) rfl ?_
        refine g_callVXs (n := 3) (As := [_, _, _]) (rest := []) X hAg rfl (c_X6_come l D a f nb2 wV td vl L pt fl kd (((kpV - 1) - 1) - 1) pqV psS mk n b hW hNRu hF hk2 hHL2.hq _ _ _) gL_back_X6_come rfl (by decide +kernel) ⟨Nat.le_of_ble_eq_true rfl, Nat.le_of_ble_eq_true rfl⟩ 20 rfl rfl rfl rfl (Nat.le_of_ble_eq_true rfl) dL_back_152 ⟨Nat.le_of_ble_eq_true rfl, Nat.le_of_ble_eq_true rfl⟩ rfl (fun v w9 hv => ?_)
        obtain ⟨rfl, fX, naX, wX, kpX, pqX, efX, hNX, hAX, hkpX, hHLX, ekX, rfl⟩ := ch_out hv hk2 hHL2 hF ⟨_, hNRu, hn8⟩
        have hADX := hAX.trans hADu2
        refine ⟨hAX, ?_⟩
        refine g_st (st' := [_]) rfl ?_
        obtain ⟨mkX, nX, bX, hWX⟩ : WFx fX := by rw [efX]; exact come_ok ⟨mk, n, b, hW⟩
        have hNRX := hNX.to hWX
        have hFX : FB fX := by rw [efX]; exact come_fb ⟨mk, n, b, hW⟩ hF
        obtain ⟨hmkX, hm40X, hn8X, hb0X, hb0X1, hb0X8, hn8Xb, hstX, hnoX, howX, hdoX, hb0Xa, hb0Xc, hb0Xd, hb0Xz⟩ := id hWX
        have hm8X : nX ≤ 8 := by omega
        obtain ⟨eN1X, eN2X, -⟩ := hWX.N
        refine g_pop X dL_back_155 rfl rfl ?_
        refine g_aload_n X dL_back_156 rfl 4 rfl rfl ?_
        refine g_iload_n X dL_back_157 rfl 5 rfl rfl ?_
        refine g_iconst (v := (2 : Int32)) X dL_back_158 (by decide) rfl ?_
        refine g_callSR (n := 2) (As := [_, _]) (rest := [_]) X (c_L_up l D (vv) 2 (by omega)) gL_back_L_up rfl (by decide +kernel) ⟨Nat.le_of_ble_eq_true rfl, Nat.le_of_ble_eq_true rfl⟩ [] rfl rfl rfl rfl (Nat.le_of_ble_eq_true rfl) dL_back_159 ⟨Nat.le_of_ble_eq_true rfl, Nat.le_of_ble_eq_true rfl⟩ rfl (fun v hv => ?_)
        obtain rfl := hv
        refine g_st (st' := [_, _]) rfl ?_
        refine g_upn (by omega) (fun u159 hu159 eu159 => ?_)
        refine g_callVXs (n := 1) (As := [_]) (rest := []) X hAg rfl (c_X6_restore l D a fX naX wX td vl L pt fl kd kpX pqX psS hFX hkpX hHLX.hq hFs _) gL_back_X6_restore rfl (by decide +kernel) ⟨Nat.le_of_ble_eq_true rfl, Nat.le_of_ble_eq_true rfl⟩ 20 rfl rfl rfl rfl (Nat.le_of_ble_eq_true rfl) dL_back_162 ⟨Nat.le_of_ble_eq_true rfl, Nat.le_of_ble_eq_true rfl⟩ rfl (fun v w9 hv => ?_)
        obtain ⟨hAY, hv⟩ := hv
        have eu : u159 = u15 := by omega
        subst eu
        rw [nI_clamp (by omega)] at hv
        rcases hv with ⟨hr2, -⟩ | ⟨-, hz, -⟩ | ⟨-, bR, gR, nbR, b0, hz, rfl, rfl⟩
        · exact absurd (rng_nI' hu159 (by omega)) (by rw [hr2]; exact Bool.false_ne_true)
        · rw [hp1] at hz; cases hz
        rw [hp1] at hz
        cases hz
        obtain ⟨kpY, pqY, ekY, epY, hkpY, hHLY⟩ := co_hist (b0 := b0) (x := f 76) (by rw [hmk]; exact nI_ge0 (by omega)) hHLX hkpX hFX ⟨nX, hNRX, hn8X⟩
        rw [ekY, epY] at hAY ⊢
        refine ⟨hAY, ?_⟩
        refine g_st (st' := [_]) rfl ?_
        refine g_topi (hmk) ?_
        have hADY := hAY.trans hADX
        refine g_iload X dL_back_165 2 rfl rfl ?_
        refine g_icmp_ne X dL_back_167 199 (by decide) rfl (fun h167 => absurd rfl h167) (fun h167 => ?_)
        refine g_aload_n X dL_back_170 rfl 4 rfl rfl ?_
        refine g_callSRX (w0 := []) (n := 1) (As := [_]) (rest := []) X (c_L_print l D a f na wX td vl L pt fl kd kpY (fqa pqY) (fqa psS) (tlW D pqY psS) mk n b hW hNR) gL_back_L_print rfl (by decide +kernel) ⟨Nat.le_of_ble_eq_true rfl, Nat.le_of_ble_eq_true rfl⟩ rfl rfl rfl (Nat.le_of_ble_eq_true rfl) dL_back_171 ⟨Nat.le_of_ble_eq_true rfl, Nat.le_of_ble_eq_true rfl⟩ rfl (fun v hv => ?_)
        obtain rfl := hv
        refine g_st (st' := [_]) rfl ?_
        refine g_lload_n X dL_back_174 rfl 3 rfl rfl ?_
        refine g_lcmp X dL_back_175 rfl ?_
        refine g_if_ne X dL_back_176 199 (by decide) rfl (fun h176 => absurd (lg_self _) h176) (fun h176 => ?_)
        refine g_aload_n X dL_back_179 rfl 4 rfl rfl ?_
        refine g_iconst (v := (1 : Int32)) X dL_back_180 (by decide) rfl ?_
        refine g_iload_n X dL_back_181 rfl 5 rfl rfl ?_
        refine g_iconst (v := (2 : Int32)) X dL_back_182 (by decide) rfl ?_
        refine g_callSR (n := 2) (As := [_, _]) (rest := [_, _]) X (c_L_up l D (vv) 2 (by omega)) gL_back_L_up rfl (by decide +kernel) ⟨Nat.le_of_ble_eq_true rfl, Nat.le_of_ble_eq_true rfl⟩ [] rfl rfl rfl rfl (Nat.le_of_ble_eq_true rfl) dL_back_183 ⟨Nat.le_of_ble_eq_true rfl, Nat.le_of_ble_eq_true rfl⟩ rfl (fun v hv => ?_)
        obtain rfl := hv
        refine g_st (st' := [_, _, _]) rfl ?_
        refine g_upn (by omega) (fun u183 hu183 eu183 => ?_)
        refine g_isub X dL_back_186 rfl ?_
        refine g_topi (y := nI (1 - u183)) (pk_sub (a := 1) (b := u183) (by omega)) ?_
        refine g_callVXs (n := 1) (As := [_]) (rest := []) X hAg rfl (c_X6_restore l D a f na wX td vl L pt fl kd kpY pqY psS hF hkpY hHLY.hq hFs _) gL_back_X6_restore rfl (by decide +kernel) ⟨Nat.le_of_ble_eq_true rfl, Nat.le_of_ble_eq_true rfl⟩ 20 rfl rfl rfl rfl (Nat.le_of_ble_eq_true rfl) dL_back_187 ⟨Nat.le_of_ble_eq_true rfl, Nat.le_of_ble_eq_true rfl⟩ rfl (fun v w9 hv => ?_)
        obtain ⟨-, hv⟩ := hv
        rw [nI_clamp (by omega)] at hv
        rcases hv with ⟨hr2, -⟩ | ⟨-, hz, rfl, rfl⟩ | ⟨-, bR, gR, nbR, b0R, hz, -⟩
        · exact absurd (rng_nI' (n := 2) (k := 1 - u183) (by omega) (by omega)) (by rw [hr2]; exact Bool.false_ne_true)
        rotate_left
        · rw [hp0 (1 - u183) (by omega) (by omega)] at hz; cases hz
        refine ⟨AD.rf rfl, ?_⟩
        refine g_st (st' := [_]) rfl ?_
        refine g_bipush (v := ((-5) : Int32)) X dL_back_190 (by decide) rfl ?_
        refine g_icmp_ne X dL_back_192 199 (by decide) rfl (fun h192 => absurd h192 (by decide)) (fun h192 => ?_)
        refine g_iconst (v := (1 : Int32)) X dL_back_195 (by decide) rfl ?_
        refine g_goto X dL_back_196 200 (by decide) ?_
        refine g_retW X hr (by first | rfl | exact b2i_nar _) dL_back_200 hAe ?_
        exact ⟨rfl, na, wX, td, vl, L, pt, fl, kd, kpY, pqY, psS, ⟨n, hNR, hn8⟩, hADY, rfl⟩
    · have hHtt : HL kpT pqT (fG :: fP :: f :: (List.take 3 (List.take 4 (List.take 5 l9)))) := hN_t (Int32.not_lt.mp h84) hHLT
      refine g_iinc (v := nI (2 + 1)) X [(5, _), (4, _), (2, _), (0, _), (1, _)] dL_back_87 0 rfl (nI_add 2 1) (by decide) rfl rfl ?_
      refine g_aload_n X dL_back_90 rfl 3 rfl rfl ?_
      refine g_iload_n X dL_back_91 rfl 4 rfl rfl ?_
      refine g_bipush (v := (6 : Int32)) X dL_back_92 (by decide) rfl ?_
      refine g_ishr X dL_back_94 rfl ?_
      refine g_bipush (v := (6 : Int32)) X dL_back_95 (by decide) rfl ?_
      refine g_callSR (n := 2) (As := [_, _]) (rest := [_]) X (c_L_up l D ((vv >>> ((6 : Int32) &&& 31))) 6 (by omega)) gL_back_L_up rfl (by decide +kernel) ⟨Nat.le_of_ble_eq_true rfl, Nat.le_of_ble_eq_true rfl⟩ [] rfl rfl rfl rfl (Nat.le_of_ble_eq_true rfl) dL_back_97 ⟨Nat.le_of_ble_eq_true rfl, Nat.le_of_ble_eq_true rfl⟩ rfl (fun v hv => ?_)
      obtain rfl := hv
      refine g_st (st' := [_, _]) rfl ?_
      refine g_upn (by omega) (fun u97 hu97 eu97 => ?_)
      refine g_iconst (v := (0 : Int32)) X dL_back_100 (by decide) rfl ?_
      refine g_iconst (v := (1 : Int32)) X dL_back_101 (by decide) rfl ?_
      refine g_callVXs (n := 3) (As := [_, _, _]) (rest := []) X hAg rfl (c_X6_come l D a fT naT wT td vl L pt fl kd kpT pqT psS mkT nT bT hWT hNRT hFT hkpT hHtt.hq _ _ _) gL_back_X6_come rfl (by decide +kernel) ⟨Nat.le_of_ble_eq_true rfl, Nat.le_of_ble_eq_true rfl⟩ 20 rfl rfl rfl rfl (Nat.le_of_ble_eq_true rfl) dL_back_102 ⟨Nat.le_of_ble_eq_true rfl, Nat.le_of_ble_eq_true rfl⟩ rfl (fun v w9 hv => ?_)
      obtain ⟨rfl, fV, naV, wV, kpV, pqV, efV, hNV, hAV, hkpV, hHLV, ekV, rfl⟩ := ch_out hv hkpT hHtt hFT ⟨_, hNRT, hn8T⟩
      have hADV := hAV.trans hADT
      refine ⟨hAV, ?_⟩
      refine g_st (st' := [_]) rfl ?_
      obtain ⟨mkV, nV, bV, hWV⟩ : WFx fV := by rw [efV]; exact come_ok ⟨mkT, nT, bT, hWT⟩
      have hSV : SI (cr + 1 + 1) fV := by rw [efV]; exact come_si (d := 0) (e := 1) hWT hST hu97 (by omega) (Or.inl rfl)
      have hNRV := hNV.to hWV
      have hFV : FB fV := by rw [efV]; exact come_fb ⟨mkT, nT, bT, hWT⟩ hFT
      obtain ⟨hmkV, hm40V, hn8V, hb0V, hb0V1, hb0V8, hn8Vb, hstV, hnoV, howV, hdoV, hb0Va, hb0Vc, hb0Vd, hb0Vz⟩ := id hWV
      have hm8V : nV ≤ 8 := by omega
      obtain ⟨eN1V, eN2V, -⟩ := hWV.N
      refine g_if_lt X dL_back_105 111 (by decide) rfl (fun h105 => ?_) (fun h105 => ?_)
      · have hHwf : HL kpV pqV (fG :: fP :: f :: (List.take 3 (List.take 4 (List.take 5 l9)))) := hN_f h105 hHLV
        refine g_iconst (v := (0 : Int32)) X dL_back_111 (by decide) rfl ?_
        refine g_istore X [(6, _), (5, _), (4, _), (2, _), (0, _), (1, _)] dL_back_112 (by decide) rfl rfl ?_
        refine g_iload X dL_back_114 0 rfl rfl ?_
        refine g_iload X dL_back_116 1 rfl rfl ?_
        refine g_icmp_ge X dL_back_118 136 (by decide) rfl (fun h118 => absurd (nj_le (a := (2 + 1)) (b := 0) (by omega) (by omega) h118) (by omega)) (fun h118 => ?_)
        have i118 := nj_nle (a := (2 + 1)) (b := 0) (by omega) (by omega) h118
        refine g_aload_n X dL_back_121 rfl 4 rfl rfl ?_
        refine g_callVXs (n := 0) (As := []) (rest := []) X hAg rfl (c_X6_undo l D a fV naV wV td vl L pt fl kd kpV pqV psS hkpV hHwf.hq hHwf.fb) gL_back_X6_undo rfl (by decide +kernel) ⟨Nat.le_of_ble_eq_true rfl, Nat.le_of_ble_eq_true rfl⟩ 20 rfl rfl rfl rfl (Nat.le_of_ble_eq_true rfl) dL_back_122 ⟨Nat.le_of_ble_eq_true rfl, Nat.le_of_ble_eq_true rfl⟩ rfl (fun v w9 hv => ?_)
        obtain ⟨r9, rfl, hv⟩ := hv
        obtain ⟨hk1, hpp, hHL0⟩ := hHwf.pop
        rcases hv with ⟨hk0, -, -⟩ | ⟨-, rfl, bU, gU, nb0, hpU, rfl⟩
        · omega
        obtain ⟨eg, hN0, -⟩ := hpp _ _ _ hpU
        replace eg := eg.symm
        subst eg
        refine ⟨AD.rf rfl, ?_⟩
        refine g_st (st' := [_]) rfl ?_
        have hk0 : kpV - 1 ≤ 6 := by omega
        have hADu0 : AD (wB D a fG nb0 wV td vl L pt fl kd (kpV - 1) (fqa pqV) (fqa psS) (tlW D pqV psS)) (wB D a f na w td vl L pt fl kd kp (fqa pq) (fqa ps) (tlW D pq ps)) := AD.trans (v := wB D a fV naV wV td vl L pt fl kd kpV (fqa pqV) (fqa psS) (tlW D pqV psS)) (AD.rf rfl) hADV
        refine g_if_ge X dL_back_125 130 (by decide) rfl (fun h125 => ?_) (fun h125 => absurd (nI_ge0 (by omega)) h125)
        have i125 := nj_le (a := 0) (b := (kpV - 1)) (by omega) (by omega) h125
        refine g_iinc (v := nI (0 + 1)) X [(6, _), (5, _), (4, _), (2, _), (0, _), (1, _)] dL_back_130 0 rfl (nI_add 0 1) (by decide) rfl rfl ?_
        refine g_goto X dL_back_133 114 (by decide) ?_
        refine g_iload X dL_back_114 0 rfl rfl ?_
        refine g_iload X dL_back_116 1 rfl rfl ?_
        refine g_icmp_ge X dL_back_118 136 (by decide) rfl (fun h118 => absurd (nj_le (a := (2 + 1)) (b := (0 + 1)) (by omega) (by omega) h118) (by omega)) (fun h118 => ?_)
        have i118 := nj_nle (a := (2 + 1)) (b := (0 + 1)) (by omega) (by omega) h118
        refine g_aload_n X dL_back_121 rfl 4 rfl rfl ?_
        refine g_callVXs (n := 0) (As := []) (rest := []) X hAg rfl (c_X6_undo l D a fG nb0 wV td vl L pt fl kd (kpV - 1) pqV psS hk0 hHL0.hq hHL0.fb) gL_back_X6_undo rfl (by decide +kernel) ⟨Nat.le_of_ble_eq_true rfl, Nat.le_of_ble_eq_true rfl⟩ 20 rfl rfl rfl rfl (Nat.le_of_ble_eq_true rfl) dL_back_122 ⟨Nat.le_of_ble_eq_true rfl, Nat.le_of_ble_eq_true rfl⟩ rfl (fun v w9 hv => ?_)
        obtain ⟨r9, rfl, hv⟩ := hv
        obtain ⟨hk1, hpp, hHL1⟩ := hHL0.pop
        rcases hv with ⟨hk0, -, -⟩ | ⟨-, rfl, bU, gU, nb1, hpU, rfl⟩
        · omega
        obtain ⟨eg, hN1, -⟩ := hpp _ _ _ hpU
        replace eg := eg.symm
        subst eg
        refine ⟨AD.rf rfl, ?_⟩
        refine g_st (st' := [_]) rfl ?_
        have hk1 : (kpV - 1) - 1 ≤ 6 := by omega
        have hADu1 : AD (wB D a fP nb1 wV td vl L pt fl kd ((kpV - 1) - 1) (fqa pqV) (fqa psS) (tlW D pqV psS)) (wB D a f na w td vl L pt fl kd kp (fqa pq) (fqa ps) (tlW D pq ps)) := AD.trans (v := wB D a fG nb0 wV td vl L pt fl kd (kpV - 1) (fqa pqV) (fqa psS) (tlW D pqV psS)) (AD.rf rfl) hADu0
        refine g_if_ge X dL_back_125 130 (by decide) rfl (fun h125 => ?_) (fun h125 => absurd (nI_ge0 (by omega)) h125)
        have i125 := nj_le (a := 0) (b := ((kpV - 1) - 1)) (by omega) (by omega) h125
        refine g_iinc (v := nI ((0 + 1) + 1)) X [(6, _), (5, _), (4, _), (2, _), (0, _), (1, _)] dL_back_130 0 rfl (nI_add (0 + 1) 1) (by decide) rfl rfl ?_
        refine g_goto X dL_back_133 114 (by decide) ?_
        refine g_iload X dL_back_114 0 rfl rfl ?_
        refine g_iload X dL_back_116 1 rfl rfl ?_
        refine g_icmp_ge X dL_back_118 136 (by decide) rfl (fun h118 => absurd (nj_le (a := (2 + 1)) (b := ((0 + 1) + 1)) (by omega) (by omega) h118) (by omega)) (fun h118 => ?_)
        have i118 := nj_nle (a := (2 + 1)) (b := ((0 + 1) + 1)) (by omega) (by omega) h118
        refine g_aload_n X dL_back_121 rfl 4 rfl rfl ?_
        refine g_callVXs (n := 0) (As := []) (rest := []) X hAg rfl (c_X6_undo l D a fP nb1 wV td vl L pt fl kd ((kpV - 1) - 1) pqV psS hk1 hHL1.hq hHL1.fb) gL_back_X6_undo rfl (by decide +kernel) ⟨Nat.le_of_ble_eq_true rfl, Nat.le_of_ble_eq_true rfl⟩ 20 rfl rfl rfl rfl (Nat.le_of_ble_eq_true rfl) dL_back_122 ⟨Nat.le_of_ble_eq_true rfl, Nat.le_of_ble_eq_true rfl⟩ rfl (fun v w9 hv => ?_)
        obtain ⟨r9, rfl, hv⟩ := hv
        obtain ⟨hk1, hpp, hHL2⟩ := hHL1.pop
        rcases hv with ⟨hk0, -, -⟩ | ⟨-, rfl, bU, gU, nb2, hpU, rfl⟩
        · omega
        obtain ⟨eg, hN2, -⟩ := hpp _ _ _ hpU
        replace eg := eg.symm
        subst eg
        refine ⟨AD.rf rfl, ?_⟩
        refine g_st (st' := [_]) rfl ?_
        have hk2 : ((kpV - 1) - 1) - 1 ≤ 6 := by omega
        have hADu2 : AD (wB D a f nb2 wV td vl L pt fl kd (((kpV - 1) - 1) - 1) (fqa pqV) (fqa psS) (tlW D pqV psS)) (wB D a f na w td vl L pt fl kd kp (fqa pq) (fqa ps) (tlW D pq ps)) := AD.trans (v := wB D a fP nb1 wV td vl L pt fl kd ((kpV - 1) - 1) (fqa pqV) (fqa psS) (tlW D pqV psS)) (AD.rf rfl) hADu1
        refine g_if_ge X dL_back_125 130 (by decide) rfl (fun h125 => ?_) (fun h125 => absurd (nI_ge0 (by omega)) h125)
        have i125 := nj_le (a := 0) (b := (((kpV - 1) - 1) - 1)) (by omega) (by omega) h125
        refine g_iinc (v := nI (((0 + 1) + 1) + 1)) X [(6, _), (5, _), (4, _), (2, _), (0, _), (1, _)] dL_back_130 0 rfl (nI_add ((0 + 1) + 1) 1) (by decide) rfl rfl ?_
        refine g_goto X dL_back_133 114 (by decide) ?_
        refine g_iload X dL_back_114 0 rfl rfl ?_
        refine g_iload X dL_back_116 1 rfl rfl ?_
        refine g_icmp_ge X dL_back_118 136 (by decide) rfl (fun h118 => ?_) (fun h118 => absurd (nj_nle (a := (2 + 1)) (b := (((0 + 1) + 1) + 1)) (by omega) (by omega) h118) (by omega))
        have i118 := nj_le (a := (2 + 1)) (b := (((0 + 1) + 1) + 1)) (by omega) (by omega) h118
        have hNRu := hN2.to hW
        refine g_aload_n X dL_back_136 rfl 4 rfl rfl ?_
        refine g_callSRX (w0 := []) (n := 1) (As := [_]) (rest := []) X (c_L_print l D a f nb2 wV td vl L pt fl kd (((kpV - 1) - 1) - 1) (fqa pqV) (fqa psS) (tlW D pqV psS) mk n b hW hNRu) gL_back_L_print rfl (by decide +kernel) ⟨Nat.le_of_ble_eq_true rfl, Nat.le_of_ble_eq_true rfl⟩ rfl rfl rfl (Nat.le_of_ble_eq_true rfl) dL_back_137 ⟨Nat.le_of_ble_eq_true rfl, Nat.le_of_ble_eq_true rfl⟩ rfl (fun v hv => ?_)
        obtain rfl := hv
        refine g_st (st' := [_]) rfl ?_
        refine g_lload_n X dL_back_140 rfl 3 rfl rfl ?_
        refine g_lcmp X dL_back_141 rfl ?_
        refine g_if_eq X dL_back_142 147 (by decide) rfl (fun h142 => ?_) (fun h142 => absurd (lg_self _) h142)
        refine g_aload_n X dL_back_147 rfl 4 rfl rfl ?_
        refine g_iconst (v := (5 : Int32)) X dL_back_148 (by decide) rfl ?_
        refine g_bipush (v := (9 : Int32)) X dL_back_149 (by decide) rfl ?_
        refine g_iconst (v := (2 : Int32)) X dL_back_151 (by decide) rfl ?_
        refine g_callVXs (n := 3) (As := [_, _, _]) (rest := []) X hAg rfl (c_X6_come l D a f nb2 wV td vl L pt fl kd (((kpV - 1) - 1) - 1) pqV psS mk n b hW hNRu hF hk2 hHL2.hq _ _ _) gL_back_X6_come rfl (by decide +kernel) ⟨Nat.le_of_ble_eq_true rfl, Nat.le_of_ble_eq_true rfl⟩ 20 rfl rfl rfl rfl (Nat.le_of_ble_eq_true rfl) dL_back_152 ⟨Nat.le_of_ble_eq_true rfl, Nat.le_of_ble_eq_true rfl⟩ rfl (fun v w9 hv => ?_)
        obtain ⟨rfl, fX, naX, wX, kpX, pqX, efX, hNX, hAX, hkpX, hHLX, ekX, rfl⟩ := ch_out hv hk2 hHL2 hF ⟨_, hNRu, hn8⟩
        have hADX := hAX.trans hADu2
        refine ⟨hAX, ?_⟩
        refine g_st (st' := [_]) rfl ?_
        obtain ⟨mkX, nX, bX, hWX⟩ : WFx fX := by rw [efX]; exact come_ok ⟨mk, n, b, hW⟩
        have hNRX := hNX.to hWX
        have hFX : FB fX := by rw [efX]; exact come_fb ⟨mk, n, b, hW⟩ hF
        obtain ⟨hmkX, hm40X, hn8X, hb0X, hb0X1, hb0X8, hn8Xb, hstX, hnoX, howX, hdoX, hb0Xa, hb0Xc, hb0Xd, hb0Xz⟩ := id hWX
        have hm8X : nX ≤ 8 := by omega
        obtain ⟨eN1X, eN2X, -⟩ := hWX.N
        refine g_pop X dL_back_155 rfl rfl ?_
        refine g_aload_n X dL_back_156 rfl 4 rfl rfl ?_
        refine g_iload_n X dL_back_157 rfl 5 rfl rfl ?_
        refine g_iconst (v := (2 : Int32)) X dL_back_158 (by decide) rfl ?_
        refine g_callSR (n := 2) (As := [_, _]) (rest := [_]) X (c_L_up l D (vv) 2 (by omega)) gL_back_L_up rfl (by decide +kernel) ⟨Nat.le_of_ble_eq_true rfl, Nat.le_of_ble_eq_true rfl⟩ [] rfl rfl rfl rfl (Nat.le_of_ble_eq_true rfl) dL_back_159 ⟨Nat.le_of_ble_eq_true rfl, Nat.le_of_ble_eq_true rfl⟩ rfl (fun v hv => ?_)
        obtain rfl := hv
        refine g_st (st' := [_, _]) rfl ?_
        refine g_upn (by omega) (fun u159 hu159 eu159 => ?_)
        refine g_callVXs (n := 1) (As := [_]) (rest := []) X hAg rfl (c_X6_restore l D a fX naX wX td vl L pt fl kd kpX pqX psS hFX hkpX hHLX.hq hFs _) gL_back_X6_restore rfl (by decide +kernel) ⟨Nat.le_of_ble_eq_true rfl, Nat.le_of_ble_eq_true rfl⟩ 20 rfl rfl rfl rfl (Nat.le_of_ble_eq_true rfl) dL_back_162 ⟨Nat.le_of_ble_eq_true rfl, Nat.le_of_ble_eq_true rfl⟩ rfl (fun v w9 hv => ?_)
        obtain ⟨hAY, hv⟩ := hv
        have eu : u159 = u15 := by omega
        subst eu
        rw [nI_clamp (by omega)] at hv
        rcases hv with ⟨hr2, -⟩ | ⟨-, hz, -⟩ | ⟨-, bR, gR, nbR, b0, hz, rfl, rfl⟩
        · exact absurd (rng_nI' hu159 (by omega)) (by rw [hr2]; exact Bool.false_ne_true)
        · rw [hp1] at hz; cases hz
        rw [hp1] at hz
        cases hz
        obtain ⟨kpY, pqY, ekY, epY, hkpY, hHLY⟩ := co_hist (b0 := b0) (x := f 76) (by rw [hmk]; exact nI_ge0 (by omega)) hHLX hkpX hFX ⟨nX, hNRX, hn8X⟩
        rw [ekY, epY] at hAY ⊢
        refine ⟨hAY, ?_⟩
        refine g_st (st' := [_]) rfl ?_
        refine g_topi (hmk) ?_
        have hADY := hAY.trans hADX
        refine g_iload X dL_back_165 2 rfl rfl ?_
        refine g_icmp_ne X dL_back_167 199 (by decide) rfl (fun h167 => absurd rfl h167) (fun h167 => ?_)
        refine g_aload_n X dL_back_170 rfl 4 rfl rfl ?_
        refine g_callSRX (w0 := []) (n := 1) (As := [_]) (rest := []) X (c_L_print l D a f na wX td vl L pt fl kd kpY (fqa pqY) (fqa psS) (tlW D pqY psS) mk n b hW hNR) gL_back_L_print rfl (by decide +kernel) ⟨Nat.le_of_ble_eq_true rfl, Nat.le_of_ble_eq_true rfl⟩ rfl rfl rfl (Nat.le_of_ble_eq_true rfl) dL_back_171 ⟨Nat.le_of_ble_eq_true rfl, Nat.le_of_ble_eq_true rfl⟩ rfl (fun v hv => ?_)
        obtain rfl := hv
        refine g_st (st' := [_]) rfl ?_
        refine g_lload_n X dL_back_174 rfl 3 rfl rfl ?_
        refine g_lcmp X dL_back_175 rfl ?_
        refine g_if_ne X dL_back_176 199 (by decide) rfl (fun h176 => absurd (lg_self _) h176) (fun h176 => ?_)
        refine g_aload_n X dL_back_179 rfl 4 rfl rfl ?_
        refine g_iconst (v := (1 : Int32)) X dL_back_180 (by decide) rfl ?_
        refine g_iload_n X dL_back_181 rfl 5 rfl rfl ?_
        refine g_iconst (v := (2 : Int32)) X dL_back_182 (by decide) rfl ?_
        refine g_callSR (n := 2) (As := [_, _]) (rest := [_, _]) X (c_L_up l D (vv) 2 (by omega)) gL_back_L_up rfl (by decide +kernel) ⟨Nat.le_of_ble_eq_true rfl, Nat.le_of_ble_eq_true rfl⟩ [] rfl rfl rfl rfl (Nat.le_of_ble_eq_true rfl) dL_back_183 ⟨Nat.le_of_ble_eq_true rfl, Nat.le_of_ble_eq_true rfl⟩ rfl (fun v hv => ?_)
        obtain rfl := hv
        refine g_st (st' := [_, _, _]) rfl ?_
        refine g_upn (by omega) (fun u183 hu183 eu183 => ?_)
        refine g_isub X dL_back_186 rfl ?_
        refine g_topi (y := nI (1 - u183)) (pk_sub (a := 1) (b := u183) (by omega)) ?_
        refine g_callVXs (n := 1) (As := [_]) (rest := []) X hAg rfl (c_X6_restore l D a f na wX td vl L pt fl kd kpY pqY psS hF hkpY hHLY.hq hFs _) gL_back_X6_restore rfl (by decide +kernel) ⟨Nat.le_of_ble_eq_true rfl, Nat.le_of_ble_eq_true rfl⟩ 20 rfl rfl rfl rfl (Nat.le_of_ble_eq_true rfl) dL_back_187 ⟨Nat.le_of_ble_eq_true rfl, Nat.le_of_ble_eq_true rfl⟩ rfl (fun v w9 hv => ?_)
        obtain ⟨-, hv⟩ := hv
        rw [nI_clamp (by omega)] at hv
        rcases hv with ⟨hr2, -⟩ | ⟨-, hz, rfl, rfl⟩ | ⟨-, bR, gR, nbR, b0R, hz, -⟩
        · exact absurd (rng_nI' (n := 2) (k := 1 - u183) (by omega) (by omega)) (by rw [hr2]; exact Bool.false_ne_true)
        rotate_left
        · rw [hp0 (1 - u183) (by omega) (by omega)] at hz; cases hz
        refine ⟨AD.rf rfl, ?_⟩
        refine g_st (st' := [_]) rfl ?_
        refine g_bipush (v := ((-5) : Int32)) X dL_back_190 (by decide) rfl ?_
        refine g_icmp_ne X dL_back_192 199 (by decide) rfl (fun h192 => absurd h192 (by decide)) (fun h192 => ?_)
        refine g_iconst (v := (1 : Int32)) X dL_back_195 (by decide) rfl ?_
        refine g_goto X dL_back_196 200 (by decide) ?_
        refine g_retW X hr (by first | rfl | exact b2i_nar _) dL_back_200 hAe ?_
        exact ⟨rfl, na, wX, td, vl, L, pt, fl, kd, kpY, pqY, psS, ⟨n, hNR, hn8⟩, hADY, rfl⟩
      · have hHwt : HL kpV pqV (fT :: fG :: fP :: f :: (List.take 2 (List.take 3 (List.take 4 (List.take 5 l9))))) := hN_t (Int32.not_lt.mp h105) hHLV
        refine g_iinc (v := nI ((2 + 1) + 1)) X [(5, _), (4, _), (2, _), (0, _), (1, _)] dL_back_108 0 rfl (nI_add (2 + 1) 1) (by decide) rfl rfl ?_
        refine g_iconst (v := (0 : Int32)) X dL_back_111 (by decide) rfl ?_
        refine g_istore X [(6, _), (5, _), (4, _), (2, _), (0, _), (1, _)] dL_back_112 (by decide) rfl rfl ?_
        refine g_iload X dL_back_114 0 rfl rfl ?_
        refine g_iload X dL_back_116 1 rfl rfl ?_
        refine g_icmp_ge X dL_back_118 136 (by decide) rfl (fun h118 => absurd (nj_le (a := ((2 + 1) + 1)) (b := 0) (by omega) (by omega) h118) (by omega)) (fun h118 => ?_)
        have i118 := nj_nle (a := ((2 + 1) + 1)) (b := 0) (by omega) (by omega) h118
        refine g_aload_n X dL_back_121 rfl 4 rfl rfl ?_
        refine g_callVXs (n := 0) (As := []) (rest := []) X hAg rfl (c_X6_undo l D a fV naV wV td vl L pt fl kd kpV pqV psS hkpV hHwt.hq hHwt.fb) gL_back_X6_undo rfl (by decide +kernel) ⟨Nat.le_of_ble_eq_true rfl, Nat.le_of_ble_eq_true rfl⟩ 20 rfl rfl rfl rfl (Nat.le_of_ble_eq_true rfl) dL_back_122 ⟨Nat.le_of_ble_eq_true rfl, Nat.le_of_ble_eq_true rfl⟩ rfl (fun v w9 hv => ?_)
        obtain ⟨r9, rfl, hv⟩ := hv
        obtain ⟨hk1, hpp, hHL0⟩ := hHwt.pop
        rcases hv with ⟨hk0, -, -⟩ | ⟨-, rfl, bU, gU, nb0, hpU, rfl⟩
        · omega
        obtain ⟨eg, hN0, -⟩ := hpp _ _ _ hpU
        replace eg := eg.symm
        subst eg
        refine ⟨AD.rf rfl, ?_⟩
        refine g_st (st' := [_]) rfl ?_
        have hk0 : kpV - 1 ≤ 6 := by omega
        have hADu0 : AD (wB D a fT nb0 wV td vl L pt fl kd (kpV - 1) (fqa pqV) (fqa psS) (tlW D pqV psS)) (wB D a f na w td vl L pt fl kd kp (fqa pq) (fqa ps) (tlW D pq ps)) := AD.trans (v := wB D a fV naV wV td vl L pt fl kd kpV (fqa pqV) (fqa psS) (tlW D pqV psS)) (AD.rf rfl) hADV
        refine g_if_ge X dL_back_125 130 (by decide) rfl (fun h125 => ?_) (fun h125 => absurd (nI_ge0 (by omega)) h125)
        have i125 := nj_le (a := 0) (b := (kpV - 1)) (by omega) (by omega) h125
        refine g_iinc (v := nI (0 + 1)) X [(6, _), (5, _), (4, _), (2, _), (0, _), (1, _)] dL_back_130 0 rfl (nI_add 0 1) (by decide) rfl rfl ?_
        refine g_goto X dL_back_133 114 (by decide) ?_
        refine g_iload X dL_back_114 0 rfl rfl ?_
        refine g_iload X dL_back_116 1 rfl rfl ?_
        refine g_icmp_ge X dL_back_118 136 (by decide) rfl (fun h118 => absurd (nj_le (a := ((2 + 1) + 1)) (b := (0 + 1)) (by omega) (by omega) h118) (by omega)) (fun h118 => ?_)
        have i118 := nj_nle (a := ((2 + 1) + 1)) (b := (0 + 1)) (by omega) (by omega) h118
        refine g_aload_n X dL_back_121 rfl 4 rfl rfl ?_
        refine g_callVXs (n := 0) (As := []) (rest := []) X hAg rfl (c_X6_undo l D a fT nb0 wV td vl L pt fl kd (kpV - 1) pqV psS hk0 hHL0.hq hHL0.fb) gL_back_X6_undo rfl (by decide +kernel) ⟨Nat.le_of_ble_eq_true rfl, Nat.le_of_ble_eq_true rfl⟩ 20 rfl rfl rfl rfl (Nat.le_of_ble_eq_true rfl) dL_back_122 ⟨Nat.le_of_ble_eq_true rfl, Nat.le_of_ble_eq_true rfl⟩ rfl (fun v w9 hv => ?_)
        obtain ⟨r9, rfl, hv⟩ := hv
        obtain ⟨hk1, hpp, hHL1⟩ := hHL0.pop
        rcases hv with ⟨hk0, -, -⟩ | ⟨-, rfl, bU, gU, nb1, hpU, rfl⟩
        · omega
        obtain ⟨eg, hN1, -⟩ := hpp _ _ _ hpU
        replace eg := eg.symm
        subst eg
        refine ⟨AD.rf rfl, ?_⟩
        refine g_st (st' := [_]) rfl ?_
        have hk1 : (kpV - 1) - 1 ≤ 6 := by omega
        have hADu1 : AD (wB D a fG nb1 wV td vl L pt fl kd ((kpV - 1) - 1) (fqa pqV) (fqa psS) (tlW D pqV psS)) (wB D a f na w td vl L pt fl kd kp (fqa pq) (fqa ps) (tlW D pq ps)) := AD.trans (v := wB D a fT nb0 wV td vl L pt fl kd (kpV - 1) (fqa pqV) (fqa psS) (tlW D pqV psS)) (AD.rf rfl) hADu0
        refine g_if_ge X dL_back_125 130 (by decide) rfl (fun h125 => ?_) (fun h125 => absurd (nI_ge0 (by omega)) h125)
        have i125 := nj_le (a := 0) (b := ((kpV - 1) - 1)) (by omega) (by omega) h125
        refine g_iinc (v := nI ((0 + 1) + 1)) X [(6, _), (5, _), (4, _), (2, _), (0, _), (1, _)] dL_back_130 0 rfl (nI_add (0 + 1) 1) (by decide) rfl rfl ?_
        refine g_goto X dL_back_133 114 (by decide) ?_
        refine g_iload X dL_back_114 0 rfl rfl ?_
        refine g_iload X dL_back_116 1 rfl rfl ?_
        refine g_icmp_ge X dL_back_118 136 (by decide) rfl (fun h118 => absurd (nj_le (a := ((2 + 1) + 1)) (b := ((0 + 1) + 1)) (by omega) (by omega) h118) (by omega)) (fun h118 => ?_)
        have i118 := nj_nle (a := ((2 + 1) + 1)) (b := ((0 + 1) + 1)) (by omega) (by omega) h118
        refine g_aload_n X dL_back_121 rfl 4 rfl rfl ?_
        refine g_callVXs (n := 0) (As := []) (rest := []) X hAg rfl (c_X6_undo l D a fG nb1 wV td vl L pt fl kd ((kpV - 1) - 1) pqV psS hk1 hHL1.hq hHL1.fb) gL_back_X6_undo rfl (by decide +kernel) ⟨Nat.le_of_ble_eq_true rfl, Nat.le_of_ble_eq_true rfl⟩ 20 rfl rfl rfl rfl (Nat.le_of_ble_eq_true rfl) dL_back_122 ⟨Nat.le_of_ble_eq_true rfl, Nat.le_of_ble_eq_true rfl⟩ rfl (fun v w9 hv => ?_)
        obtain ⟨r9, rfl, hv⟩ := hv
        obtain ⟨hk1, hpp, hHL2⟩ := hHL1.pop
        rcases hv with ⟨hk0, -, -⟩ | ⟨-, rfl, bU, gU, nb2, hpU, rfl⟩
        · omega
        obtain ⟨eg, hN2, -⟩ := hpp _ _ _ hpU
        replace eg := eg.symm
        subst eg
        refine ⟨AD.rf rfl, ?_⟩
        refine g_st (st' := [_]) rfl ?_
        have hk2 : ((kpV - 1) - 1) - 1 ≤ 6 := by omega
        have hADu2 : AD (wB D a fP nb2 wV td vl L pt fl kd (((kpV - 1) - 1) - 1) (fqa pqV) (fqa psS) (tlW D pqV psS)) (wB D a f na w td vl L pt fl kd kp (fqa pq) (fqa ps) (tlW D pq ps)) := AD.trans (v := wB D a fG nb1 wV td vl L pt fl kd ((kpV - 1) - 1) (fqa pqV) (fqa psS) (tlW D pqV psS)) (AD.rf rfl) hADu1
        refine g_if_ge X dL_back_125 130 (by decide) rfl (fun h125 => ?_) (fun h125 => absurd (nI_ge0 (by omega)) h125)
        have i125 := nj_le (a := 0) (b := (((kpV - 1) - 1) - 1)) (by omega) (by omega) h125
        refine g_iinc (v := nI (((0 + 1) + 1) + 1)) X [(6, _), (5, _), (4, _), (2, _), (0, _), (1, _)] dL_back_130 0 rfl (nI_add ((0 + 1) + 1) 1) (by decide) rfl rfl ?_
        refine g_goto X dL_back_133 114 (by decide) ?_
        refine g_iload X dL_back_114 0 rfl rfl ?_
        refine g_iload X dL_back_116 1 rfl rfl ?_
        refine g_icmp_ge X dL_back_118 136 (by decide) rfl (fun h118 => absurd (nj_le (a := ((2 + 1) + 1)) (b := (((0 + 1) + 1) + 1)) (by omega) (by omega) h118) (by omega)) (fun h118 => ?_)
        have i118 := nj_nle (a := ((2 + 1) + 1)) (b := (((0 + 1) + 1) + 1)) (by omega) (by omega) h118
        refine g_aload_n X dL_back_121 rfl 4 rfl rfl ?_
        refine g_callVXs (n := 0) (As := []) (rest := []) X hAg rfl (c_X6_undo l D a fP nb2 wV td vl L pt fl kd (((kpV - 1) - 1) - 1) pqV psS hk2 hHL2.hq hHL2.fb) gL_back_X6_undo rfl (by decide +kernel) ⟨Nat.le_of_ble_eq_true rfl, Nat.le_of_ble_eq_true rfl⟩ 20 rfl rfl rfl rfl (Nat.le_of_ble_eq_true rfl) dL_back_122 ⟨Nat.le_of_ble_eq_true rfl, Nat.le_of_ble_eq_true rfl⟩ rfl (fun v w9 hv => ?_)
        obtain ⟨r9, rfl, hv⟩ := hv
        obtain ⟨hk1, hpp, hHL3⟩ := hHL2.pop
        rcases hv with ⟨hk0, -, -⟩ | ⟨-, rfl, bU, gU, nb3, hpU, rfl⟩
        · omega
        obtain ⟨eg, hN3, -⟩ := hpp _ _ _ hpU
        replace eg := eg.symm
        subst eg
        refine ⟨AD.rf rfl, ?_⟩
        refine g_st (st' := [_]) rfl ?_
        have hk3 : (((kpV - 1) - 1) - 1) - 1 ≤ 6 := by omega
        have hADu3 : AD (wB D a f nb3 wV td vl L pt fl kd ((((kpV - 1) - 1) - 1) - 1) (fqa pqV) (fqa psS) (tlW D pqV psS)) (wB D a f na w td vl L pt fl kd kp (fqa pq) (fqa ps) (tlW D pq ps)) := AD.trans (v := wB D a fP nb2 wV td vl L pt fl kd (((kpV - 1) - 1) - 1) (fqa pqV) (fqa psS) (tlW D pqV psS)) (AD.rf rfl) hADu2
        refine g_if_ge X dL_back_125 130 (by decide) rfl (fun h125 => ?_) (fun h125 => absurd (nI_ge0 (by omega)) h125)
        have i125 := nj_le (a := 0) (b := ((((kpV - 1) - 1) - 1) - 1)) (by omega) (by omega) h125
        refine g_iinc (v := nI ((((0 + 1) + 1) + 1) + 1)) X [(6, _), (5, _), (4, _), (2, _), (0, _), (1, _)] dL_back_130 0 rfl (nI_add (((0 + 1) + 1) + 1) 1) (by decide) rfl rfl ?_
        refine g_goto X dL_back_133 114 (by decide) ?_
        refine g_iload X dL_back_114 0 rfl rfl ?_
        refine g_iload X dL_back_116 1 rfl rfl ?_
        refine g_icmp_ge X dL_back_118 136 (by decide) rfl (fun h118 => ?_) (fun h118 => absurd (nj_nle (a := ((2 + 1) + 1)) (b := ((((0 + 1) + 1) + 1) + 1)) (by omega) (by omega) h118) (by omega))
        have i118 := nj_le (a := ((2 + 1) + 1)) (b := ((((0 + 1) + 1) + 1) + 1)) (by omega) (by omega) h118
        have hNRu := hN3.to hW
        refine g_aload_n X dL_back_136 rfl 4 rfl rfl ?_
        refine g_callSRX (w0 := []) (n := 1) (As := [_]) (rest := []) X (c_L_print l D a f nb3 wV td vl L pt fl kd ((((kpV - 1) - 1) - 1) - 1) (fqa pqV) (fqa psS) (tlW D pqV psS) mk n b hW hNRu) gL_back_L_print rfl (by decide +kernel) ⟨Nat.le_of_ble_eq_true rfl, Nat.le_of_ble_eq_true rfl⟩ rfl rfl rfl (Nat.le_of_ble_eq_true rfl) dL_back_137 ⟨Nat.le_of_ble_eq_true rfl, Nat.le_of_ble_eq_true rfl⟩ rfl (fun v hv => ?_)
        obtain rfl := hv
        refine g_st (st' := [_]) rfl ?_
        refine g_lload_n X dL_back_140 rfl 3 rfl rfl ?_
        refine g_lcmp X dL_back_141 rfl ?_
        refine g_if_eq X dL_back_142 147 (by decide) rfl (fun h142 => ?_) (fun h142 => absurd (lg_self _) h142)
        refine g_aload_n X dL_back_147 rfl 4 rfl rfl ?_
        refine g_iconst (v := (5 : Int32)) X dL_back_148 (by decide) rfl ?_
        refine g_bipush (v := (9 : Int32)) X dL_back_149 (by decide) rfl ?_
        refine g_iconst (v := (2 : Int32)) X dL_back_151 (by decide) rfl ?_
        refine g_callVXs (n := 3) (As := [_, _, _]) (rest := []) X hAg rfl (c_X6_come l D a f nb3 wV td vl L pt fl kd ((((kpV - 1) - 1) - 1) - 1) pqV psS mk n b hW hNRu hF hk3 hHL3.hq _ _ _) gL_back_X6_come rfl (by decide +kernel) ⟨Nat.le_of_ble_eq_true rfl, Nat.le_of_ble_eq_true rfl⟩ 20 rfl rfl rfl rfl (Nat.le_of_ble_eq_true rfl) dL_back_152 ⟨Nat.le_of_ble_eq_true rfl, Nat.le_of_ble_eq_true rfl⟩ rfl (fun v w9 hv => ?_)
        obtain ⟨rfl, fX, naX, wX, kpX, pqX, efX, hNX, hAX, hkpX, hHLX, ekX, rfl⟩ := ch_out hv hk3 hHL3 hF ⟨_, hNRu, hn8⟩
        have hADX := hAX.trans hADu3
        refine ⟨hAX, ?_⟩
        refine g_st (st' := [_]) rfl ?_
        obtain ⟨mkX, nX, bX, hWX⟩ : WFx fX := by rw [efX]; exact come_ok ⟨mk, n, b, hW⟩
        have hNRX := hNX.to hWX
        have hFX : FB fX := by rw [efX]; exact come_fb ⟨mk, n, b, hW⟩ hF
        obtain ⟨hmkX, hm40X, hn8X, hb0X, hb0X1, hb0X8, hn8Xb, hstX, hnoX, howX, hdoX, hb0Xa, hb0Xc, hb0Xd, hb0Xz⟩ := id hWX
        have hm8X : nX ≤ 8 := by omega
        obtain ⟨eN1X, eN2X, -⟩ := hWX.N
        refine g_pop X dL_back_155 rfl rfl ?_
        refine g_aload_n X dL_back_156 rfl 4 rfl rfl ?_
        refine g_iload_n X dL_back_157 rfl 5 rfl rfl ?_
        refine g_iconst (v := (2 : Int32)) X dL_back_158 (by decide) rfl ?_
        refine g_callSR (n := 2) (As := [_, _]) (rest := [_]) X (c_L_up l D (vv) 2 (by omega)) gL_back_L_up rfl (by decide +kernel) ⟨Nat.le_of_ble_eq_true rfl, Nat.le_of_ble_eq_true rfl⟩ [] rfl rfl rfl rfl (Nat.le_of_ble_eq_true rfl) dL_back_159 ⟨Nat.le_of_ble_eq_true rfl, Nat.le_of_ble_eq_true rfl⟩ rfl (fun v hv => ?_)
        obtain rfl := hv
        refine g_st (st' := [_, _]) rfl ?_
        refine g_upn (by omega) (fun u159 hu159 eu159 => ?_)
        refine g_callVXs (n := 1) (As := [_]) (rest := []) X hAg rfl (c_X6_restore l D a fX naX wX td vl L pt fl kd kpX pqX psS hFX hkpX hHLX.hq hFs _) gL_back_X6_restore rfl (by decide +kernel) ⟨Nat.le_of_ble_eq_true rfl, Nat.le_of_ble_eq_true rfl⟩ 20 rfl rfl rfl rfl (Nat.le_of_ble_eq_true rfl) dL_back_162 ⟨Nat.le_of_ble_eq_true rfl, Nat.le_of_ble_eq_true rfl⟩ rfl (fun v w9 hv => ?_)
        obtain ⟨hAY, hv⟩ := hv
        have eu : u159 = u15 := by omega
        subst eu
        rw [nI_clamp (by omega)] at hv
        rcases hv with ⟨hr2, -⟩ | ⟨-, hz, -⟩ | ⟨-, bR, gR, nbR, b0, hz, rfl, rfl⟩
        · exact absurd (rng_nI' hu159 (by omega)) (by rw [hr2]; exact Bool.false_ne_true)
        · rw [hp1] at hz; cases hz
        rw [hp1] at hz
        cases hz
        obtain ⟨kpY, pqY, ekY, epY, hkpY, hHLY⟩ := co_hist (b0 := b0) (x := f 76) (by rw [hmk]; exact nI_ge0 (by omega)) hHLX hkpX hFX ⟨nX, hNRX, hn8X⟩
        rw [ekY, epY] at hAY ⊢
        refine ⟨hAY, ?_⟩
        refine g_st (st' := [_]) rfl ?_
        refine g_topi (hmk) ?_
        have hADY := hAY.trans hADX
        refine g_iload X dL_back_165 2 rfl rfl ?_
        refine g_icmp_ne X dL_back_167 199 (by decide) rfl (fun h167 => absurd rfl h167) (fun h167 => ?_)
        refine g_aload_n X dL_back_170 rfl 4 rfl rfl ?_
        refine g_callSRX (w0 := []) (n := 1) (As := [_]) (rest := []) X (c_L_print l D a f na wX td vl L pt fl kd kpY (fqa pqY) (fqa psS) (tlW D pqY psS) mk n b hW hNR) gL_back_L_print rfl (by decide +kernel) ⟨Nat.le_of_ble_eq_true rfl, Nat.le_of_ble_eq_true rfl⟩ rfl rfl rfl (Nat.le_of_ble_eq_true rfl) dL_back_171 ⟨Nat.le_of_ble_eq_true rfl, Nat.le_of_ble_eq_true rfl⟩ rfl (fun v hv => ?_)
        obtain rfl := hv
        refine g_st (st' := [_]) rfl ?_
        refine g_lload_n X dL_back_174 rfl 3 rfl rfl ?_
        refine g_lcmp X dL_back_175 rfl ?_
        refine g_if_ne X dL_back_176 199 (by decide) rfl (fun h176 => absurd (lg_self _) h176) (fun h176 => ?_)
        refine g_aload_n X dL_back_179 rfl 4 rfl rfl ?_
        refine g_iconst (v := (1 : Int32)) X dL_back_180 (by decide) rfl ?_
        refine g_iload_n X dL_back_181 rfl 5 rfl rfl ?_
        refine g_iconst (v := (2 : Int32)) X dL_back_182 (by decide) rfl ?_
        refine g_callSR (n := 2) (As := [_, _]) (rest := [_, _]) X (c_L_up l D (vv) 2 (by omega)) gL_back_L_up rfl (by decide +kernel) ⟨Nat.le_of_ble_eq_true rfl, Nat.le_of_ble_eq_true rfl⟩ [] rfl rfl rfl rfl (Nat.le_of_ble_eq_true rfl) dL_back_183 ⟨Nat.le_of_ble_eq_true rfl, Nat.le_of_ble_eq_true rfl⟩ rfl (fun v hv => ?_)
        obtain rfl := hv
        refine g_st (st' := [_, _, _]) rfl ?_
        refine g_upn (by omega) (fun u183 hu183 eu183 => ?_)
        refine g_isub X dL_back_186 rfl ?_
        refine g_topi (y := nI (1 - u183)) (pk_sub (a := 1) (b := u183) (by omega)) ?_
        refine g_callVXs (n := 1) (As := [_]) (rest := []) X hAg rfl (c_X6_restore l D a f na wX td vl L pt fl kd kpY pqY psS hF hkpY hHLY.hq hFs _) gL_back_X6_restore rfl (by decide +kernel) ⟨Nat.le_of_ble_eq_true rfl, Nat.le_of_ble_eq_true rfl⟩ 20 rfl rfl rfl rfl (Nat.le_of_ble_eq_true rfl) dL_back_187 ⟨Nat.le_of_ble_eq_true rfl, Nat.le_of_ble_eq_true rfl⟩ rfl (fun v w9 hv => ?_)
        obtain ⟨-, hv⟩ := hv
        rw [nI_clamp (by omega)] at hv
        rcases hv with ⟨hr2, -⟩ | ⟨-, hz, rfl, rfl⟩ | ⟨-, bR, gR, nbR, b0R, hz, -⟩
        · exact absurd (rng_nI' (n := 2) (k := 1 - u183) (by omega) (by omega)) (by rw [hr2]; exact Bool.false_ne_true)
        rotate_left
        · rw [hp0 (1 - u183) (by omega) (by omega)] at hz; cases hz
        refine ⟨AD.rf rfl, ?_⟩
        refine g_st (st' := [_]) rfl ?_
        refine g_bipush (v := ((-5) : Int32)) X dL_back_190 (by decide) rfl ?_
        refine g_icmp_ne X dL_back_192 199 (by decide) rfl (fun h192 => absurd h192 (by decide)) (fun h192 => ?_)
        refine g_iconst (v := (1 : Int32)) X dL_back_195 (by decide) rfl ?_
        refine g_goto X dL_back_196 200 (by decide) ?_
        refine g_retW X hr (by first | rfl | exact b2i_nar _) dL_back_200 hAe ?_
        exact ⟨rfl, na, wX, td, vl, L, pt, fl, kd, kpY, pqY, psS, ⟨n, hNR, hn8⟩, hADY, rfl⟩
  · have hHrt : HL kpG pqG (fQ :: fP :: f :: (List.take 3 (List.take 4 (List.take 5 l9)))) := hN_t (Int32.not_lt.mp h66) hHLG
    refine g_iinc (v := nI (2 + 1)) X [(5, _), (4, _), (2, _), (0, _), (1, _)] dL_back_69 0 rfl (nI_add 2 1) (by decide) rfl rfl ?_
    refine g_aload_n X dL_back_72 rfl 3 rfl rfl ?_
    refine g_iload_n X dL_back_73 rfl 4 rfl rfl ?_
    refine g_iconst (v := (4 : Int32)) X dL_back_74 (by decide) rfl ?_
    refine g_ishr X dL_back_75 rfl ?_
    refine g_bipush (v := (40 : Int32)) X dL_back_76 (by decide) rfl ?_
    refine g_callSR (n := 2) (As := [_, _]) (rest := [_]) X (c_L_up l D ((vv >>> ((4 : Int32) &&& 31))) 40 (by omega)) gL_back_L_up rfl (by decide +kernel) ⟨Nat.le_of_ble_eq_true rfl, Nat.le_of_ble_eq_true rfl⟩ [] rfl rfl rfl rfl (Nat.le_of_ble_eq_true rfl) dL_back_78 ⟨Nat.le_of_ble_eq_true rfl, Nat.le_of_ble_eq_true rfl⟩ rfl (fun v hv => ?_)
    obtain rfl := hv
    refine g_st (st' := [_, _]) rfl ?_
    refine g_upn (by omega) (fun u78 hu78 eu78 => ?_)
    refine g_callVXs (n := 1) (As := [_]) (rest := []) X hAg rfl (c_X6_takeBack l D a fG naG wG td vl L pt fl kd kpG pqG psS mkG nG bG hWG hNRG hFG hkpG hHrt.hq _) gL_back_X6_takeBack rfl (by decide +kernel) ⟨Nat.le_of_ble_eq_true rfl, Nat.le_of_ble_eq_true rfl⟩ 20 rfl rfl rfl rfl (Nat.le_of_ble_eq_true rfl) dL_back_81 ⟨Nat.le_of_ble_eq_true rfl, Nat.le_of_ble_eq_true rfl⟩ rfl (fun v w9 hv => ?_)
    obtain ⟨rfl, fT, naT, wT, kpT, pqT, efT, hNT, hAT, hkpT, hHLT, ekT, rfl⟩ := ch_out hv hkpG hHrt hFG ⟨_, hNRG, hn8G⟩
    have hADT := hAT.trans hADG
    refine ⟨hAT, ?_⟩
    refine g_st (st' := [_]) rfl ?_
    obtain ⟨mkT, nT, bT, hWT⟩ : WFx fT := by rw [efT]; exact take_ok ⟨mkG, nG, bG, hWG⟩
    have hST : SI (cr + 1) fT := by rw [efT]; exact take_si hWG hSG hu78
    have hNRT := hNT.to hWT
    have hFT : FB fT := by rw [efT]; exact take_fb ⟨mkG, nG, bG, hWG⟩ hFG
    obtain ⟨hmkT, hm40T, hn8T, hb0T, hb0T1, hb0T8, hn8Tb, hstT, hnoT, howT, hdoT, hb0Ta, hb0Tc, hb0Td, hb0Tz⟩ := id hWT
    have hm8T : nT ≤ 8 := by omega
    obtain ⟨eN1T, eN2T, -⟩ := hWT.N
    refine g_if_lt X dL_back_84 90 (by decide) rfl (fun h84 => ?_) (fun h84 => ?_)
    · have hHtf : HL kpT pqT (fQ :: fP :: f :: (List.take 3 (List.take 4 (List.take 5 l9)))) := hN_f h84 hHLT
      refine g_aload_n X dL_back_90 rfl 3 rfl rfl ?_
      refine g_iload_n X dL_back_91 rfl 4 rfl rfl ?_
      refine g_bipush (v := (6 : Int32)) X dL_back_92 (by decide) rfl ?_
      refine g_ishr X dL_back_94 rfl ?_
      refine g_bipush (v := (6 : Int32)) X dL_back_95 (by decide) rfl ?_
      refine g_callSR (n := 2) (As := [_, _]) (rest := [_]) X (c_L_up l D ((vv >>> ((6 : Int32) &&& 31))) 6 (by omega)) gL_back_L_up rfl (by decide +kernel) ⟨Nat.le_of_ble_eq_true rfl, Nat.le_of_ble_eq_true rfl⟩ [] rfl rfl rfl rfl (Nat.le_of_ble_eq_true rfl) dL_back_97 ⟨Nat.le_of_ble_eq_true rfl, Nat.le_of_ble_eq_true rfl⟩ rfl (fun v hv => ?_)
      obtain rfl := hv
      refine g_st (st' := [_, _]) rfl ?_
      refine g_upn (by omega) (fun u97 hu97 eu97 => ?_)
      refine g_iconst (v := (0 : Int32)) X dL_back_100 (by decide) rfl ?_
      refine g_iconst (v := (1 : Int32)) X dL_back_101 (by decide) rfl ?_
      refine g_callVXs (n := 3) (As := [_, _, _]) (rest := []) X hAg rfl (c_X6_come l D a fT naT wT td vl L pt fl kd kpT pqT psS mkT nT bT hWT hNRT hFT hkpT hHtf.hq _ _ _) gL_back_X6_come rfl (by decide +kernel) ⟨Nat.le_of_ble_eq_true rfl, Nat.le_of_ble_eq_true rfl⟩ 20 rfl rfl rfl rfl (Nat.le_of_ble_eq_true rfl) dL_back_102 ⟨Nat.le_of_ble_eq_true rfl, Nat.le_of_ble_eq_true rfl⟩ rfl (fun v w9 hv => ?_)
      obtain ⟨rfl, fV, naV, wV, kpV, pqV, efV, hNV, hAV, hkpV, hHLV, ekV, rfl⟩ := ch_out hv hkpT hHtf hFT ⟨_, hNRT, hn8T⟩
      have hADV := hAV.trans hADT
      refine ⟨hAV, ?_⟩
      refine g_st (st' := [_]) rfl ?_
      obtain ⟨mkV, nV, bV, hWV⟩ : WFx fV := by rw [efV]; exact come_ok ⟨mkT, nT, bT, hWT⟩
      have hSV : SI (cr + 1 + 1) fV := by rw [efV]; exact come_si (d := 0) (e := 1) hWT hST hu97 (by omega) (Or.inl rfl)
      have hNRV := hNV.to hWV
      have hFV : FB fV := by rw [efV]; exact come_fb ⟨mkT, nT, bT, hWT⟩ hFT
      obtain ⟨hmkV, hm40V, hn8V, hb0V, hb0V1, hb0V8, hn8Vb, hstV, hnoV, howV, hdoV, hb0Va, hb0Vc, hb0Vd, hb0Vz⟩ := id hWV
      have hm8V : nV ≤ 8 := by omega
      obtain ⟨eN1V, eN2V, -⟩ := hWV.N
      refine g_if_lt X dL_back_105 111 (by decide) rfl (fun h105 => ?_) (fun h105 => ?_)
      · have hHwf : HL kpV pqV (fQ :: fP :: f :: (List.take 3 (List.take 4 (List.take 5 l9)))) := hN_f h105 hHLV
        refine g_iconst (v := (0 : Int32)) X dL_back_111 (by decide) rfl ?_
        refine g_istore X [(6, _), (5, _), (4, _), (2, _), (0, _), (1, _)] dL_back_112 (by decide) rfl rfl ?_
        refine g_iload X dL_back_114 0 rfl rfl ?_
        refine g_iload X dL_back_116 1 rfl rfl ?_
        refine g_icmp_ge X dL_back_118 136 (by decide) rfl (fun h118 => absurd (nj_le (a := (2 + 1)) (b := 0) (by omega) (by omega) h118) (by omega)) (fun h118 => ?_)
        have i118 := nj_nle (a := (2 + 1)) (b := 0) (by omega) (by omega) h118
        refine g_aload_n X dL_back_121 rfl 4 rfl rfl ?_
        refine g_callVXs (n := 0) (As := []) (rest := []) X hAg rfl (c_X6_undo l D a fV naV wV td vl L pt fl kd kpV pqV psS hkpV hHwf.hq hHwf.fb) gL_back_X6_undo rfl (by decide +kernel) ⟨Nat.le_of_ble_eq_true rfl, Nat.le_of_ble_eq_true rfl⟩ 20 rfl rfl rfl rfl (Nat.le_of_ble_eq_true rfl) dL_back_122 ⟨Nat.le_of_ble_eq_true rfl, Nat.le_of_ble_eq_true rfl⟩ rfl (fun v w9 hv => ?_)
        obtain ⟨r9, rfl, hv⟩ := hv
        obtain ⟨hk1, hpp, hHL0⟩ := hHwf.pop
        rcases hv with ⟨hk0, -, -⟩ | ⟨-, rfl, bU, gU, nb0, hpU, rfl⟩
        · omega
        obtain ⟨eg, hN0, -⟩ := hpp _ _ _ hpU
        replace eg := eg.symm
        subst eg
        refine ⟨AD.rf rfl, ?_⟩
        refine g_st (st' := [_]) rfl ?_
        have hk0 : kpV - 1 ≤ 6 := by omega
        have hADu0 : AD (wB D a fQ nb0 wV td vl L pt fl kd (kpV - 1) (fqa pqV) (fqa psS) (tlW D pqV psS)) (wB D a f na w td vl L pt fl kd kp (fqa pq) (fqa ps) (tlW D pq ps)) := AD.trans (v := wB D a fV naV wV td vl L pt fl kd kpV (fqa pqV) (fqa psS) (tlW D pqV psS)) (AD.rf rfl) hADV
        refine g_if_ge X dL_back_125 130 (by decide) rfl (fun h125 => ?_) (fun h125 => absurd (nI_ge0 (by omega)) h125)
        have i125 := nj_le (a := 0) (b := (kpV - 1)) (by omega) (by omega) h125
        refine g_iinc (v := nI (0 + 1)) X [(6, _), (5, _), (4, _), (2, _), (0, _), (1, _)] dL_back_130 0 rfl (nI_add 0 1) (by decide) rfl rfl ?_
        refine g_goto X dL_back_133 114 (by decide) ?_
        refine g_iload X dL_back_114 0 rfl rfl ?_
        refine g_iload X dL_back_116 1 rfl rfl ?_
        refine g_icmp_ge X dL_back_118 136 (by decide) rfl (fun h118 => absurd (nj_le (a := (2 + 1)) (b := (0 + 1)) (by omega) (by omega) h118) (by omega)) (fun h118 => ?_)
        have i118 := nj_nle (a := (2 + 1)) (b := (0 + 1)) (by omega) (by omega) h118
        refine g_aload_n X dL_back_121 rfl 4 rfl rfl ?_
        refine g_callVXs (n := 0) (As := []) (rest := []) X hAg rfl (c_X6_undo l D a fQ nb0 wV td vl L pt fl kd (kpV - 1) pqV psS hk0 hHL0.hq hHL0.fb) gL_back_X6_undo rfl (by decide +kernel) ⟨Nat.le_of_ble_eq_true rfl, Nat.le_of_ble_eq_true rfl⟩ 20 rfl rfl rfl rfl (Nat.le_of_ble_eq_true rfl) dL_back_122 ⟨Nat.le_of_ble_eq_true rfl, Nat.le_of_ble_eq_true rfl⟩ rfl (fun v w9 hv => ?_)
        obtain ⟨r9, rfl, hv⟩ := hv
        obtain ⟨hk1, hpp, hHL1⟩ := hHL0.pop
        rcases hv with ⟨hk0, -, -⟩ | ⟨-, rfl, bU, gU, nb1, hpU, rfl⟩
        · omega
        obtain ⟨eg, hN1, -⟩ := hpp _ _ _ hpU
        replace eg := eg.symm
        subst eg
        refine ⟨AD.rf rfl, ?_⟩
        refine g_st (st' := [_]) rfl ?_
        have hk1 : (kpV - 1) - 1 ≤ 6 := by omega
        have hADu1 : AD (wB D a fP nb1 wV td vl L pt fl kd ((kpV - 1) - 1) (fqa pqV) (fqa psS) (tlW D pqV psS)) (wB D a f na w td vl L pt fl kd kp (fqa pq) (fqa ps) (tlW D pq ps)) := AD.trans (v := wB D a fQ nb0 wV td vl L pt fl kd (kpV - 1) (fqa pqV) (fqa psS) (tlW D pqV psS)) (AD.rf rfl) hADu0
        refine g_if_ge X dL_back_125 130 (by decide) rfl (fun h125 => ?_) (fun h125 => absurd (nI_ge0 (by omega)) h125)
        have i125 := nj_le (a := 0) (b := ((kpV - 1) - 1)) (by omega) (by omega) h125
        refine g_iinc (v := nI ((0 + 1) + 1)) X [(6, _), (5, _), (4, _), (2, _), (0, _), (1, _)] dL_back_130 0 rfl (nI_add (0 + 1) 1) (by decide) rfl rfl ?_
        refine g_goto X dL_back_133 114 (by decide) ?_
        refine g_iload X dL_back_114 0 rfl rfl ?_
        refine g_iload X dL_back_116 1 rfl rfl ?_
        refine g_icmp_ge X dL_back_118 136 (by decide) rfl (fun h118 => absurd (nj_le (a := (2 + 1)) (b := ((0 + 1) + 1)) (by omega) (by omega) h118) (by omega)) (fun h118 => ?_)
        have i118 := nj_nle (a := (2 + 1)) (b := ((0 + 1) + 1)) (by omega) (by omega) h118
        refine g_aload_n X dL_back_121 rfl 4 rfl rfl ?_
        refine g_callVXs (n := 0) (As := []) (rest := []) X hAg rfl (c_X6_undo l D a fP nb1 wV td vl L pt fl kd ((kpV - 1) - 1) pqV psS hk1 hHL1.hq hHL1.fb) gL_back_X6_undo rfl (by decide +kernel) ⟨Nat.le_of_ble_eq_true rfl, Nat.le_of_ble_eq_true rfl⟩ 20 rfl rfl rfl rfl (Nat.le_of_ble_eq_true rfl) dL_back_122 ⟨Nat.le_of_ble_eq_true rfl, Nat.le_of_ble_eq_true rfl⟩ rfl (fun v w9 hv => ?_)
        obtain ⟨r9, rfl, hv⟩ := hv
        obtain ⟨hk1, hpp, hHL2⟩ := hHL1.pop
        rcases hv with ⟨hk0, -, -⟩ | ⟨-, rfl, bU, gU, nb2, hpU, rfl⟩
        · omega
        obtain ⟨eg, hN2, -⟩ := hpp _ _ _ hpU
        replace eg := eg.symm
        subst eg
        refine ⟨AD.rf rfl, ?_⟩
        refine g_st (st' := [_]) rfl ?_
        have hk2 : ((kpV - 1) - 1) - 1 ≤ 6 := by omega
        have hADu2 : AD (wB D a f nb2 wV td vl L pt fl kd (((kpV - 1) - 1) - 1) (fqa pqV) (fqa psS) (tlW D pqV psS)) (wB D a f na w td vl L pt fl kd kp (fqa pq) (fqa ps) (tlW D pq ps)) := AD.trans (v := wB D a fP nb1 wV td vl L pt fl kd ((kpV - 1) - 1) (fqa pqV) (fqa psS) (tlW D pqV psS)) (AD.rf rfl) hADu1
        refine g_if_ge X dL_back_125 130 (by decide) rfl (fun h125 => ?_) (fun h125 => absurd (nI_ge0 (by omega)) h125)
        have i125 := nj_le (a := 0) (b := (((kpV - 1) - 1) - 1)) (by omega) (by omega) h125
        refine g_iinc (v := nI (((0 + 1) + 1) + 1)) X [(6, _), (5, _), (4, _), (2, _), (0, _), (1, _)] dL_back_130 0 rfl (nI_add ((0 + 1) + 1) 1) (by decide) rfl rfl ?_
        refine g_goto X dL_back_133 114 (by decide) ?_
        refine g_iload X dL_back_114 0 rfl rfl ?_
        refine g_iload X dL_back_116 1 rfl rfl ?_
        refine g_icmp_ge X dL_back_118 136 (by decide) rfl (fun h118 => ?_) (fun h118 => absurd (nj_nle (a := (2 + 1)) (b := (((0 + 1) + 1) + 1)) (by omega) (by omega) h118) (by omega))
        have i118 := nj_le (a := (2 + 1)) (b := (((0 + 1) + 1) + 1)) (by omega) (by omega) h118
        have hNRu := hN2.to hW
        refine g_aload_n X dL_back_136 rfl 4 rfl rfl ?_
        refine g_callSRX (w0 := []) (n := 1) (As := [_]) (rest := []) X (c_L_print l D a f nb2 wV td vl L pt fl kd (((kpV - 1) - 1) - 1) (fqa pqV) (fqa psS) (tlW D pqV psS) mk n b hW hNRu) gL_back_L_print rfl (by decide +kernel) ⟨Nat.le_of_ble_eq_true rfl, Nat.le_of_ble_eq_true rfl⟩ rfl rfl rfl (Nat.le_of_ble_eq_true rfl) dL_back_137 ⟨Nat.le_of_ble_eq_true rfl, Nat.le_of_ble_eq_true rfl⟩ rfl (fun v hv => ?_)
        obtain rfl := hv
        refine g_st (st' := [_]) rfl ?_
        refine g_lload_n X dL_back_140 rfl 3 rfl rfl ?_
        refine g_lcmp X dL_back_141 rfl ?_
        refine g_if_eq X dL_back_142 147 (by decide) rfl (fun h142 => ?_) (fun h142 => absurd (lg_self _) h142)
        refine g_aload_n X dL_back_147 rfl 4 rfl rfl ?_
        refine g_iconst (v := (5 : Int32)) X dL_back_148 (by decide) rfl ?_
        refine g_bipush (v := (9 : Int32)) X dL_back_149 (by decide) rfl ?_
        refine g_iconst (v := (2 : Int32)) X dL_back_151 (by decide) rfl ?_
        refine g_callVXs (n := 3) (As := [_, _, _]) (rest := []) X hAg rfl (c_X6_come l D a f nb2 wV td vl L pt fl kd (((kpV - 1) - 1) - 1) pqV psS mk n b hW hNRu hF hk2 hHL2.hq _ _ _) gL_back_X6_come rfl (by decide +kernel) ⟨Nat.le_of_ble_eq_true rfl, Nat.le_of_ble_eq_true rfl⟩ 20 rfl rfl rfl rfl (Nat.le_of_ble_eq_true rfl) dL_back_152 ⟨Nat.le_of_ble_eq_true rfl, Nat.le_of_ble_eq_true rfl⟩ rfl (fun v w9 hv => ?_)
        obtain ⟨rfl, fX, naX, wX, kpX, pqX, efX, hNX, hAX, hkpX, hHLX, ekX, rfl⟩ := ch_out hv hk2 hHL2 hF ⟨_, hNRu, hn8⟩
        have hADX := hAX.trans hADu2
        refine ⟨hAX, ?_⟩
        refine g_st (st' := [_]) rfl ?_
        obtain ⟨mkX, nX, bX, hWX⟩ : WFx fX := by rw [efX]; exact come_ok ⟨mk, n, b, hW⟩
        have hNRX := hNX.to hWX
        have hFX : FB fX := by rw [efX]; exact come_fb ⟨mk, n, b, hW⟩ hF
        obtain ⟨hmkX, hm40X, hn8X, hb0X, hb0X1, hb0X8, hn8Xb, hstX, hnoX, howX, hdoX, hb0Xa, hb0Xc, hb0Xd, hb0Xz⟩ := id hWX
        have hm8X : nX ≤ 8 := by omega
        obtain ⟨eN1X, eN2X, -⟩ := hWX.N
        refine g_pop X dL_back_155 rfl rfl ?_
        refine g_aload_n X dL_back_156 rfl 4 rfl rfl ?_
        refine g_iload_n X dL_back_157 rfl 5 rfl rfl ?_
        refine g_iconst (v := (2 : Int32)) X dL_back_158 (by decide) rfl ?_
        refine g_callSR (n := 2) (As := [_, _]) (rest := [_]) X (c_L_up l D (vv) 2 (by omega)) gL_back_L_up rfl (by decide +kernel) ⟨Nat.le_of_ble_eq_true rfl, Nat.le_of_ble_eq_true rfl⟩ [] rfl rfl rfl rfl (Nat.le_of_ble_eq_true rfl) dL_back_159 ⟨Nat.le_of_ble_eq_true rfl, Nat.le_of_ble_eq_true rfl⟩ rfl (fun v hv => ?_)
        obtain rfl := hv
        refine g_st (st' := [_, _]) rfl ?_
        refine g_upn (by omega) (fun u159 hu159 eu159 => ?_)
        refine g_callVXs (n := 1) (As := [_]) (rest := []) X hAg rfl (c_X6_restore l D a fX naX wX td vl L pt fl kd kpX pqX psS hFX hkpX hHLX.hq hFs _) gL_back_X6_restore rfl (by decide +kernel) ⟨Nat.le_of_ble_eq_true rfl, Nat.le_of_ble_eq_true rfl⟩ 20 rfl rfl rfl rfl (Nat.le_of_ble_eq_true rfl) dL_back_162 ⟨Nat.le_of_ble_eq_true rfl, Nat.le_of_ble_eq_true rfl⟩ rfl (fun v w9 hv => ?_)
        obtain ⟨hAY, hv⟩ := hv
        have eu : u159 = u15 := by omega
        subst eu
        rw [nI_clamp (by omega)] at hv
        rcases hv with ⟨hr2, -⟩ | ⟨-, hz, -⟩ | ⟨-, bR, gR, nbR, b0, hz, rfl, rfl⟩
        · exact absurd (rng_nI' hu159 (by omega)) (by rw [hr2]; exact Bool.false_ne_true)
        · rw [hp1] at hz; cases hz
        rw [hp1] at hz
        cases hz
        obtain ⟨kpY, pqY, ekY, epY, hkpY, hHLY⟩ := co_hist (b0 := b0) (x := f 76) (by rw [hmk]; exact nI_ge0 (by omega)) hHLX hkpX hFX ⟨nX, hNRX, hn8X⟩
        rw [ekY, epY] at hAY ⊢
        refine ⟨hAY, ?_⟩
        refine g_st (st' := [_]) rfl ?_
        refine g_topi (hmk) ?_
        have hADY := hAY.trans hADX
        refine g_iload X dL_back_165 2 rfl rfl ?_
        refine g_icmp_ne X dL_back_167 199 (by decide) rfl (fun h167 => absurd rfl h167) (fun h167 => ?_)
        refine g_aload_n X dL_back_170 rfl 4 rfl rfl ?_
        refine g_callSRX (w0 := []) (n := 1) (As := [_]) (rest := []) X (c_L_print l D a f na wX td vl L pt fl kd kpY (fqa pqY) (fqa psS) (tlW D pqY psS) mk n b hW hNR) gL_back_L_print rfl (by decide +kernel) ⟨Nat.le_of_ble_eq_true rfl, Nat.le_of_ble_eq_true rfl⟩ rfl rfl rfl (Nat.le_of_ble_eq_true rfl) dL_back_171 ⟨Nat.le_of_ble_eq_true rfl, Nat.le_of_ble_eq_true rfl⟩ rfl (fun v hv => ?_)
        obtain rfl := hv
        refine g_st (st' := [_]) rfl ?_
        refine g_lload_n X dL_back_174 rfl 3 rfl rfl ?_
        refine g_lcmp X dL_back_175 rfl ?_
        refine g_if_ne X dL_back_176 199 (by decide) rfl (fun h176 => absurd (lg_self _) h176) (fun h176 => ?_)
        refine g_aload_n X dL_back_179 rfl 4 rfl rfl ?_
        refine g_iconst (v := (1 : Int32)) X dL_back_180 (by decide) rfl ?_
        refine g_iload_n X dL_back_181 rfl 5 rfl rfl ?_
        refine g_iconst (v := (2 : Int32)) X dL_back_182 (by decide) rfl ?_
        refine g_callSR (n := 2) (As := [_, _]) (rest := [_, _]) X (c_L_up l D (vv) 2 (by omega)) gL_back_L_up rfl (by decide +kernel) ⟨Nat.le_of_ble_eq_true rfl, Nat.le_of_ble_eq_true rfl⟩ [] rfl rfl rfl rfl (Nat.le_of_ble_eq_true rfl) dL_back_183 ⟨Nat.le_of_ble_eq_true rfl, Nat.le_of_ble_eq_true rfl⟩ rfl (fun v hv => ?_)
        obtain rfl := hv
        refine g_st (st' := [_, _, _]) rfl ?_
        refine g_upn (by omega) (fun u183 hu183 eu183 => ?_)
        refine g_isub X dL_back_186 rfl ?_
        refine g_topi (y := nI (1 - u183)) (pk_sub (a := 1) (b := u183) (by omega)) ?_
        refine g_callVXs (n := 1) (As := [_]) (rest := []) X hAg rfl (c_X6_restore l D a f na wX td vl L pt fl kd kpY pqY psS hF hkpY hHLY.hq hFs _) gL_back_X6_restore rfl (by decide +kernel) ⟨Nat.le_of_ble_eq_true rfl, Nat.le_of_ble_eq_true rfl⟩ 20 rfl rfl rfl rfl (Nat.le_of_ble_eq_true rfl) dL_back_187 ⟨Nat.le_of_ble_eq_true rfl, Nat.le_of_ble_eq_true rfl⟩ rfl (fun v w9 hv => ?_)
        obtain ⟨-, hv⟩ := hv
        rw [nI_clamp (by omega)] at hv
        rcases hv with ⟨hr2, -⟩ | ⟨-, hz, rfl, rfl⟩ | ⟨-, bR, gR, nbR, b0R, hz, -⟩
        · exact absurd (rng_nI' (n := 2) (k := 1 - u183) (by omega) (by omega)) (by rw [hr2]; exact Bool.false_ne_true)
        rotate_left
        · rw [hp0 (1 - u183) (by omega) (by omega)] at hz; cases hz
        refine ⟨AD.rf rfl, ?_⟩
        refine g_st (st' := [_]) rfl ?_
        refine g_bipush (v := ((-5) : Int32)) X dL_back_190 (by decide) rfl ?_
        refine g_icmp_ne X dL_back_192 199 (by decide) rfl (fun h192 => absurd h192 (by decide)) (fun h192 => ?_)
        refine g_iconst (v := (1 : Int32)) X dL_back_195 (by decide) rfl ?_
        refine g_goto X dL_back_196 200 (by decide) ?_
        refine g_retW X hr (by first | rfl | exact b2i_nar _) dL_back_200 hAe ?_
        exact ⟨rfl, na, wX, td, vl, L, pt, fl, kd, kpY, pqY, psS, ⟨n, hNR, hn8⟩, hADY, rfl⟩
      · have hHwt : HL kpV pqV (fT :: fQ :: fP :: f :: (List.take 2 (List.take 3 (List.take 4 (List.take 5 l9))))) := hN_t (Int32.not_lt.mp h105) hHLV
        refine g_iinc (v := nI ((2 + 1) + 1)) X [(5, _), (4, _), (2, _), (0, _), (1, _)] dL_back_108 0 rfl (nI_add (2 + 1) 1) (by decide) rfl rfl ?_
        refine g_iconst (v := (0 : Int32)) X dL_back_111 (by decide) rfl ?_
        refine g_istore X [(6, _), (5, _), (4, _), (2, _), (0, _), (1, _)] dL_back_112 (by decide) rfl rfl ?_
        refine g_iload X dL_back_114 0 rfl rfl ?_
        refine g_iload X dL_back_116 1 rfl rfl ?_
        refine g_icmp_ge X dL_back_118 136 (by decide) rfl (fun h118 => absurd (nj_le (a := ((2 + 1) + 1)) (b := 0) (by omega) (by omega) h118) (by omega)) (fun h118 => ?_)
        have i118 := nj_nle (a := ((2 + 1) + 1)) (b := 0) (by omega) (by omega) h118
        refine g_aload_n X dL_back_121 rfl 4 rfl rfl ?_
        refine g_callVXs (n := 0) (As := []) (rest := []) X hAg rfl (c_X6_undo l D a fV naV wV td vl L pt fl kd kpV pqV psS hkpV hHwt.hq hHwt.fb) gL_back_X6_undo rfl (by decide +kernel) ⟨Nat.le_of_ble_eq_true rfl, Nat.le_of_ble_eq_true rfl⟩ 20 rfl rfl rfl rfl (Nat.le_of_ble_eq_true rfl) dL_back_122 ⟨Nat.le_of_ble_eq_true rfl, Nat.le_of_ble_eq_true rfl⟩ rfl (fun v w9 hv => ?_)
        obtain ⟨r9, rfl, hv⟩ := hv
        obtain ⟨hk1, hpp, hHL0⟩ := hHwt.pop
        rcases hv with ⟨hk0, -, -⟩ | ⟨-, rfl, bU, gU, nb0, hpU, rfl⟩
        · omega
        obtain ⟨eg, hN0, -⟩ := hpp _ _ _ hpU
        replace eg := eg.symm
        subst eg
        refine ⟨AD.rf rfl, ?_⟩
        refine g_st (st' := [_]) rfl ?_
        have hk0 : kpV - 1 ≤ 6 := by omega
        have hADu0 : AD (wB D a fT nb0 wV td vl L pt fl kd (kpV - 1) (fqa pqV) (fqa psS) (tlW D pqV psS)) (wB D a f na w td vl L pt fl kd kp (fqa pq) (fqa ps) (tlW D pq ps)) := AD.trans (v := wB D a fV naV wV td vl L pt fl kd kpV (fqa pqV) (fqa psS) (tlW D pqV psS)) (AD.rf rfl) hADV
        refine g_if_ge X dL_back_125 130 (by decide) rfl (fun h125 => ?_) (fun h125 => absurd (nI_ge0 (by omega)) h125)
        have i125 := nj_le (a := 0) (b := (kpV - 1)) (by omega) (by omega) h125
        refine g_iinc (v := nI (0 + 1)) X [(6, _), (5, _), (4, _), (2, _), (0, _), (1, _)] dL_back_130 0 rfl (nI_add 0 1) (by decide) rfl rfl ?_
        refine g_goto X dL_back_133 114 (by decide) ?_
        refine g_iload X dL_back_114 0 rfl rfl ?_
        refine g_iload X dL_back_116 1 rfl rfl ?_
        refine g_icmp_ge X dL_back_118 136 (by decide) rfl (fun h118 => absurd (nj_le (a := ((2 + 1) + 1)) (b := (0 + 1)) (by omega) (by omega) h118) (by omega)) (fun h118 => ?_)
        have i118 := nj_nle (a := ((2 + 1) + 1)) (b := (0 + 1)) (by omega) (by omega) h118
        refine g_aload_n X dL_back_121 rfl 4 rfl rfl ?_
        refine g_callVXs (n := 0) (As := []) (rest := []) X hAg rfl (c_X6_undo l D a fT nb0 wV td vl L pt fl kd (kpV - 1) pqV psS hk0 hHL0.hq hHL0.fb) gL_back_X6_undo rfl (by decide +kernel) ⟨Nat.le_of_ble_eq_true rfl, Nat.le_of_ble_eq_true rfl⟩ 20 rfl rfl rfl rfl (Nat.le_of_ble_eq_true rfl) dL_back_122 ⟨Nat.le_of_ble_eq_true rfl, Nat.le_of_ble_eq_true rfl⟩ rfl (fun v w9 hv => ?_)
        obtain ⟨r9, rfl, hv⟩ := hv
        obtain ⟨hk1, hpp, hHL1⟩ := hHL0.pop
        rcases hv with ⟨hk0, -, -⟩ | ⟨-, rfl, bU, gU, nb1, hpU, rfl⟩
        · omega
        obtain ⟨eg, hN1, -⟩ := hpp _ _ _ hpU
        replace eg := eg.symm
        subst eg
        refine ⟨AD.rf rfl, ?_⟩
        refine g_st (st' := [_]) rfl ?_
        have hk1 : (kpV - 1) - 1 ≤ 6 := by omega
        have hADu1 : AD (wB D a fQ nb1 wV td vl L pt fl kd ((kpV - 1) - 1) (fqa pqV) (fqa psS) (tlW D pqV psS)) (wB D a f na w td vl L pt fl kd kp (fqa pq) (fqa ps) (tlW D pq ps)) := AD.trans (v := wB D a fT nb0 wV td vl L pt fl kd (kpV - 1) (fqa pqV) (fqa psS) (tlW D pqV psS)) (AD.rf rfl) hADu0
        refine g_if_ge X dL_back_125 130 (by decide) rfl (fun h125 => ?_) (fun h125 => absurd (nI_ge0 (by omega)) h125)
        have i125 := nj_le (a := 0) (b := ((kpV - 1) - 1)) (by omega) (by omega) h125
        refine g_iinc (v := nI ((0 + 1) + 1)) X [(6, _), (5, _), (4, _), (2, _), (0, _), (1, _)] dL_back_130 0 rfl (nI_add (0 + 1) 1) (by decide) rfl rfl ?_
        refine g_goto X dL_back_133 114 (by decide) ?_
        refine g_iload X dL_back_114 0 rfl rfl ?_
        refine g_iload X dL_back_116 1 rfl rfl ?_
        refine g_icmp_ge X dL_back_118 136 (by decide) rfl (fun h118 => absurd (nj_le (a := ((2 + 1) + 1)) (b := ((0 + 1) + 1)) (by omega) (by omega) h118) (by omega)) (fun h118 => ?_)
        have i118 := nj_nle (a := ((2 + 1) + 1)) (b := ((0 + 1) + 1)) (by omega) (by omega) h118
        refine g_aload_n X dL_back_121 rfl 4 rfl rfl ?_
        refine g_callVXs (n := 0) (As := []) (rest := []) X hAg rfl (c_X6_undo l D a fQ nb1 wV td vl L pt fl kd ((kpV - 1) - 1) pqV psS hk1 hHL1.hq hHL1.fb) gL_back_X6_undo rfl (by decide +kernel) ⟨Nat.le_of_ble_eq_true rfl, Nat.le_of_ble_eq_true rfl⟩ 20 rfl rfl rfl rfl (Nat.le_of_ble_eq_true rfl) dL_back_122 ⟨Nat.le_of_ble_eq_true rfl, Nat.le_of_ble_eq_true rfl⟩ rfl (fun v w9 hv => ?_)
        obtain ⟨r9, rfl, hv⟩ := hv
        obtain ⟨hk1, hpp, hHL2⟩ := hHL1.pop
        rcases hv with ⟨hk0, -, -⟩ | ⟨-, rfl, bU, gU, nb2, hpU, rfl⟩
        · omega
        obtain ⟨eg, hN2, -⟩ := hpp _ _ _ hpU
        replace eg := eg.symm
        subst eg
        refine ⟨AD.rf rfl, ?_⟩
        refine g_st (st' := [_]) rfl ?_
        have hk2 : ((kpV - 1) - 1) - 1 ≤ 6 := by omega
        have hADu2 : AD (wB D a fP nb2 wV td vl L pt fl kd (((kpV - 1) - 1) - 1) (fqa pqV) (fqa psS) (tlW D pqV psS)) (wB D a f na w td vl L pt fl kd kp (fqa pq) (fqa ps) (tlW D pq ps)) := AD.trans (v := wB D a fQ nb1 wV td vl L pt fl kd ((kpV - 1) - 1) (fqa pqV) (fqa psS) (tlW D pqV psS)) (AD.rf rfl) hADu1
        refine g_if_ge X dL_back_125 130 (by decide) rfl (fun h125 => ?_) (fun h125 => absurd (nI_ge0 (by omega)) h125)
        have i125 := nj_le (a := 0) (b := (((kpV - 1) - 1) - 1)) (by omega) (by omega) h125
        refine g_iinc (v := nI (((0 + 1) + 1) + 1)) X [(6, _), (5, _), (4, _), (2, _), (0, _), (1, _)] dL_back_130 0 rfl (nI_add ((0 + 1) + 1) 1) (by decide) rfl rfl ?_
        refine g_goto X dL_back_133 114 (by decide) ?_
        refine g_iload X dL_back_114 0 rfl rfl ?_
        refine g_iload X dL_back_116 1 rfl rfl ?_
        refine g_icmp_ge X dL_back_118 136 (by decide) rfl (fun h118 => absurd (nj_le (a := ((2 + 1) + 1)) (b := (((0 + 1) + 1) + 1)) (by omega) (by omega) h118) (by omega)) (fun h118 => ?_)
        have i118 := nj_nle (a := ((2 + 1) + 1)) (b := (((0 + 1) + 1) + 1)) (by omega) (by omega) h118
        refine g_aload_n X dL_back_121 rfl 4 rfl rfl ?_
        refine g_callVXs (n := 0) (As := []) (rest := []) X hAg rfl (c_X6_undo l D a fP nb2 wV td vl L pt fl kd (((kpV - 1) - 1) - 1) pqV psS hk2 hHL2.hq hHL2.fb) gL_back_X6_undo rfl (by decide +kernel) ⟨Nat.le_of_ble_eq_true rfl, Nat.le_of_ble_eq_true rfl⟩ 20 rfl rfl rfl rfl (Nat.le_of_ble_eq_true rfl) dL_back_122 ⟨Nat.le_of_ble_eq_true rfl, Nat.le_of_ble_eq_true rfl⟩ rfl (fun v w9 hv => ?_)
        obtain ⟨r9, rfl, hv⟩ := hv
        obtain ⟨hk1, hpp, hHL3⟩ := hHL2.pop
        rcases hv with ⟨hk0, -, -⟩ | ⟨-, rfl, bU, gU, nb3, hpU, rfl⟩
        · omega
        obtain ⟨eg, hN3, -⟩ := hpp _ _ _ hpU
        replace eg := eg.symm
        subst eg
        refine ⟨AD.rf rfl, ?_⟩
        refine g_st (st' := [_]) rfl ?_
        have hk3 : (((kpV - 1) - 1) - 1) - 1 ≤ 6 := by omega
        have hADu3 : AD (wB D a f nb3 wV td vl L pt fl kd ((((kpV - 1) - 1) - 1) - 1) (fqa pqV) (fqa psS) (tlW D pqV psS)) (wB D a f na w td vl L pt fl kd kp (fqa pq) (fqa ps) (tlW D pq ps)) := AD.trans (v := wB D a fP nb2 wV td vl L pt fl kd (((kpV - 1) - 1) - 1) (fqa pqV) (fqa psS) (tlW D pqV psS)) (AD.rf rfl) hADu2
        refine g_if_ge X dL_back_125 130 (by decide) rfl (fun h125 => ?_) (fun h125 => absurd (nI_ge0 (by omega)) h125)
        have i125 := nj_le (a := 0) (b := ((((kpV - 1) - 1) - 1) - 1)) (by omega) (by omega) h125
        refine g_iinc (v := nI ((((0 + 1) + 1) + 1) + 1)) X [(6, _), (5, _), (4, _), (2, _), (0, _), (1, _)] dL_back_130 0 rfl (nI_add (((0 + 1) + 1) + 1) 1) (by decide) rfl rfl ?_
        refine g_goto X dL_back_133 114 (by decide) ?_
        refine g_iload X dL_back_114 0 rfl rfl ?_
        refine g_iload X dL_back_116 1 rfl rfl ?_
        refine g_icmp_ge X dL_back_118 136 (by decide) rfl (fun h118 => ?_) (fun h118 => absurd (nj_nle (a := ((2 + 1) + 1)) (b := ((((0 + 1) + 1) + 1) + 1)) (by omega) (by omega) h118) (by omega))
        have i118 := nj_le (a := ((2 + 1) + 1)) (b := ((((0 + 1) + 1) + 1) + 1)) (by omega) (by omega) h118
        have hNRu := hN3.to hW
        refine g_aload_n X dL_back_136 rfl 4 rfl rfl ?_
        refine g_callSRX (w0 := []) (n := 1) (As := [_]) (rest := []) X (c_L_print l D a f nb3 wV td vl L pt fl kd ((((kpV - 1) - 1) - 1) - 1) (fqa pqV) (fqa psS) (tlW D pqV psS) mk n b hW hNRu) gL_back_L_print rfl (by decide +kernel) ⟨Nat.le_of_ble_eq_true rfl, Nat.le_of_ble_eq_true rfl⟩ rfl rfl rfl (Nat.le_of_ble_eq_true rfl) dL_back_137 ⟨Nat.le_of_ble_eq_true rfl, Nat.le_of_ble_eq_true rfl⟩ rfl (fun v hv => ?_)
        obtain rfl := hv
        refine g_st (st' := [_]) rfl ?_
        refine g_lload_n X dL_back_140 rfl 3 rfl rfl ?_
        refine g_lcmp X dL_back_141 rfl ?_
        refine g_if_eq X dL_back_142 147 (by decide) rfl (fun h142 => ?_) (fun h142 => absurd (lg_self _) h142)
        refine g_aload_n X dL_back_147 rfl 4 rfl rfl ?_
        refine g_iconst (v := (5 : Int32)) X dL_back_148 (by decide) rfl ?_
        refine g_bipush (v := (9 : Int32)) X dL_back_149 (by decide) rfl ?_
        refine g_iconst (v := (2 : Int32)) X dL_back_151 (by decide) rfl ?_
        refine g_callVXs (n := 3) (As := [_, _, _]) (rest := []) X hAg rfl (c_X6_come l D a f nb3 wV td vl L pt fl kd ((((kpV - 1) - 1) - 1) - 1) pqV psS mk n b hW hNRu hF hk3 hHL3.hq _ _ _) gL_back_X6_come rfl (by decide +kernel) ⟨Nat.le_of_ble_eq_true rfl, Nat.le_of_ble_eq_true rfl⟩ 20 rfl rfl rfl rfl (Nat.le_of_ble_eq_true rfl) dL_back_152 ⟨Nat.le_of_ble_eq_true rfl, Nat.le_of_ble_eq_true rfl⟩ rfl (fun v w9 hv => ?_)
        obtain ⟨rfl, fX, naX, wX, kpX, pqX, efX, hNX, hAX, hkpX, hHLX, ekX, rfl⟩ := ch_out hv hk3 hHL3 hF ⟨_, hNRu, hn8⟩
        have hADX := hAX.trans hADu3
        refine ⟨hAX, ?_⟩
        refine g_st (st' := [_]) rfl ?_
        obtain ⟨mkX, nX, bX, hWX⟩ : WFx fX := by rw [efX]; exact come_ok ⟨mk, n, b, hW⟩
        have hNRX := hNX.to hWX
        have hFX : FB fX := by rw [efX]; exact come_fb ⟨mk, n, b, hW⟩ hF
        obtain ⟨hmkX, hm40X, hn8X, hb0X, hb0X1, hb0X8, hn8Xb, hstX, hnoX, howX, hdoX, hb0Xa, hb0Xc, hb0Xd, hb0Xz⟩ := id hWX
        have hm8X : nX ≤ 8 := by omega
        obtain ⟨eN1X, eN2X, -⟩ := hWX.N
        refine g_pop X dL_back_155 rfl rfl ?_
        refine g_aload_n X dL_back_156 rfl 4 rfl rfl ?_
        refine g_iload_n X dL_back_157 rfl 5 rfl rfl ?_
        refine g_iconst (v := (2 : Int32)) X dL_back_158 (by decide) rfl ?_
        refine g_callSR (n := 2) (As := [_, _]) (rest := [_]) X (c_L_up l D (vv) 2 (by omega)) gL_back_L_up rfl (by decide +kernel) ⟨Nat.le_of_ble_eq_true rfl, Nat.le_of_ble_eq_true rfl⟩ [] rfl rfl rfl rfl (Nat.le_of_ble_eq_true rfl) dL_back_159 ⟨Nat.le_of_ble_eq_true rfl, Nat.le_of_ble_eq_true rfl⟩ rfl (fun v hv => ?_)
        obtain rfl := hv
        refine g_st (st' := [_, _]) rfl ?_
        refine g_upn (by omega) (fun u159 hu159 eu159 => ?_)
        refine g_callVXs (n := 1) (As := [_]) (rest := []) X hAg rfl (c_X6_restore l D a fX naX wX td vl L pt fl kd kpX pqX psS hFX hkpX hHLX.hq hFs _) gL_back_X6_restore rfl (by decide +kernel) ⟨Nat.le_of_ble_eq_true rfl, Nat.le_of_ble_eq_true rfl⟩ 20 rfl rfl rfl rfl (Nat.le_of_ble_eq_true rfl) dL_back_162 ⟨Nat.le_of_ble_eq_true rfl, Nat.le_of_ble_eq_true rfl⟩ rfl (fun v w9 hv => ?_)
        obtain ⟨hAY, hv⟩ := hv
        have eu : u159 = u15 := by omega
        subst eu
        rw [nI_clamp (by omega)] at hv
        rcases hv with ⟨hr2, -⟩ | ⟨-, hz, -⟩ | ⟨-, bR, gR, nbR, b0, hz, rfl, rfl⟩
        · exact absurd (rng_nI' hu159 (by omega)) (by rw [hr2]; exact Bool.false_ne_true)
        · rw [hp1] at hz; cases hz
        rw [hp1] at hz
        cases hz
        obtain ⟨kpY, pqY, ekY, epY, hkpY, hHLY⟩ := co_hist (b0 := b0) (x := f 76) (by rw [hmk]; exact nI_ge0 (by omega)) hHLX hkpX hFX ⟨nX, hNRX, hn8X⟩
        rw [ekY, epY] at hAY ⊢
        refine ⟨hAY, ?_⟩
        refine g_st (st' := [_]) rfl ?_
        refine g_topi (hmk) ?_
        have hADY := hAY.trans hADX
        refine g_iload X dL_back_165 2 rfl rfl ?_
        refine g_icmp_ne X dL_back_167 199 (by decide) rfl (fun h167 => absurd rfl h167) (fun h167 => ?_)
        refine g_aload_n X dL_back_170 rfl 4 rfl rfl ?_
        refine g_callSRX (w0 := []) (n := 1) (As := [_]) (rest := []) X (c_L_print l D a f na wX td vl L pt fl kd kpY (fqa pqY) (fqa psS) (tlW D pqY psS) mk n b hW hNR) gL_back_L_print rfl (by decide +kernel) ⟨Nat.le_of_ble_eq_true rfl, Nat.le_of_ble_eq_true rfl⟩ rfl rfl rfl (Nat.le_of_ble_eq_true rfl) dL_back_171 ⟨Nat.le_of_ble_eq_true rfl, Nat.le_of_ble_eq_true rfl⟩ rfl (fun v hv => ?_)
        obtain rfl := hv
        refine g_st (st' := [_]) rfl ?_
        refine g_lload_n X dL_back_174 rfl 3 rfl rfl ?_
        refine g_lcmp X dL_back_175 rfl ?_
        refine g_if_ne X dL_back_176 199 (by decide) rfl (fun h176 => absurd (lg_self _) h176) (fun h176 => ?_)
        refine g_aload_n X dL_back_179 rfl 4 rfl rfl ?_
        refine g_iconst (v := (1 : Int32)) X dL_back_180 (by decide) rfl ?_
        refine g_iload_n X dL_back_181 rfl 5 rfl rfl ?_
        refine g_iconst (v := (2 : Int32)) X dL_back_182 (by decide) rfl ?_
        refine g_callSR (n := 2) (As := [_, _]) (rest := [_, _]) X (c_L_up l D (vv) 2 (by omega)) gL_back_L_up rfl (by decide +kernel) ⟨Nat.le_of_ble_eq_true rfl, Nat.le_of_ble_eq_true rfl⟩ [] rfl rfl rfl rfl (Nat.le_of_ble_eq_true rfl) dL_back_183 ⟨Nat.le_of_ble_eq_true rfl, Nat.le_of_ble_eq_true rfl⟩ rfl (fun v hv => ?_)
        obtain rfl := hv
        refine g_st (st' := [_, _, _]) rfl ?_
        refine g_upn (by omega) (fun u183 hu183 eu183 => ?_)
        refine g_isub X dL_back_186 rfl ?_
        refine g_topi (y := nI (1 - u183)) (pk_sub (a := 1) (b := u183) (by omega)) ?_
        refine g_callVXs (n := 1) (As := [_]) (rest := []) X hAg rfl (c_X6_restore l D a f na wX td vl L pt fl kd kpY pqY psS hF hkpY hHLY.hq hFs _) gL_back_X6_restore rfl (by decide +kernel) ⟨Nat.le_of_ble_eq_true rfl, Nat.le_of_ble_eq_true rfl⟩ 20 rfl rfl rfl rfl (Nat.le_of_ble_eq_true rfl) dL_back_187 ⟨Nat.le_of_ble_eq_true rfl, Nat.le_of_ble_eq_true rfl⟩ rfl (fun v w9 hv => ?_)
        obtain ⟨-, hv⟩ := hv
        rw [nI_clamp (by omega)] at hv
        rcases hv with ⟨hr2, -⟩ | ⟨-, hz, rfl, rfl⟩ | ⟨-, bR, gR, nbR, b0R, hz, -⟩
        · exact absurd (rng_nI' (n := 2) (k := 1 - u183) (by omega) (by omega)) (by rw [hr2]; exact Bool.false_ne_true)
        rotate_left
        · rw [hp0 (1 - u183) (by omega) (by omega)] at hz; cases hz
        refine ⟨AD.rf rfl, ?_⟩
        refine g_st (st' := [_]) rfl ?_
        refine g_bipush (v := ((-5) : Int32)) X dL_back_190 (by decide) rfl ?_
        refine g_icmp_ne X dL_back_192 199 (by decide) rfl (fun h192 => absurd h192 (by decide)) (fun h192 => ?_)
        refine g_iconst (v := (1 : Int32)) X dL_back_195 (by decide) rfl ?_
        refine g_goto X dL_back_196 200 (by decide) ?_
        refine g_retW X hr (by first | rfl | exact b2i_nar _) dL_back_200 hAe ?_
        exact ⟨rfl, na, wX, td, vl, L, pt, fl, kd, kpY, pqY, psS, ⟨n, hNR, hn8⟩, hADY, rfl⟩
    · have hHtt : HL kpT pqT (fG :: fQ :: fP :: f :: (List.take 2 (List.take 3 (List.take 4 (List.take 5 l9))))) := hN_t (Int32.not_lt.mp h84) hHLT
      refine g_iinc (v := nI ((2 + 1) + 1)) X [(5, _), (4, _), (2, _), (0, _), (1, _)] dL_back_87 0 rfl (nI_add (2 + 1) 1) (by decide) rfl rfl ?_
      refine g_aload_n X dL_back_90 rfl 3 rfl rfl ?_
      refine g_iload_n X dL_back_91 rfl 4 rfl rfl ?_
      refine g_bipush (v := (6 : Int32)) X dL_back_92 (by decide) rfl ?_
      refine g_ishr X dL_back_94 rfl ?_
      refine g_bipush (v := (6 : Int32)) X dL_back_95 (by decide) rfl ?_
      refine g_callSR (n := 2) (As := [_, _]) (rest := [_]) X (c_L_up l D ((vv >>> ((6 : Int32) &&& 31))) 6 (by omega)) gL_back_L_up rfl (by decide +kernel) ⟨Nat.le_of_ble_eq_true rfl, Nat.le_of_ble_eq_true rfl⟩ [] rfl rfl rfl rfl (Nat.le_of_ble_eq_true rfl) dL_back_97 ⟨Nat.le_of_ble_eq_true rfl, Nat.le_of_ble_eq_true rfl⟩ rfl (fun v hv => ?_)
      obtain rfl := hv
      refine g_st (st' := [_, _]) rfl ?_
      refine g_upn (by omega) (fun u97 hu97 eu97 => ?_)
      refine g_iconst (v := (0 : Int32)) X dL_back_100 (by decide) rfl ?_
      refine g_iconst (v := (1 : Int32)) X dL_back_101 (by decide) rfl ?_
      refine g_callVXs (n := 3) (As := [_, _, _]) (rest := []) X hAg rfl (c_X6_come l D a fT naT wT td vl L pt fl kd kpT pqT psS mkT nT bT hWT hNRT hFT hkpT hHtt.hq _ _ _) gL_back_X6_come rfl (by decide +kernel) ⟨Nat.le_of_ble_eq_true rfl, Nat.le_of_ble_eq_true rfl⟩ 20 rfl rfl rfl rfl (Nat.le_of_ble_eq_true rfl) dL_back_102 ⟨Nat.le_of_ble_eq_true rfl, Nat.le_of_ble_eq_true rfl⟩ rfl (fun v w9 hv => ?_)
      obtain ⟨rfl, fV, naV, wV, kpV, pqV, efV, hNV, hAV, hkpV, hHLV, ekV, rfl⟩ := ch_out hv hkpT hHtt hFT ⟨_, hNRT, hn8T⟩
      have hADV := hAV.trans hADT
      refine ⟨hAV, ?_⟩
      refine g_st (st' := [_]) rfl ?_
      obtain ⟨mkV, nV, bV, hWV⟩ : WFx fV := by rw [efV]; exact come_ok ⟨mkT, nT, bT, hWT⟩
      have hSV : SI (cr + 1 + 1) fV := by rw [efV]; exact come_si (d := 0) (e := 1) hWT hST hu97 (by omega) (Or.inl rfl)
      have hNRV := hNV.to hWV
      have hFV : FB fV := by rw [efV]; exact come_fb ⟨mkT, nT, bT, hWT⟩ hFT
      obtain ⟨hmkV, hm40V, hn8V, hb0V, hb0V1, hb0V8, hn8Vb, hstV, hnoV, howV, hdoV, hb0Va, hb0Vc, hb0Vd, hb0Vz⟩ := id hWV
      have hm8V : nV ≤ 8 := by omega
      obtain ⟨eN1V, eN2V, -⟩ := hWV.N
      refine g_if_lt X dL_back_105 111 (by decide) rfl (fun h105 => ?_) (fun h105 => ?_)
      · have hHwf : HL kpV pqV (fG :: fQ :: fP :: f :: (List.take 2 (List.take 3 (List.take 4 (List.take 5 l9))))) := hN_f h105 hHLV
        refine g_iconst (v := (0 : Int32)) X dL_back_111 (by decide) rfl ?_
        refine g_istore X [(6, _), (5, _), (4, _), (2, _), (0, _), (1, _)] dL_back_112 (by decide) rfl rfl ?_
        refine g_iload X dL_back_114 0 rfl rfl ?_
        refine g_iload X dL_back_116 1 rfl rfl ?_
        refine g_icmp_ge X dL_back_118 136 (by decide) rfl (fun h118 => absurd (nj_le (a := ((2 + 1) + 1)) (b := 0) (by omega) (by omega) h118) (by omega)) (fun h118 => ?_)
        have i118 := nj_nle (a := ((2 + 1) + 1)) (b := 0) (by omega) (by omega) h118
        refine g_aload_n X dL_back_121 rfl 4 rfl rfl ?_
        refine g_callVXs (n := 0) (As := []) (rest := []) X hAg rfl (c_X6_undo l D a fV naV wV td vl L pt fl kd kpV pqV psS hkpV hHwf.hq hHwf.fb) gL_back_X6_undo rfl (by decide +kernel) ⟨Nat.le_of_ble_eq_true rfl, Nat.le_of_ble_eq_true rfl⟩ 20 rfl rfl rfl rfl (Nat.le_of_ble_eq_true rfl) dL_back_122 ⟨Nat.le_of_ble_eq_true rfl, Nat.le_of_ble_eq_true rfl⟩ rfl (fun v w9 hv => ?_)
        obtain ⟨r9, rfl, hv⟩ := hv
        obtain ⟨hk1, hpp, hHL0⟩ := hHwf.pop
        rcases hv with ⟨hk0, -, -⟩ | ⟨-, rfl, bU, gU, nb0, hpU, rfl⟩
        · omega
        obtain ⟨eg, hN0, -⟩ := hpp _ _ _ hpU
        replace eg := eg.symm
        subst eg
        refine ⟨AD.rf rfl, ?_⟩
        refine g_st (st' := [_]) rfl ?_
        have hk0 : kpV - 1 ≤ 6 := by omega
        have hADu0 : AD (wB D a fG nb0 wV td vl L pt fl kd (kpV - 1) (fqa pqV) (fqa psS) (tlW D pqV psS)) (wB D a f na w td vl L pt fl kd kp (fqa pq) (fqa ps) (tlW D pq ps)) := AD.trans (v := wB D a fV naV wV td vl L pt fl kd kpV (fqa pqV) (fqa psS) (tlW D pqV psS)) (AD.rf rfl) hADV
        refine g_if_ge X dL_back_125 130 (by decide) rfl (fun h125 => ?_) (fun h125 => absurd (nI_ge0 (by omega)) h125)
        have i125 := nj_le (a := 0) (b := (kpV - 1)) (by omega) (by omega) h125
        refine g_iinc (v := nI (0 + 1)) X [(6, _), (5, _), (4, _), (2, _), (0, _), (1, _)] dL_back_130 0 rfl (nI_add 0 1) (by decide) rfl rfl ?_
        refine g_goto X dL_back_133 114 (by decide) ?_
        refine g_iload X dL_back_114 0 rfl rfl ?_
        refine g_iload X dL_back_116 1 rfl rfl ?_
        refine g_icmp_ge X dL_back_118 136 (by decide) rfl (fun h118 => absurd (nj_le (a := ((2 + 1) + 1)) (b := (0 + 1)) (by omega) (by omega) h118) (by omega)) (fun h118 => ?_)
        have i118 := nj_nle (a := ((2 + 1) + 1)) (b := (0 + 1)) (by omega) (by omega) h118
        refine g_aload_n X dL_back_121 rfl 4 rfl rfl ?_
        refine g_callVXs (n := 0) (As := []) (rest := []) X hAg rfl (c_X6_undo l D a fG nb0 wV td vl L pt fl kd (kpV - 1) pqV psS hk0 hHL0.hq hHL0.fb) gL_back_X6_undo rfl (by decide +kernel) ⟨Nat.le_of_ble_eq_true rfl, Nat.le_of_ble_eq_true rfl⟩ 20 rfl rfl rfl rfl (Nat.le_of_ble_eq_true rfl) dL_back_122 ⟨Nat.le_of_ble_eq_true rfl, Nat.le_of_ble_eq_true rfl⟩ rfl (fun v w9 hv => ?_)
        obtain ⟨r9, rfl, hv⟩ := hv
        obtain ⟨hk1, hpp, hHL1⟩ := hHL0.pop
        rcases hv with ⟨hk0, -, -⟩ | ⟨-, rfl, bU, gU, nb1, hpU, rfl⟩
        · omega
        obtain ⟨eg, hN1, -⟩ := hpp _ _ _ hpU
        replace eg := eg.symm
        subst eg
        refine ⟨AD.rf rfl, ?_⟩
        refine g_st (st' := [_]) rfl ?_
        have hk1 : (kpV - 1) - 1 ≤ 6 := by omega
        have hADu1 : AD (wB D a fQ nb1 wV td vl L pt fl kd ((kpV - 1) - 1) (fqa pqV) (fqa psS) (tlW D pqV psS)) (wB D a f na w td vl L pt fl kd kp (fqa pq) (fqa ps) (tlW D pq ps)) := AD.trans (v := wB D a fG nb0 wV td vl L pt fl kd (kpV - 1) (fqa pqV) (fqa psS) (tlW D pqV psS)) (AD.rf rfl) hADu0
        refine g_if_ge X dL_back_125 130 (by decide) rfl (fun h125 => ?_) (fun h125 => absurd (nI_ge0 (by omega)) h125)
        have i125 := nj_le (a := 0) (b := ((kpV - 1) - 1)) (by omega) (by omega) h125
        refine g_iinc (v := nI ((0 + 1) + 1)) X [(6, _), (5, _), (4, _), (2, _), (0, _), (1, _)] dL_back_130 0 rfl (nI_add (0 + 1) 1) (by decide) rfl rfl ?_
        refine g_goto X dL_back_133 114 (by decide) ?_
        refine g_iload X dL_back_114 0 rfl rfl ?_
        refine g_iload X dL_back_116 1 rfl rfl ?_
        refine g_icmp_ge X dL_back_118 136 (by decide) rfl (fun h118 => absurd (nj_le (a := ((2 + 1) + 1)) (b := ((0 + 1) + 1)) (by omega) (by omega) h118) (by omega)) (fun h118 => ?_)
        have i118 := nj_nle (a := ((2 + 1) + 1)) (b := ((0 + 1) + 1)) (by omega) (by omega) h118
        refine g_aload_n X dL_back_121 rfl 4 rfl rfl ?_
        refine g_callVXs (n := 0) (As := []) (rest := []) X hAg rfl (c_X6_undo l D a fQ nb1 wV td vl L pt fl kd ((kpV - 1) - 1) pqV psS hk1 hHL1.hq hHL1.fb) gL_back_X6_undo rfl (by decide +kernel) ⟨Nat.le_of_ble_eq_true rfl, Nat.le_of_ble_eq_true rfl⟩ 20 rfl rfl rfl rfl (Nat.le_of_ble_eq_true rfl) dL_back_122 ⟨Nat.le_of_ble_eq_true rfl, Nat.le_of_ble_eq_true rfl⟩ rfl (fun v w9 hv => ?_)
        obtain ⟨r9, rfl, hv⟩ := hv
        obtain ⟨hk1, hpp, hHL2⟩ := hHL1.pop
        rcases hv with ⟨hk0, -, -⟩ | ⟨-, rfl, bU, gU, nb2, hpU, rfl⟩
        · omega
        obtain ⟨eg, hN2, -⟩ := hpp _ _ _ hpU
        replace eg := eg.symm
        subst eg
        refine ⟨AD.rf rfl, ?_⟩
        refine g_st (st' := [_]) rfl ?_
        have hk2 : ((kpV - 1) - 1) - 1 ≤ 6 := by omega
        have hADu2 : AD (wB D a fP nb2 wV td vl L pt fl kd (((kpV - 1) - 1) - 1) (fqa pqV) (fqa psS) (tlW D pqV psS)) (wB D a f na w td vl L pt fl kd kp (fqa pq) (fqa ps) (tlW D pq ps)) := AD.trans (v := wB D a fQ nb1 wV td vl L pt fl kd ((kpV - 1) - 1) (fqa pqV) (fqa psS) (tlW D pqV psS)) (AD.rf rfl) hADu1
        refine g_if_ge X dL_back_125 130 (by decide) rfl (fun h125 => ?_) (fun h125 => absurd (nI_ge0 (by omega)) h125)
        have i125 := nj_le (a := 0) (b := (((kpV - 1) - 1) - 1)) (by omega) (by omega) h125
        refine g_iinc (v := nI (((0 + 1) + 1) + 1)) X [(6, _), (5, _), (4, _), (2, _), (0, _), (1, _)] dL_back_130 0 rfl (nI_add ((0 + 1) + 1) 1) (by decide) rfl rfl ?_
        refine g_goto X dL_back_133 114 (by decide) ?_
        refine g_iload X dL_back_114 0 rfl rfl ?_
        refine g_iload X dL_back_116 1 rfl rfl ?_
        refine g_icmp_ge X dL_back_118 136 (by decide) rfl (fun h118 => absurd (nj_le (a := ((2 + 1) + 1)) (b := (((0 + 1) + 1) + 1)) (by omega) (by omega) h118) (by omega)) (fun h118 => ?_)
        have i118 := nj_nle (a := ((2 + 1) + 1)) (b := (((0 + 1) + 1) + 1)) (by omega) (by omega) h118
        refine g_aload_n X dL_back_121 rfl 4 rfl rfl ?_
        refine g_callVXs (n := 0) (As := []) (rest := []) X hAg rfl (c_X6_undo l D a fP nb2 wV td vl L pt fl kd (((kpV - 1) - 1) - 1) pqV psS hk2 hHL2.hq hHL2.fb) gL_back_X6_undo rfl (by decide +kernel) ⟨Nat.le_of_ble_eq_true rfl, Nat.le_of_ble_eq_true rfl⟩ 20 rfl rfl rfl rfl (Nat.le_of_ble_eq_true rfl) dL_back_122 ⟨Nat.le_of_ble_eq_true rfl, Nat.le_of_ble_eq_true rfl⟩ rfl (fun v w9 hv => ?_)
        obtain ⟨r9, rfl, hv⟩ := hv
        obtain ⟨hk1, hpp, hHL3⟩ := hHL2.pop
        rcases hv with ⟨hk0, -, -⟩ | ⟨-, rfl, bU, gU, nb3, hpU, rfl⟩
        · omega
        obtain ⟨eg, hN3, -⟩ := hpp _ _ _ hpU
        replace eg := eg.symm
        subst eg
        refine ⟨AD.rf rfl, ?_⟩
        refine g_st (st' := [_]) rfl ?_
        have hk3 : (((kpV - 1) - 1) - 1) - 1 ≤ 6 := by omega
        have hADu3 : AD (wB D a f nb3 wV td vl L pt fl kd ((((kpV - 1) - 1) - 1) - 1) (fqa pqV) (fqa psS) (tlW D pqV psS)) (wB D a f na w td vl L pt fl kd kp (fqa pq) (fqa ps) (tlW D pq ps)) := AD.trans (v := wB D a fP nb2 wV td vl L pt fl kd (((kpV - 1) - 1) - 1) (fqa pqV) (fqa psS) (tlW D pqV psS)) (AD.rf rfl) hADu2
        refine g_if_ge X dL_back_125 130 (by decide) rfl (fun h125 => ?_) (fun h125 => absurd (nI_ge0 (by omega)) h125)
        have i125 := nj_le (a := 0) (b := ((((kpV - 1) - 1) - 1) - 1)) (by omega) (by omega) h125
        refine g_iinc (v := nI ((((0 + 1) + 1) + 1) + 1)) X [(6, _), (5, _), (4, _), (2, _), (0, _), (1, _)] dL_back_130 0 rfl (nI_add (((0 + 1) + 1) + 1) 1) (by decide) rfl rfl ?_
        refine g_goto X dL_back_133 114 (by decide) ?_
        refine g_iload X dL_back_114 0 rfl rfl ?_
        refine g_iload X dL_back_116 1 rfl rfl ?_
        refine g_icmp_ge X dL_back_118 136 (by decide) rfl (fun h118 => ?_) (fun h118 => absurd (nj_nle (a := ((2 + 1) + 1)) (b := ((((0 + 1) + 1) + 1) + 1)) (by omega) (by omega) h118) (by omega))
        have i118 := nj_le (a := ((2 + 1) + 1)) (b := ((((0 + 1) + 1) + 1) + 1)) (by omega) (by omega) h118
        have hNRu := hN3.to hW
        refine g_aload_n X dL_back_136 rfl 4 rfl rfl ?_
        refine g_callSRX (w0 := []) (n := 1) (As := [_]) (rest := []) X (c_L_print l D a f nb3 wV td vl L pt fl kd ((((kpV - 1) - 1) - 1) - 1) (fqa pqV) (fqa psS) (tlW D pqV psS) mk n b hW hNRu) gL_back_L_print rfl (by decide +kernel) ⟨Nat.le_of_ble_eq_true rfl, Nat.le_of_ble_eq_true rfl⟩ rfl rfl rfl (Nat.le_of_ble_eq_true rfl) dL_back_137 ⟨Nat.le_of_ble_eq_true rfl, Nat.le_of_ble_eq_true rfl⟩ rfl (fun v hv => ?_)
        obtain rfl := hv
        refine g_st (st' := [_]) rfl ?_
        refine g_lload_n X dL_back_140 rfl 3 rfl rfl ?_
        refine g_lcmp X dL_back_141 rfl ?_
        refine g_if_eq X dL_back_142 147 (by decide) rfl (fun h142 => ?_) (fun h142 => absurd (lg_self _) h142)
        refine g_aload_n X dL_back_147 rfl 4 rfl rfl ?_
        refine g_iconst (v := (5 : Int32)) X dL_back_148 (by decide) rfl ?_
        refine g_bipush (v := (9 : Int32)) X dL_back_149 (by decide) rfl ?_
        refine g_iconst (v := (2 : Int32)) X dL_back_151 (by decide) rfl ?_
        refine g_callVXs (n := 3) (As := [_, _, _]) (rest := []) X hAg rfl (c_X6_come l D a f nb3 wV td vl L pt fl kd ((((kpV - 1) - 1) - 1) - 1) pqV psS mk n b hW hNRu hF hk3 hHL3.hq _ _ _) gL_back_X6_come rfl (by decide +kernel) ⟨Nat.le_of_ble_eq_true rfl, Nat.le_of_ble_eq_true rfl⟩ 20 rfl rfl rfl rfl (Nat.le_of_ble_eq_true rfl) dL_back_152 ⟨Nat.le_of_ble_eq_true rfl, Nat.le_of_ble_eq_true rfl⟩ rfl (fun v w9 hv => ?_)
        obtain ⟨rfl, fX, naX, wX, kpX, pqX, efX, hNX, hAX, hkpX, hHLX, ekX, rfl⟩ := ch_out hv hk3 hHL3 hF ⟨_, hNRu, hn8⟩
        have hADX := hAX.trans hADu3
        refine ⟨hAX, ?_⟩
        refine g_st (st' := [_]) rfl ?_
        obtain ⟨mkX, nX, bX, hWX⟩ : WFx fX := by rw [efX]; exact come_ok ⟨mk, n, b, hW⟩
        have hNRX := hNX.to hWX
        have hFX : FB fX := by rw [efX]; exact come_fb ⟨mk, n, b, hW⟩ hF
        obtain ⟨hmkX, hm40X, hn8X, hb0X, hb0X1, hb0X8, hn8Xb, hstX, hnoX, howX, hdoX, hb0Xa, hb0Xc, hb0Xd, hb0Xz⟩ := id hWX
        have hm8X : nX ≤ 8 := by omega
        obtain ⟨eN1X, eN2X, -⟩ := hWX.N
        refine g_pop X dL_back_155 rfl rfl ?_
        refine g_aload_n X dL_back_156 rfl 4 rfl rfl ?_
        refine g_iload_n X dL_back_157 rfl 5 rfl rfl ?_
        refine g_iconst (v := (2 : Int32)) X dL_back_158 (by decide) rfl ?_
        refine g_callSR (n := 2) (As := [_, _]) (rest := [_]) X (c_L_up l D (vv) 2 (by omega)) gL_back_L_up rfl (by decide +kernel) ⟨Nat.le_of_ble_eq_true rfl, Nat.le_of_ble_eq_true rfl⟩ [] rfl rfl rfl rfl (Nat.le_of_ble_eq_true rfl) dL_back_159 ⟨Nat.le_of_ble_eq_true rfl, Nat.le_of_ble_eq_true rfl⟩ rfl (fun v hv => ?_)
        obtain rfl := hv
        refine g_st (st' := [_, _]) rfl ?_
        refine g_upn (by omega) (fun u159 hu159 eu159 => ?_)
        refine g_callVXs (n := 1) (As := [_]) (rest := []) X hAg rfl (c_X6_restore l D a fX naX wX td vl L pt fl kd kpX pqX psS hFX hkpX hHLX.hq hFs _) gL_back_X6_restore rfl (by decide +kernel) ⟨Nat.le_of_ble_eq_true rfl, Nat.le_of_ble_eq_true rfl⟩ 20 rfl rfl rfl rfl (Nat.le_of_ble_eq_true rfl) dL_back_162 ⟨Nat.le_of_ble_eq_true rfl, Nat.le_of_ble_eq_true rfl⟩ rfl (fun v w9 hv => ?_)
        obtain ⟨hAY, hv⟩ := hv
        have eu : u159 = u15 := by omega
        subst eu
        rw [nI_clamp (by omega)] at hv
        rcases hv with ⟨hr2, -⟩ | ⟨-, hz, -⟩ | ⟨-, bR, gR, nbR, b0, hz, rfl, rfl⟩
        · exact absurd (rng_nI' hu159 (by omega)) (by rw [hr2]; exact Bool.false_ne_true)
        · rw [hp1] at hz; cases hz
        rw [hp1] at hz
        cases hz
        obtain ⟨kpY, pqY, ekY, epY, hkpY, hHLY⟩ := co_hist (b0 := b0) (x := f 76) (by rw [hmk]; exact nI_ge0 (by omega)) hHLX hkpX hFX ⟨nX, hNRX, hn8X⟩
        rw [ekY, epY] at hAY ⊢
        refine ⟨hAY, ?_⟩
        refine g_st (st' := [_]) rfl ?_
        refine g_topi (hmk) ?_
        have hADY := hAY.trans hADX
        refine g_iload X dL_back_165 2 rfl rfl ?_
        refine g_icmp_ne X dL_back_167 199 (by decide) rfl (fun h167 => absurd rfl h167) (fun h167 => ?_)
        refine g_aload_n X dL_back_170 rfl 4 rfl rfl ?_
        refine g_callSRX (w0 := []) (n := 1) (As := [_]) (rest := []) X (c_L_print l D a f na wX td vl L pt fl kd kpY (fqa pqY) (fqa psS) (tlW D pqY psS) mk n b hW hNR) gL_back_L_print rfl (by decide +kernel) ⟨Nat.le_of_ble_eq_true rfl, Nat.le_of_ble_eq_true rfl⟩ rfl rfl rfl (Nat.le_of_ble_eq_true rfl) dL_back_171 ⟨Nat.le_of_ble_eq_true rfl, Nat.le_of_ble_eq_true rfl⟩ rfl (fun v hv => ?_)
        obtain rfl := hv
        refine g_st (st' := [_]) rfl ?_
        refine g_lload_n X dL_back_174 rfl 3 rfl rfl ?_
        refine g_lcmp X dL_back_175 rfl ?_
        refine g_if_ne X dL_back_176 199 (by decide) rfl (fun h176 => absurd (lg_self _) h176) (fun h176 => ?_)
        refine g_aload_n X dL_back_179 rfl 4 rfl rfl ?_
        refine g_iconst (v := (1 : Int32)) X dL_back_180 (by decide) rfl ?_
        refine g_iload_n X dL_back_181 rfl 5 rfl rfl ?_
        refine g_iconst (v := (2 : Int32)) X dL_back_182 (by decide) rfl ?_
        refine g_callSR (n := 2) (As := [_, _]) (rest := [_, _]) X (c_L_up l D (vv) 2 (by omega)) gL_back_L_up rfl (by decide +kernel) ⟨Nat.le_of_ble_eq_true rfl, Nat.le_of_ble_eq_true rfl⟩ [] rfl rfl rfl rfl (Nat.le_of_ble_eq_true rfl) dL_back_183 ⟨Nat.le_of_ble_eq_true rfl, Nat.le_of_ble_eq_true rfl⟩ rfl (fun v hv => ?_)
        obtain rfl := hv
        refine g_st (st' := [_, _, _]) rfl ?_
        refine g_upn (by omega) (fun u183 hu183 eu183 => ?_)
        refine g_isub X dL_back_186 rfl ?_
        refine g_topi (y := nI (1 - u183)) (pk_sub (a := 1) (b := u183) (by omega)) ?_
        refine g_callVXs (n := 1) (As := [_]) (rest := []) X hAg rfl (c_X6_restore l D a f na wX td vl L pt fl kd kpY pqY psS hF hkpY hHLY.hq hFs _) gL_back_X6_restore rfl (by decide +kernel) ⟨Nat.le_of_ble_eq_true rfl, Nat.le_of_ble_eq_true rfl⟩ 20 rfl rfl rfl rfl (Nat.le_of_ble_eq_true rfl) dL_back_187 ⟨Nat.le_of_ble_eq_true rfl, Nat.le_of_ble_eq_true rfl⟩ rfl (fun v w9 hv => ?_)
        obtain ⟨-, hv⟩ := hv
        rw [nI_clamp (by omega)] at hv
        rcases hv with ⟨hr2, -⟩ | ⟨-, hz, rfl, rfl⟩ | ⟨-, bR, gR, nbR, b0R, hz, -⟩
        · exact absurd (rng_nI' (n := 2) (k := 1 - u183) (by omega) (by omega)) (by rw [hr2]; exact Bool.false_ne_true)
        rotate_left
        · rw [hp0 (1 - u183) (by omega) (by omega)] at hz; cases hz
        refine ⟨AD.rf rfl, ?_⟩
        refine g_st (st' := [_]) rfl ?_
        refine g_bipush (v := ((-5) : Int32)) X dL_back_190 (by decide) rfl ?_
        refine g_icmp_ne X dL_back_192 199 (by decide) rfl (fun h192 => absurd h192 (by decide)) (fun h192 => ?_)
        refine g_iconst (v := (1 : Int32)) X dL_back_195 (by decide) rfl ?_
        refine g_goto X dL_back_196 200 (by decide) ?_
        refine g_retW X hr (by first | rfl | exact b2i_nar _) dL_back_200 hAe ?_
        exact ⟨rfl, na, wX, td, vl, L, pt, fl, kd, kpY, pqY, psS, ⟨n, hNR, hn8⟩, hADY, rfl⟩
      · have hHwt : HL kpV pqV (fT :: fG :: fQ :: fP :: f :: (List.take 1 (List.take 2 (List.take 3 (List.take 4 (List.take 5 l9)))))) := hN_t (Int32.not_lt.mp h105) hHLV
        refine g_iinc (v := nI (((2 + 1) + 1) + 1)) X [(5, _), (4, _), (2, _), (0, _), (1, _)] dL_back_108 0 rfl (nI_add ((2 + 1) + 1) 1) (by decide) rfl rfl ?_
        refine g_iconst (v := (0 : Int32)) X dL_back_111 (by decide) rfl ?_
        refine g_istore X [(6, _), (5, _), (4, _), (2, _), (0, _), (1, _)] dL_back_112 (by decide) rfl rfl ?_
        refine g_iload X dL_back_114 0 rfl rfl ?_
        refine g_iload X dL_back_116 1 rfl rfl ?_
        refine g_icmp_ge X dL_back_118 136 (by decide) rfl (fun h118 => absurd (nj_le (a := (((2 + 1) + 1) + 1)) (b := 0) (by omega) (by omega) h118) (by omega)) (fun h118 => ?_)
        have i118 := nj_nle (a := (((2 + 1) + 1) + 1)) (b := 0) (by omega) (by omega) h118
        refine g_aload_n X dL_back_121 rfl 4 rfl rfl ?_
        refine g_callVXs (n := 0) (As := []) (rest := []) X hAg rfl (c_X6_undo l D a fV naV wV td vl L pt fl kd kpV pqV psS hkpV hHwt.hq hHwt.fb) gL_back_X6_undo rfl (by decide +kernel) ⟨Nat.le_of_ble_eq_true rfl, Nat.le_of_ble_eq_true rfl⟩ 20 rfl rfl rfl rfl (Nat.le_of_ble_eq_true rfl) dL_back_122 ⟨Nat.le_of_ble_eq_true rfl, Nat.le_of_ble_eq_true rfl⟩ rfl (fun v w9 hv => ?_)
        obtain ⟨r9, rfl, hv⟩ := hv
        obtain ⟨hk1, hpp, hHL0⟩ := hHwt.pop
        rcases hv with ⟨hk0, -, -⟩ | ⟨-, rfl, bU, gU, nb0, hpU, rfl⟩
        · omega
        obtain ⟨eg, hN0, -⟩ := hpp _ _ _ hpU
        replace eg := eg.symm
        subst eg
        refine ⟨AD.rf rfl, ?_⟩
        refine g_st (st' := [_]) rfl ?_
        have hk0 : kpV - 1 ≤ 6 := by omega
        have hADu0 : AD (wB D a fT nb0 wV td vl L pt fl kd (kpV - 1) (fqa pqV) (fqa psS) (tlW D pqV psS)) (wB D a f na w td vl L pt fl kd kp (fqa pq) (fqa ps) (tlW D pq ps)) := AD.trans (v := wB D a fV naV wV td vl L pt fl kd kpV (fqa pqV) (fqa psS) (tlW D pqV psS)) (AD.rf rfl) hADV
        refine g_if_ge X dL_back_125 130 (by decide) rfl (fun h125 => ?_) (fun h125 => absurd (nI_ge0 (by omega)) h125)
        have i125 := nj_le (a := 0) (b := (kpV - 1)) (by omega) (by omega) h125
        refine g_iinc (v := nI (0 + 1)) X [(6, _), (5, _), (4, _), (2, _), (0, _), (1, _)] dL_back_130 0 rfl (nI_add 0 1) (by decide) rfl rfl ?_
        refine g_goto X dL_back_133 114 (by decide) ?_
        refine g_iload X dL_back_114 0 rfl rfl ?_
        refine g_iload X dL_back_116 1 rfl rfl ?_
        refine g_icmp_ge X dL_back_118 136 (by decide) rfl (fun h118 => absurd (nj_le (a := (((2 + 1) + 1) + 1)) (b := (0 + 1)) (by omega) (by omega) h118) (by omega)) (fun h118 => ?_)
        have i118 := nj_nle (a := (((2 + 1) + 1) + 1)) (b := (0 + 1)) (by omega) (by omega) h118
        refine g_aload_n X dL_back_121 rfl 4 rfl rfl ?_
        refine g_callVXs (n := 0) (As := []) (rest := []) X hAg rfl (c_X6_undo l D a fT nb0 wV td vl L pt fl kd (kpV - 1) pqV psS hk0 hHL0.hq hHL0.fb) gL_back_X6_undo rfl (by decide +kernel) ⟨Nat.le_of_ble_eq_true rfl, Nat.le_of_ble_eq_true rfl⟩ 20 rfl rfl rfl rfl (Nat.le_of_ble_eq_true rfl) dL_back_122 ⟨Nat.le_of_ble_eq_true rfl, Nat.le_of_ble_eq_true rfl⟩ rfl (fun v w9 hv => ?_)
        obtain ⟨r9, rfl, hv⟩ := hv
        obtain ⟨hk1, hpp, hHL1⟩ := hHL0.pop
        rcases hv with ⟨hk0, -, -⟩ | ⟨-, rfl, bU, gU, nb1, hpU, rfl⟩
        · omega
        obtain ⟨eg, hN1, -⟩ := hpp _ _ _ hpU
        replace eg := eg.symm
        subst eg
        refine ⟨AD.rf rfl, ?_⟩
        refine g_st (st' := [_]) rfl ?_
        have hk1 : (kpV - 1) - 1 ≤ 6 := by omega
        have hADu1 : AD (wB D a fG nb1 wV td vl L pt fl kd ((kpV - 1) - 1) (fqa pqV) (fqa psS) (tlW D pqV psS)) (wB D a f na w td vl L pt fl kd kp (fqa pq) (fqa ps) (tlW D pq ps)) := AD.trans (v := wB D a fT nb0 wV td vl L pt fl kd (kpV - 1) (fqa pqV) (fqa psS) (tlW D pqV psS)) (AD.rf rfl) hADu0
        refine g_if_ge X dL_back_125 130 (by decide) rfl (fun h125 => ?_) (fun h125 => absurd (nI_ge0 (by omega)) h125)
        have i125 := nj_le (a := 0) (b := ((kpV - 1) - 1)) (by omega) (by omega) h125
        refine g_iinc (v := nI ((0 + 1) + 1)) X [(6, _), (5, _), (4, _), (2, _), (0, _), (1, _)] dL_back_130 0 rfl (nI_add (0 + 1) 1) (by decide) rfl rfl ?_
        refine g_goto X dL_back_133 114 (by decide) ?_
        refine g_iload X dL_back_114 0 rfl rfl ?_
        refine g_iload X dL_back_116 1 rfl rfl ?_
        refine g_icmp_ge X dL_back_118 136 (by decide) rfl (fun h118 => absurd (nj_le (a := (((2 + 1) + 1) + 1)) (b := ((0 + 1) + 1)) (by omega) (by omega) h118) (by omega)) (fun h118 => ?_)
        have i118 := nj_nle (a := (((2 + 1) + 1) + 1)) (b := ((0 + 1) + 1)) (by omega) (by omega) h118
        refine g_aload_n X dL_back_121 rfl 4 rfl rfl ?_
        refine g_callVXs (n := 0) (As := []) (rest := []) X hAg rfl (c_X6_undo l D a fG nb1 wV td vl L pt fl kd ((kpV - 1) - 1) pqV psS hk1 hHL1.hq hHL1.fb) gL_back_X6_undo rfl (by decide +kernel) ⟨Nat.le_of_ble_eq_true rfl, Nat.le_of_ble_eq_true rfl⟩ 20 rfl rfl rfl rfl (Nat.le_of_ble_eq_true rfl) dL_back_122 ⟨Nat.le_of_ble_eq_true rfl, Nat.le_of_ble_eq_true rfl⟩ rfl (fun v w9 hv => ?_)
        obtain ⟨r9, rfl, hv⟩ := hv
        obtain ⟨hk1, hpp, hHL2⟩ := hHL1.pop
        rcases hv with ⟨hk0, -, -⟩ | ⟨-, rfl, bU, gU, nb2, hpU, rfl⟩
        · omega
        obtain ⟨eg, hN2, -⟩ := hpp _ _ _ hpU
        replace eg := eg.symm
        subst eg
        refine ⟨AD.rf rfl, ?_⟩
        refine g_st (st' := [_]) rfl ?_
        have hk2 : ((kpV - 1) - 1) - 1 ≤ 6 := by omega
        have hADu2 : AD (wB D a fQ nb2 wV td vl L pt fl kd (((kpV - 1) - 1) - 1) (fqa pqV) (fqa psS) (tlW D pqV psS)) (wB D a f na w td vl L pt fl kd kp (fqa pq) (fqa ps) (tlW D pq ps)) := AD.trans (v := wB D a fG nb1 wV td vl L pt fl kd ((kpV - 1) - 1) (fqa pqV) (fqa psS) (tlW D pqV psS)) (AD.rf rfl) hADu1
        refine g_if_ge X dL_back_125 130 (by decide) rfl (fun h125 => ?_) (fun h125 => absurd (nI_ge0 (by omega)) h125)
        have i125 := nj_le (a := 0) (b := (((kpV - 1) - 1) - 1)) (by omega) (by omega) h125
        refine g_iinc (v := nI (((0 + 1) + 1) + 1)) X [(6, _), (5, _), (4, _), (2, _), (0, _), (1, _)] dL_back_130 0 rfl (nI_add ((0 + 1) + 1) 1) (by decide) rfl rfl ?_
        refine g_goto X dL_back_133 114 (by decide) ?_
        refine g_iload X dL_back_114 0 rfl rfl ?_
        refine g_iload X dL_back_116 1 rfl rfl ?_
        refine g_icmp_ge X dL_back_118 136 (by decide) rfl (fun h118 => absurd (nj_le (a := (((2 + 1) + 1) + 1)) (b := (((0 + 1) + 1) + 1)) (by omega) (by omega) h118) (by omega)) (fun h118 => ?_)
        have i118 := nj_nle (a := (((2 + 1) + 1) + 1)) (b := (((0 + 1) + 1) + 1)) (by omega) (by omega) h118
        refine g_aload_n X dL_back_121 rfl 4 rfl rfl ?_
        refine g_callVXs (n := 0) (As := []) (rest := []) X hAg rfl (c_X6_undo l D a fQ nb2 wV td vl L pt fl kd (((kpV - 1) - 1) - 1) pqV psS hk2 hHL2.hq hHL2.fb) gL_back_X6_undo rfl (by decide +kernel) ⟨Nat.le_of_ble_eq_true rfl, Nat.le_of_ble_eq_true rfl⟩ 20 rfl rfl rfl rfl (Nat.le_of_ble_eq_true rfl) dL_back_122 ⟨Nat.le_of_ble_eq_true rfl, Nat.le_of_ble_eq_true rfl⟩ rfl (fun v w9 hv => ?_)
        obtain ⟨r9, rfl, hv⟩ := hv
        obtain ⟨hk1, hpp, hHL3⟩ := hHL2.pop
        rcases hv with ⟨hk0, -, -⟩ | ⟨-, rfl, bU, gU, nb3, hpU, rfl⟩
        · omega
        obtain ⟨eg, hN3, -⟩ := hpp _ _ _ hpU
        replace eg := eg.symm
        subst eg
        refine ⟨AD.rf rfl, ?_⟩
        refine g_st (st' := [_]) rfl ?_
        have hk3 : (((kpV - 1) - 1) - 1) - 1 ≤ 6 := by omega
        have hADu3 : AD (wB D a fP nb3 wV td vl L pt fl kd ((((kpV - 1) - 1) - 1) - 1) (fqa pqV) (fqa psS) (tlW D pqV psS)) (wB D a f na w td vl L pt fl kd kp (fqa pq) (fqa ps) (tlW D pq ps)) := AD.trans (v := wB D a fQ nb2 wV td vl L pt fl kd (((kpV - 1) - 1) - 1) (fqa pqV) (fqa psS) (tlW D pqV psS)) (AD.rf rfl) hADu2
        refine g_if_ge X dL_back_125 130 (by decide) rfl (fun h125 => ?_) (fun h125 => absurd (nI_ge0 (by omega)) h125)
        have i125 := nj_le (a := 0) (b := ((((kpV - 1) - 1) - 1) - 1)) (by omega) (by omega) h125
        refine g_iinc (v := nI ((((0 + 1) + 1) + 1) + 1)) X [(6, _), (5, _), (4, _), (2, _), (0, _), (1, _)] dL_back_130 0 rfl (nI_add (((0 + 1) + 1) + 1) 1) (by decide) rfl rfl ?_
        refine g_goto X dL_back_133 114 (by decide) ?_
        refine g_iload X dL_back_114 0 rfl rfl ?_
        refine g_iload X dL_back_116 1 rfl rfl ?_
        refine g_icmp_ge X dL_back_118 136 (by decide) rfl (fun h118 => absurd (nj_le (a := (((2 + 1) + 1) + 1)) (b := ((((0 + 1) + 1) + 1) + 1)) (by omega) (by omega) h118) (by omega)) (fun h118 => ?_)
        have i118 := nj_nle (a := (((2 + 1) + 1) + 1)) (b := ((((0 + 1) + 1) + 1) + 1)) (by omega) (by omega) h118
        refine g_aload_n X dL_back_121 rfl 4 rfl rfl ?_
        refine g_callVXs (n := 0) (As := []) (rest := []) X hAg rfl (c_X6_undo l D a fP nb3 wV td vl L pt fl kd ((((kpV - 1) - 1) - 1) - 1) pqV psS hk3 hHL3.hq hHL3.fb) gL_back_X6_undo rfl (by decide +kernel) ⟨Nat.le_of_ble_eq_true rfl, Nat.le_of_ble_eq_true rfl⟩ 20 rfl rfl rfl rfl (Nat.le_of_ble_eq_true rfl) dL_back_122 ⟨Nat.le_of_ble_eq_true rfl, Nat.le_of_ble_eq_true rfl⟩ rfl (fun v w9 hv => ?_)
        obtain ⟨r9, rfl, hv⟩ := hv
        obtain ⟨hk1, hpp, hHL4⟩ := hHL3.pop
        rcases hv with ⟨hk0, -, -⟩ | ⟨-, rfl, bU, gU, nb4, hpU, rfl⟩
        · omega
        obtain ⟨eg, hN4, -⟩ := hpp _ _ _ hpU
        replace eg := eg.symm
        subst eg
        refine ⟨AD.rf rfl, ?_⟩
        refine g_st (st' := [_]) rfl ?_
        have hk4 : ((((kpV - 1) - 1) - 1) - 1) - 1 ≤ 6 := by omega
        have hADu4 : AD (wB D a f nb4 wV td vl L pt fl kd (((((kpV - 1) - 1) - 1) - 1) - 1) (fqa pqV) (fqa psS) (tlW D pqV psS)) (wB D a f na w td vl L pt fl kd kp (fqa pq) (fqa ps) (tlW D pq ps)) := AD.trans (v := wB D a fP nb3 wV td vl L pt fl kd ((((kpV - 1) - 1) - 1) - 1) (fqa pqV) (fqa psS) (tlW D pqV psS)) (AD.rf rfl) hADu3
        refine g_if_ge X dL_back_125 130 (by decide) rfl (fun h125 => ?_) (fun h125 => absurd (nI_ge0 (by omega)) h125)
        have i125 := nj_le (a := 0) (b := (((((kpV - 1) - 1) - 1) - 1) - 1)) (by omega) (by omega) h125
        refine g_iinc (v := nI (((((0 + 1) + 1) + 1) + 1) + 1)) X [(6, _), (5, _), (4, _), (2, _), (0, _), (1, _)] dL_back_130 0 rfl (nI_add ((((0 + 1) + 1) + 1) + 1) 1) (by decide) rfl rfl ?_
        refine g_goto X dL_back_133 114 (by decide) ?_
        refine g_iload X dL_back_114 0 rfl rfl ?_
        refine g_iload X dL_back_116 1 rfl rfl ?_
        refine g_icmp_ge X dL_back_118 136 (by decide) rfl (fun h118 => ?_) (fun h118 => absurd (nj_nle (a := (((2 + 1) + 1) + 1)) (b := (((((0 + 1) + 1) + 1) + 1) + 1)) (by omega) (by omega) h118) (by omega))
        have i118 := nj_le (a := (((2 + 1) + 1) + 1)) (b := (((((0 + 1) + 1) + 1) + 1) + 1)) (by omega) (by omega) h118
        have hNRu := hN4.to hW
        refine g_aload_n X dL_back_136 rfl 4 rfl rfl ?_
        refine g_callSRX (w0 := []) (n := 1) (As := [_]) (rest := []) X (c_L_print l D a f nb4 wV td vl L pt fl kd (((((kpV - 1) - 1) - 1) - 1) - 1) (fqa pqV) (fqa psS) (tlW D pqV psS) mk n b hW hNRu) gL_back_L_print rfl (by decide +kernel) ⟨Nat.le_of_ble_eq_true rfl, Nat.le_of_ble_eq_true rfl⟩ rfl rfl rfl (Nat.le_of_ble_eq_true rfl) dL_back_137 ⟨Nat.le_of_ble_eq_true rfl, Nat.le_of_ble_eq_true rfl⟩ rfl (fun v hv => ?_)
        obtain rfl := hv
        refine g_st (st' := [_]) rfl ?_
        refine g_lload_n X dL_back_140 rfl 3 rfl rfl ?_
        refine g_lcmp X dL_back_141 rfl ?_
        refine g_if_eq X dL_back_142 147 (by decide) rfl (fun h142 => ?_) (fun h142 => absurd (lg_self _) h142)
        refine g_aload_n X dL_back_147 rfl 4 rfl rfl ?_
        refine g_iconst (v := (5 : Int32)) X dL_back_148 (by decide) rfl ?_
        refine g_bipush (v := (9 : Int32)) X dL_back_149 (by decide) rfl ?_
        refine g_iconst (v := (2 : Int32)) X dL_back_151 (by decide) rfl ?_
        refine g_callVXs (n := 3) (As := [_, _, _]) (rest := []) X hAg rfl (c_X6_come l D a f nb4 wV td vl L pt fl kd (((((kpV - 1) - 1) - 1) - 1) - 1) pqV psS mk n b hW hNRu hF hk4 hHL4.hq _ _ _) gL_back_X6_come rfl (by decide +kernel) ⟨Nat.le_of_ble_eq_true rfl, Nat.le_of_ble_eq_true rfl⟩ 20 rfl rfl rfl rfl (Nat.le_of_ble_eq_true rfl) dL_back_152 ⟨Nat.le_of_ble_eq_true rfl, Nat.le_of_ble_eq_true rfl⟩ rfl (fun v w9 hv => ?_)
        obtain ⟨rfl, fX, naX, wX, kpX, pqX, efX, hNX, hAX, hkpX, hHLX, ekX, rfl⟩ := ch_out hv hk4 hHL4 hF ⟨_, hNRu, hn8⟩
        have hADX := hAX.trans hADu4
        refine ⟨hAX, ?_⟩
        refine g_st (st' := [_]) rfl ?_
        obtain ⟨mkX, nX, bX, hWX⟩ : WFx fX := by rw [efX]; exact come_ok ⟨mk, n, b, hW⟩
        have hNRX := hNX.to hWX
        have hFX : FB fX := by rw [efX]; exact come_fb ⟨mk, n, b, hW⟩ hF
        obtain ⟨hmkX, hm40X, hn8X, hb0X, hb0X1, hb0X8, hn8Xb, hstX, hnoX, howX, hdoX, hb0Xa, hb0Xc, hb0Xd, hb0Xz⟩ := id hWX
        have hm8X : nX ≤ 8 := by omega
        obtain ⟨eN1X, eN2X, -⟩ := hWX.N
        refine g_pop X dL_back_155 rfl rfl ?_
        refine g_aload_n X dL_back_156 rfl 4 rfl rfl ?_
        refine g_iload_n X dL_back_157 rfl 5 rfl rfl ?_
        refine g_iconst (v := (2 : Int32)) X dL_back_158 (by decide) rfl ?_
        refine g_callSR (n := 2) (As := [_, _]) (rest := [_]) X (c_L_up l D (vv) 2 (by omega)) gL_back_L_up rfl (by decide +kernel) ⟨Nat.le_of_ble_eq_true rfl, Nat.le_of_ble_eq_true rfl⟩ [] rfl rfl rfl rfl (Nat.le_of_ble_eq_true rfl) dL_back_159 ⟨Nat.le_of_ble_eq_true rfl, Nat.le_of_ble_eq_true rfl⟩ rfl (fun v hv => ?_)
        obtain rfl := hv
        refine g_st (st' := [_, _]) rfl ?_
        refine g_upn (by omega) (fun u159 hu159 eu159 => ?_)
        refine g_callVXs (n := 1) (As := [_]) (rest := []) X hAg rfl (c_X6_restore l D a fX naX wX td vl L pt fl kd kpX pqX psS hFX hkpX hHLX.hq hFs _) gL_back_X6_restore rfl (by decide +kernel) ⟨Nat.le_of_ble_eq_true rfl, Nat.le_of_ble_eq_true rfl⟩ 20 rfl rfl rfl rfl (Nat.le_of_ble_eq_true rfl) dL_back_162 ⟨Nat.le_of_ble_eq_true rfl, Nat.le_of_ble_eq_true rfl⟩ rfl (fun v w9 hv => ?_)
        obtain ⟨hAY, hv⟩ := hv
        have eu : u159 = u15 := by omega
        subst eu
        rw [nI_clamp (by omega)] at hv
        rcases hv with ⟨hr2, -⟩ | ⟨-, hz, -⟩ | ⟨-, bR, gR, nbR, b0, hz, rfl, rfl⟩
        · exact absurd (rng_nI' hu159 (by omega)) (by rw [hr2]; exact Bool.false_ne_true)
        · rw [hp1] at hz; cases hz
        rw [hp1] at hz
        cases hz
        obtain ⟨kpY, pqY, ekY, epY, hkpY, hHLY⟩ := co_hist (b0 := b0) (x := f 76) (by rw [hmk]; exact nI_ge0 (by omega)) hHLX hkpX hFX ⟨nX, hNRX, hn8X⟩
        rw [ekY, epY] at hAY ⊢
        refine ⟨hAY, ?_⟩
        refine g_st (st' := [_]) rfl ?_
        refine g_topi (hmk) ?_
        have hADY := hAY.trans hADX
        refine g_iload X dL_back_165 2 rfl rfl ?_
        refine g_icmp_ne X dL_back_167 199 (by decide) rfl (fun h167 => absurd rfl h167) (fun h167 => ?_)
        refine g_aload_n X dL_back_170 rfl 4 rfl rfl ?_
        refine g_callSRX (w0 := []) (n := 1) (As := [_]) (rest := []) X (c_L_print l D a f na wX td vl L pt fl kd kpY (fqa pqY) (fqa psS) (tlW D pqY psS) mk n b hW hNR) gL_back_L_print rfl (by decide +kernel) ⟨Nat.le_of_ble_eq_true rfl, Nat.le_of_ble_eq_true rfl⟩ rfl rfl rfl (Nat.le_of_ble_eq_true rfl) dL_back_171 ⟨Nat.le_of_ble_eq_true rfl, Nat.le_of_ble_eq_true rfl⟩ rfl (fun v hv => ?_)
        obtain rfl := hv
        refine g_st (st' := [_]) rfl ?_
        refine g_lload_n X dL_back_174 rfl 3 rfl rfl ?_
        refine g_lcmp X dL_back_175 rfl ?_
        refine g_if_ne X dL_back_176 199 (by decide) rfl (fun h176 => absurd (lg_self _) h176) (fun h176 => ?_)
        refine g_aload_n X dL_back_179 rfl 4 rfl rfl ?_
        refine g_iconst (v := (1 : Int32)) X dL_back_180 (by decide) rfl ?_
        refine g_iload_n X dL_back_181 rfl 5 rfl rfl ?_
        refine g_iconst (v := (2 : Int32)) X dL_back_182 (by decide) rfl ?_
        refine g_callSR (n := 2) (As := [_, _]) (rest := [_, _]) X (c_L_up l D (vv) 2 (by omega)) gL_back_L_up rfl (by decide +kernel) ⟨Nat.le_of_ble_eq_true rfl, Nat.le_of_ble_eq_true rfl⟩ [] rfl rfl rfl rfl (Nat.le_of_ble_eq_true rfl) dL_back_183 ⟨Nat.le_of_ble_eq_true rfl, Nat.le_of_ble_eq_true rfl⟩ rfl (fun v hv => ?_)
        obtain rfl := hv
        refine g_st (st' := [_, _, _]) rfl ?_
        refine g_upn (by omega) (fun u183 hu183 eu183 => ?_)
        refine g_isub X dL_back_186 rfl ?_
        refine g_topi (y := nI (1 - u183)) (pk_sub (a := 1) (b := u183) (by omega)) ?_
        refine g_callVXs (n := 1) (As := [_]) (rest := []) X hAg rfl (c_X6_restore l D a f na wX td vl L pt fl kd kpY pqY psS hF hkpY hHLY.hq hFs _) gL_back_X6_restore rfl (by decide +kernel) ⟨Nat.le_of_ble_eq_true rfl, Nat.le_of_ble_eq_true rfl⟩ 20 rfl rfl rfl rfl (Nat.le_of_ble_eq_true rfl) dL_back_187 ⟨Nat.le_of_ble_eq_true rfl, Nat.le_of_ble_eq_true rfl⟩ rfl (fun v w9 hv => ?_)
        obtain ⟨-, hv⟩ := hv
        rw [nI_clamp (by omega)] at hv
        rcases hv with ⟨hr2, -⟩ | ⟨-, hz, rfl, rfl⟩ | ⟨-, bR, gR, nbR, b0R, hz, -⟩
        · exact absurd (rng_nI' (n := 2) (k := 1 - u183) (by omega) (by omega)) (by rw [hr2]; exact Bool.false_ne_true)
        rotate_left
        · rw [hp0 (1 - u183) (by omega) (by omega)] at hz; cases hz
        refine ⟨AD.rf rfl, ?_⟩
        refine g_st (st' := [_]) rfl ?_
        refine g_bipush (v := ((-5) : Int32)) X dL_back_190 (by decide) rfl ?_
        refine g_icmp_ne X dL_back_192 199 (by decide) rfl (fun h192 => absurd h192 (by decide)) (fun h192 => ?_)
        refine g_iconst (v := (1 : Int32)) X dL_back_195 (by decide) rfl ?_
        refine g_goto X dL_back_196 200 (by decide) ?_
        refine g_retW X hr (by first | rfl | exact b2i_nar _) dL_back_200 hAe ?_
        exact ⟨rfl, na, wX, td, vl, L, pt, fl, kd, kpY, pqY, psS, ⟨n, hNR, hn8⟩, hADY, rfl⟩

set_option maxHeartbeats 4000000 in
set_option maxRecDepth 100000 in
theorem c_L_refused (l : Launch) (D : DT) (a : Nat → Nat) (vv : Int32) : MW l yL_refused wsL_refused 8 179 400 8000 D [.ref (a 19), .int (vv)] (wB D a f0S na0S (fun _ => 0) (fun _ => 0) (fun _ => 0) 0 0 0 0 0 (fqa (fun _ => none)) (fqa (fun _ => none)) (tlW D (fun _ => none) (fun _ => none))) (fun v w9 => v = some (.int 1) ∧ ∃ (na' : Nat → Nat → Int32) (w' td' vl' : Nat → Int32) (pt' fl' : Nat) (kd' : Int32) (pq' : Nat → Option HH), AD w9 (wB D a f0S na0S (fun _ => 0) (fun _ => 0) (fun _ => 0) 0 0 0 0 0 (fqa (fun _ => none)) (fqa (fun _ => none)) (tlW D (fun _ => none) (fun _ => none))) ∧ w9 = wC D a f0S na' w' td' vl' 0 pt' fl' kd' 0 pq' (fun _ => none)) := by
  have h0AD : AD (wB D a f0S na0S (fun _ => 0) (fun _ => 0) (fun _ => 0) 0 0 0 0 0 (fqa (fun _ => none)) (fqa (fun _ => none)) (tlW D (fun _ => none) (fun _ => none))) (wB D a f0S na0S (fun _ => 0) (fun _ => 0) (fun _ => 0) 0 0 0 0 0 (fqa (fun _ => none)) (fqa (fun _ => none)) (tlW D (fun _ => none) (fun _ => none))) := AD.rf rfl
  refine MW.of (cc := cL_refused) (maxL := 3) (ret := (some .boolean)) (lv := [(0, .ref (a 19)), (1, .int (vv))]) (by decide +kernel) rfl (Nat.le_of_ble_eq_true rfl) rfl ?_
  intro p e s m below meth c A hAe hAg X hr hmn
  refine g_iload_n X dL_refused_0 rfl 1 rfl rfl ?_
  refine g_iconst (v := (2 : Int32)) X dL_refused_1 (by decide) rfl ?_
  refine g_callSR (n := 2) (As := [_, _]) (rest := []) X (c_L_up l D (vv) 2 (by omega)) gL_refused_L_up rfl (by decide +kernel) ⟨Nat.le_of_ble_eq_true rfl, Nat.le_of_ble_eq_true rfl⟩ [] rfl rfl rfl rfl (Nat.le_of_ble_eq_true rfl) dL_refused_2 ⟨Nat.le_of_ble_eq_true rfl, Nat.le_of_ble_eq_true rfl⟩ rfl (fun v hv => ?_)
  obtain rfl := hv
  refine g_st (st' := [_]) rfl ?_
  refine g_upn (by omega) (fun u2 hu2 eu2 => ?_)
  have L33 : ∀ (wq : Int32) (hB : BAD wq), GG p l e (wRoom 8 179 400 8000) s m ([.ref (a 19), .int (vv)] : List Value).toArray below meth c D A 3 false 0 0 (MQ below (wrQ D (wB D a f0S na0S (fun _ => 0) (fun _ => 0) (fun _ => 0) 0 0 0 0 0 (fqa (fun _ => none)) (fqa (fun _ => none)) (tlW D (fun _ => none) (fun _ => none))) s.heap.size (fun v w9 => v = some (.int 1) ∧ ∃ (na' : Nat → Nat → Int32) (w' td' vl' : Nat → Int32) (pt' fl' : Nat) (kd' : Int32) (pq' : Nat → Option HH), AD w9 (wB D a f0S na0S (fun _ => 0) (fun _ => 0) (fun _ => 0) 0 0 0 0 0 (fqa (fun _ => none)) (fqa (fun _ => none)) (tlW D (fun _ => none) (fun _ => none))) ∧ w9 = wC D a f0S na' w' td' vl' 0 pt' fl' kd' 0 pq' (fun _ => none))) ([.ref (a 19), .int (vv)] : List Value).toArray s 400 8000 (va_A (wB D a f0S na0S (fun _ => 0) (fun _ => 0) (fun _ => 0) 0 0 0 0 0 (fqa (fun _ => none)) (fqa (fun _ => none)) (tlW D (fun _ => none) (fun _ => none))) s.heap.size)) (wB D a f0S na0S (fun _ => 0) (fun _ => 0) (fun _ => 0) 0 0 0 0 0 (fqa (fun _ => none)) (fqa (fun _ => none)) (tlW D (fun _ => none) (fun _ => none))) 33 [(0, .ref (a 19)), (1, .int (vv))] [.int (wq)] := by
    intro wq hB
    refine g_istore_n X [(2, _), (0, _), (1, _)] dL_refused_33 rfl (by decide) rfl rfl ?_
    refine g_aload_n X dL_refused_34 rfl 1 rfl rfl ?_
    refine g_iload_n X dL_refused_35 rfl 0 rfl rfl ?_
    refine g_iconst (v := (1 : Int32)) X dL_refused_36 (by decide) rfl ?_
    refine g_callVXs (n := 2) (As := [_, _]) (rest := []) X hAg rfl (c_X6_set l D a f0S na0S (fun _ => 0) (fun _ => 0) (fun _ => 0) 0 0 0 0 0 (fun _ => none) (fun _ => none) 0 0 4 f0_WF (NR_0 _ _) f0_FB (Nat.zero_le _) HQ_0 _ _) gL_refused_X6_set rfl (by decide +kernel) ⟨Nat.le_of_ble_eq_true rfl, Nat.le_of_ble_eq_true rfl⟩ 20 rfl rfl rfl rfl (Nat.le_of_ble_eq_true rfl) dL_refused_37 ⟨Nat.le_of_ble_eq_true rfl, Nat.le_of_ble_eq_true rfl⟩ rfl (fun v w9 hv => ?_)
    have hE : setS f0S wq (1 : Int32) = (-2, f0S) := bd_set1 hB
    rw [hE] at hv
    obtain ⟨rfl, na37, w37, pq37, hA37, rfl⟩ := ch_ref hv (by decide)
    have hD37 := hA37.trans h0AD
    refine ⟨hA37, ?_⟩
    refine g_st (st' := [_]) rfl ?_
    refine g_bipush (v := ((-2) : Int32)) X dL_refused_40 (by decide) rfl ?_
    refine g_icmp_ne X dL_refused_42 456 (by decide) rfl (fun h42 => absurd h42 (by decide)) (fun h42 => ?_)
    refine g_aload_n X dL_refused_45 rfl 1 rfl rfl ?_
    refine g_iconst (v := (0 : Int32)) X dL_refused_46 (by decide) rfl ?_
    refine g_iload_n X dL_refused_47 rfl 0 rfl rfl ?_
    refine g_callVXs (n := 2) (As := [_, _]) (rest := []) X hAg rfl (c_X6_set l D a f0S na37 w37 (fun _ => 0) (fun _ => 0) 0 0 0 0 0 pq37 (fun _ => none) 0 0 4 f0_WF (NR_0 _ _) f0_FB (Nat.zero_le _) HQ_0 _ _) gL_refused_X6_set rfl (by decide +kernel) ⟨Nat.le_of_ble_eq_true rfl, Nat.le_of_ble_eq_true rfl⟩ 20 rfl rfl rfl rfl (Nat.le_of_ble_eq_true rfl) dL_refused_48 ⟨Nat.le_of_ble_eq_true rfl, Nat.le_of_ble_eq_true rfl⟩ rfl (fun v w9 hv => ?_)
    have hE : setS f0S (0 : Int32) wq = (-2, f0S) := bd_set2 hB
    rw [hE] at hv
    obtain ⟨rfl, na48, w48, pq48, hA48, rfl⟩ := ch_ref hv (by decide)
    have hD48 := hA48.trans hD37
    refine ⟨hA48, ?_⟩
    refine g_st (st' := [_]) rfl ?_
    refine g_bipush (v := ((-2) : Int32)) X dL_refused_51 (by decide) rfl ?_
    refine g_icmp_ne X dL_refused_53 456 (by decide) rfl (fun h53 => absurd h53 (by decide)) (fun h53 => ?_)
    refine g_aload_n X dL_refused_56 rfl 1 rfl rfl ?_
    refine g_iload_n X dL_refused_57 rfl 0 rfl rfl ?_
    refine g_iconst (v := (0 : Int32)) X dL_refused_58 (by decide) rfl ?_
    refine g_callVXs (n := 2) (As := [_, _]) (rest := []) X hAg rfl (c_X6_own l D a f0S na48 w48 (fun _ => 0) (fun _ => 0) 0 0 0 0 0 pq48 (fun _ => none) 0 0 4 f0_WF (NR_0 _ _) f0_FB (Nat.zero_le _) HQ_0 _ _) gL_refused_X6_own rfl (by decide +kernel) ⟨Nat.le_of_ble_eq_true rfl, Nat.le_of_ble_eq_true rfl⟩ 20 rfl rfl rfl rfl (Nat.le_of_ble_eq_true rfl) dL_refused_59 ⟨Nat.le_of_ble_eq_true rfl, Nat.le_of_ble_eq_true rfl⟩ rfl (fun v w9 hv => ?_)
    have hE : ownS f0S wq (0 : Int32) = (-1, f0S) := bd_own1 hB
    rw [hE] at hv
    obtain ⟨rfl, na59, w59, pq59, hA59, rfl⟩ := ch_ref hv (by decide)
    have hD59 := hA59.trans hD48
    refine ⟨hA59, ?_⟩
    refine g_st (st' := [_]) rfl ?_
    refine g_iconst (v := ((-1) : Int32)) X dL_refused_62 (by decide) rfl ?_
    refine g_icmp_ne X dL_refused_63 456 (by decide) rfl (fun h63 => absurd h63 (by decide)) (fun h63 => ?_)
    refine g_aload_n X dL_refused_66 rfl 1 rfl rfl ?_
    refine g_iconst (v := (0 : Int32)) X dL_refused_67 (by decide) rfl ?_
    refine g_iload_n X dL_refused_68 rfl 0 rfl rfl ?_
    refine g_callVXs (n := 2) (As := [_, _]) (rest := []) X hAg rfl (c_X6_own l D a f0S na59 w59 (fun _ => 0) (fun _ => 0) 0 0 0 0 0 pq59 (fun _ => none) 0 0 4 f0_WF (NR_0 _ _) f0_FB (Nat.zero_le _) HQ_0 _ _) gL_refused_X6_own rfl (by decide +kernel) ⟨Nat.le_of_ble_eq_true rfl, Nat.le_of_ble_eq_true rfl⟩ 20 rfl rfl rfl rfl (Nat.le_of_ble_eq_true rfl) dL_refused_69 ⟨Nat.le_of_ble_eq_true rfl, Nat.le_of_ble_eq_true rfl⟩ rfl (fun v w9 hv => ?_)
    have hE : ownS f0S (0 : Int32) wq = (-1, f0S) := bd_own2 hB
    rw [hE] at hv
    obtain ⟨rfl, na69, w69, pq69, hA69, rfl⟩ := ch_ref hv (by decide)
    have hD69 := hA69.trans hD59
    refine ⟨hA69, ?_⟩
    refine g_st (st' := [_]) rfl ?_
    refine g_iconst (v := ((-1) : Int32)) X dL_refused_72 (by decide) rfl ?_
    refine g_icmp_ne X dL_refused_73 456 (by decide) rfl (fun h73 => absurd h73 (by decide)) (fun h73 => ?_)
    refine g_aload_n X dL_refused_76 rfl 1 rfl rfl ?_
    refine g_iload_n X dL_refused_77 rfl 0 rfl rfl ?_
    refine g_iconst (v := (0 : Int32)) X dL_refused_78 (by decide) rfl ?_
    refine g_iconst (v := (0 : Int32)) X dL_refused_79 (by decide) rfl ?_
    refine g_iconst (v := (1 : Int32)) X dL_refused_80 (by decide) rfl ?_
    refine g_callVXs (n := 4) (As := [_, _, _, _]) (rest := []) X hAg rfl (c_X6_stamp l D a f0S na69 w69 (fun _ => 0) (fun _ => 0) 0 0 0 0 0 pq69 (fun _ => none) 0 0 4 f0_WF (NR_0 _ _) f0_FB (Nat.zero_le _) HQ_0 _ _ _ _) gL_refused_X6_stamp rfl (by decide +kernel) ⟨Nat.le_of_ble_eq_true rfl, Nat.le_of_ble_eq_true rfl⟩ 20 rfl rfl rfl rfl (Nat.le_of_ble_eq_true rfl) dL_refused_81 ⟨Nat.le_of_ble_eq_true rfl, Nat.le_of_ble_eq_true rfl⟩ rfl (fun v w9 hv => ?_)
    have hE : stampS f0S wq (0 : Int32) (0 : Int32) (1 : Int32) = (-1, f0S) := bd_st1 hB
    rw [hE] at hv
    obtain ⟨rfl, na81, w81, pq81, hA81, rfl⟩ := ch_ref hv (by decide)
    have hD81 := hA81.trans hD69
    refine ⟨hA81, ?_⟩
    refine g_st (st' := [_]) rfl ?_
    refine g_iconst (v := ((-1) : Int32)) X dL_refused_84 (by decide) rfl ?_
    refine g_icmp_ne X dL_refused_85 456 (by decide) rfl (fun h85 => absurd h85 (by decide)) (fun h85 => ?_)
    refine g_aload_n X dL_refused_88 rfl 1 rfl rfl ?_
    refine g_iconst (v := (0 : Int32)) X dL_refused_89 (by decide) rfl ?_
    refine g_iconst (v := (0 : Int32)) X dL_refused_90 (by decide) rfl ?_
    refine g_iload_n X dL_refused_91 rfl 0 rfl rfl ?_
    refine g_iconst (v := (1 : Int32)) X dL_refused_92 (by decide) rfl ?_
    refine g_callVXs (n := 4) (As := [_, _, _, _]) (rest := []) X hAg rfl (c_X6_stamp l D a f0S na81 w81 (fun _ => 0) (fun _ => 0) 0 0 0 0 0 pq81 (fun _ => none) 0 0 4 f0_WF (NR_0 _ _) f0_FB (Nat.zero_le _) HQ_0 _ _ _ _) gL_refused_X6_stamp rfl (by decide +kernel) ⟨Nat.le_of_ble_eq_true rfl, Nat.le_of_ble_eq_true rfl⟩ 20 rfl rfl rfl rfl (Nat.le_of_ble_eq_true rfl) dL_refused_93 ⟨Nat.le_of_ble_eq_true rfl, Nat.le_of_ble_eq_true rfl⟩ rfl (fun v w9 hv => ?_)
    have hE : stampS f0S (0 : Int32) (0 : Int32) wq (1 : Int32) = (-1, f0S) := bd_st2 hB
    rw [hE] at hv
    obtain ⟨rfl, na93, w93, pq93, hA93, rfl⟩ := ch_ref hv (by decide)
    have hD93 := hA93.trans hD81
    refine ⟨hA93, ?_⟩
    refine g_st (st' := [_]) rfl ?_
    refine g_iconst (v := ((-1) : Int32)) X dL_refused_96 (by decide) rfl ?_
    refine g_icmp_ne X dL_refused_97 456 (by decide) rfl (fun h97 => absurd h97 (by decide)) (fun h97 => ?_)
    refine g_aload_n X dL_refused_100 rfl 1 rfl rfl ?_
    refine g_iconst (v := (0 : Int32)) X dL_refused_101 (by decide) rfl ?_
    refine g_iconst (v := (0 : Int32)) X dL_refused_102 (by decide) rfl ?_
    refine g_iconst (v := (0 : Int32)) X dL_refused_103 (by decide) rfl ?_
    refine g_iload_n X dL_refused_104 rfl 0 rfl rfl ?_
    refine g_callVXs (n := 4) (As := [_, _, _, _]) (rest := []) X hAg rfl (c_X6_stamp l D a f0S na93 w93 (fun _ => 0) (fun _ => 0) 0 0 0 0 0 pq93 (fun _ => none) 0 0 4 f0_WF (NR_0 _ _) f0_FB (Nat.zero_le _) HQ_0 _ _ _ _) gL_refused_X6_stamp rfl (by decide +kernel) ⟨Nat.le_of_ble_eq_true rfl, Nat.le_of_ble_eq_true rfl⟩ 20 rfl rfl rfl rfl (Nat.le_of_ble_eq_true rfl) dL_refused_105 ⟨Nat.le_of_ble_eq_true rfl, Nat.le_of_ble_eq_true rfl⟩ rfl (fun v w9 hv => ?_)
    have hE : stampS f0S (0 : Int32) (0 : Int32) (0 : Int32) wq = (-2, f0S) := bd_st3 hB
    rw [hE] at hv
    obtain ⟨rfl, na105, w105, pq105, hA105, rfl⟩ := ch_ref hv (by decide)
    have hD105 := hA105.trans hD93
    refine ⟨hA105, ?_⟩
    refine g_st (st' := [_]) rfl ?_
    refine g_bipush (v := ((-2) : Int32)) X dL_refused_108 (by decide) rfl ?_
    refine g_icmp_ne X dL_refused_110 456 (by decide) rfl (fun h110 => absurd h110 (by decide)) (fun h110 => ?_)
    refine g_aload_n X dL_refused_113 rfl 1 rfl rfl ?_
    refine g_iconst (v := (0 : Int32)) X dL_refused_114 (by decide) rfl ?_
    refine g_iconst (v := (0 : Int32)) X dL_refused_115 (by decide) rfl ?_
    refine g_iconst (v := (0 : Int32)) X dL_refused_116 (by decide) rfl ?_
    refine g_iconst (v := (1 : Int32)) X dL_refused_117 (by decide) rfl ?_
    refine g_callVXs (n := 4) (As := [_, _, _, _]) (rest := []) X hAg rfl (c_X6_stamp l D a f0S na105 w105 (fun _ => 0) (fun _ => 0) 0 0 0 0 0 pq105 (fun _ => none) 0 0 4 f0_WF (NR_0 _ _) f0_FB (Nat.zero_le _) HQ_0 _ _ _ _) gL_refused_X6_stamp rfl (by decide +kernel) ⟨Nat.le_of_ble_eq_true rfl, Nat.le_of_ble_eq_true rfl⟩ 20 rfl rfl rfl rfl (Nat.le_of_ble_eq_true rfl) dL_refused_118 ⟨Nat.le_of_ble_eq_true rfl, Nat.le_of_ble_eq_true rfl⟩ rfl (fun v w9 hv => ?_)
    have hE : stampS f0S (0 : Int32) (0 : Int32) (0 : Int32) (1 : Int32) = (-5, f0S) := bd_st4
    rw [hE] at hv
    obtain ⟨rfl, na118, w118, pq118, hA118, rfl⟩ := ch_ref hv (by decide)
    have hD118 := hA118.trans hD105
    refine ⟨hA118, ?_⟩
    refine g_st (st' := [_]) rfl ?_
    refine g_bipush (v := ((-5) : Int32)) X dL_refused_121 (by decide) rfl ?_
    refine g_icmp_ne X dL_refused_123 456 (by decide) rfl (fun h123 => absurd h123 (by decide)) (fun h123 => ?_)
    refine g_aload_n X dL_refused_126 rfl 1 rfl rfl ?_
    refine g_iload_n X dL_refused_127 rfl 0 rfl rfl ?_
    refine g_iconst (v := (0 : Int32)) X dL_refused_128 (by decide) rfl ?_
    refine g_iconst (v := (1 : Int32)) X dL_refused_129 (by decide) rfl ?_
    refine g_callVXs (n := 3) (As := [_, _, _]) (rest := []) X hAg rfl (c_X6_pass l D a f0S na118 w118 (fun _ => 0) (fun _ => 0) 0 0 0 0 0 pq118 (fun _ => none) 0 0 4 f0_WF (NR_0 _ _) f0_FB (Nat.zero_le _) HQ_0 _ _ _) gL_refused_X6_pass rfl (by decide +kernel) ⟨Nat.le_of_ble_eq_true rfl, Nat.le_of_ble_eq_true rfl⟩ 20 rfl rfl rfl rfl (Nat.le_of_ble_eq_true rfl) dL_refused_130 ⟨Nat.le_of_ble_eq_true rfl, Nat.le_of_ble_eq_true rfl⟩ rfl (fun v w9 hv => ?_)
    have hE : passS f0S wq (0 : Int32) (1 : Int32) = (-1, f0S) := bd_pass hB
    rw [hE] at hv
    obtain ⟨rfl, na130, w130, pq130, hA130, rfl⟩ := ch_ref hv (by decide)
    have hD130 := hA130.trans hD118
    refine ⟨hA130, ?_⟩
    refine g_st (st' := [_]) rfl ?_
    refine g_iconst (v := ((-1) : Int32)) X dL_refused_133 (by decide) rfl ?_
    refine g_icmp_ne X dL_refused_134 456 (by decide) rfl (fun h134 => absurd h134 (by decide)) (fun h134 => ?_)
    refine g_aload_n X dL_refused_137 rfl 1 rfl rfl ?_
    refine g_iload_n X dL_refused_138 rfl 0 rfl rfl ?_
    refine g_iconst (v := (0 : Int32)) X dL_refused_139 (by decide) rfl ?_
    refine g_iconst (v := (0 : Int32)) X dL_refused_140 (by decide) rfl ?_
    refine g_iconst (v := (1 : Int32)) X dL_refused_141 (by decide) rfl ?_
    refine g_bipush (v := ((-6) : Int32)) X dL_refused_142 (by decide) rfl ?_
    refine g_callVXs (n := 5) (As := [_, _, _, _, _]) (rest := []) X hAg rfl (c_X6_forge l D a f0S na130 w130 (fun _ => 0) (fun _ => 0) 0 0 0 0 0 pq130 (fun _ => none) 0 0 4 f0_WF (NR_0 _ _) f0_FB (Nat.zero_le _) HQ_0 _ _ _ _ _) gL_refused_X6_forge rfl (by decide +kernel) ⟨Nat.le_of_ble_eq_true rfl, Nat.le_of_ble_eq_true rfl⟩ 20 rfl rfl rfl rfl (Nat.le_of_ble_eq_true rfl) dL_refused_144 ⟨Nat.le_of_ble_eq_true rfl, Nat.le_of_ble_eq_true rfl⟩ rfl (fun v w9 hv => ?_)
    have hE : forgeS f0S wq (0 : Int32) (0 : Int32) (1 : Int32) (-6 : Int32) = (-1, f0S) := bd_fo1 hB
    rw [hE] at hv
    obtain ⟨rfl, na144, w144, pq144, hA144, rfl⟩ := ch_ref hv (by decide)
    have hD144 := hA144.trans hD130
    refine ⟨hA144, ?_⟩
    refine g_st (st' := [_]) rfl ?_
    refine g_iconst (v := ((-1) : Int32)) X dL_refused_147 (by decide) rfl ?_
    refine g_icmp_ne X dL_refused_148 456 (by decide) rfl (fun h148 => absurd h148 (by decide)) (fun h148 => ?_)
    refine g_aload_n X dL_refused_151 rfl 1 rfl rfl ?_
    refine g_iconst (v := (0 : Int32)) X dL_refused_152 (by decide) rfl ?_
    refine g_iconst (v := (0 : Int32)) X dL_refused_153 (by decide) rfl ?_
    refine g_iconst (v := (0 : Int32)) X dL_refused_154 (by decide) rfl ?_
    refine g_iload_n X dL_refused_155 rfl 0 rfl rfl ?_
    refine g_bipush (v := ((-6) : Int32)) X dL_refused_156 (by decide) rfl ?_
    refine g_callVXs (n := 5) (As := [_, _, _, _, _]) (rest := []) X hAg rfl (c_X6_forge l D a f0S na144 w144 (fun _ => 0) (fun _ => 0) 0 0 0 0 0 pq144 (fun _ => none) 0 0 4 f0_WF (NR_0 _ _) f0_FB (Nat.zero_le _) HQ_0 _ _ _ _ _) gL_refused_X6_forge rfl (by decide +kernel) ⟨Nat.le_of_ble_eq_true rfl, Nat.le_of_ble_eq_true rfl⟩ 20 rfl rfl rfl rfl (Nat.le_of_ble_eq_true rfl) dL_refused_158 ⟨Nat.le_of_ble_eq_true rfl, Nat.le_of_ble_eq_true rfl⟩ rfl (fun v w9 hv => ?_)
    have hE : forgeS f0S (0 : Int32) (0 : Int32) (0 : Int32) wq (-6 : Int32) = (-2, f0S) := bd_fo2 hB
    rw [hE] at hv
    obtain ⟨rfl, na158, w158, pq158, hA158, rfl⟩ := ch_ref hv (by decide)
    have hD158 := hA158.trans hD144
    refine ⟨hA158, ?_⟩
    refine g_st (st' := [_]) rfl ?_
    refine g_bipush (v := ((-2) : Int32)) X dL_refused_161 (by decide) rfl ?_
    refine g_icmp_ne X dL_refused_163 456 (by decide) rfl (fun h163 => absurd h163 (by decide)) (fun h163 => ?_)
    refine g_aload_n X dL_refused_166 rfl 1 rfl rfl ?_
    refine g_iconst (v := (0 : Int32)) X dL_refused_167 (by decide) rfl ?_
    refine g_iconst (v := (0 : Int32)) X dL_refused_168 (by decide) rfl ?_
    refine g_iconst (v := (0 : Int32)) X dL_refused_169 (by decide) rfl ?_
    refine g_iconst (v := (1 : Int32)) X dL_refused_170 (by decide) rfl ?_
    refine g_iload_n X dL_refused_171 rfl 0 rfl rfl ?_
    refine g_callVXs (n := 5) (As := [_, _, _, _, _]) (rest := []) X hAg rfl (c_X6_forge l D a f0S na158 w158 (fun _ => 0) (fun _ => 0) 0 0 0 0 0 pq158 (fun _ => none) 0 0 4 f0_WF (NR_0 _ _) f0_FB (Nat.zero_le _) HQ_0 _ _ _ _ _) gL_refused_X6_forge rfl (by decide +kernel) ⟨Nat.le_of_ble_eq_true rfl, Nat.le_of_ble_eq_true rfl⟩ 20 rfl rfl rfl rfl (Nat.le_of_ble_eq_true rfl) dL_refused_172 ⟨Nat.le_of_ble_eq_true rfl, Nat.le_of_ble_eq_true rfl⟩ rfl (fun v w9 hv => ?_)
    have hE : forgeS f0S (0 : Int32) (0 : Int32) (0 : Int32) (1 : Int32) wq = (-1, f0S) := bd_fo3 hB
    rw [hE] at hv
    obtain ⟨rfl, na172, w172, pq172, hA172, rfl⟩ := ch_ref hv (by decide)
    have hD172 := hA172.trans hD158
    refine ⟨hA172, ?_⟩
    refine g_st (st' := [_]) rfl ?_
    refine g_iconst (v := ((-1) : Int32)) X dL_refused_175 (by decide) rfl ?_
    refine g_icmp_ne X dL_refused_176 456 (by decide) rfl (fun h176 => absurd h176 (by decide)) (fun h176 => ?_)
    refine g_aload_n X dL_refused_179 rfl 1 rfl rfl ?_
    refine g_iload_n X dL_refused_180 rfl 0 rfl rfl ?_
    refine g_callVXs (n := 1) (As := [_]) (rest := []) X hAg rfl (c_X6_takeBack l D a f0S na172 w172 (fun _ => 0) (fun _ => 0) 0 0 0 0 0 pq172 (fun _ => none) 0 0 4 f0_WF (NR_0 _ _) f0_FB (Nat.zero_le _) HQ_0 _) gL_refused_X6_takeBack rfl (by decide +kernel) ⟨Nat.le_of_ble_eq_true rfl, Nat.le_of_ble_eq_true rfl⟩ 20 rfl rfl rfl rfl (Nat.le_of_ble_eq_true rfl) dL_refused_181 ⟨Nat.le_of_ble_eq_true rfl, Nat.le_of_ble_eq_true rfl⟩ rfl (fun v w9 hv => ?_)
    have hE : takeS f0S wq = (-1, f0S) := bd_take hB
    rw [hE] at hv
    obtain ⟨rfl, na181, w181, pq181, hA181, rfl⟩ := ch_ref hv (by decide)
    have hD181 := hA181.trans hD172
    refine ⟨hA181, ?_⟩
    refine g_st (st' := [_]) rfl ?_
    refine g_iconst (v := ((-1) : Int32)) X dL_refused_184 (by decide) rfl ?_
    refine g_icmp_ne X dL_refused_185 456 (by decide) rfl (fun h185 => absurd h185 (by decide)) (fun h185 => ?_)
    refine g_aload_n X dL_refused_188 rfl 1 rfl rfl ?_
    refine g_iload_n X dL_refused_189 rfl 0 rfl rfl ?_
    refine g_iconst (v := (0 : Int32)) X dL_refused_190 (by decide) rfl ?_
    refine g_bipush (v := ((-6) : Int32)) X dL_refused_191 (by decide) rfl ?_
    refine g_callVXs (n := 3) (As := [_, _, _]) (rest := []) X hAg rfl (c_X6_door l D a f0S na181 w181 (fun _ => 0) (fun _ => 0) 0 0 0 0 0 pq181 (fun _ => none) 0 0 4 f0_WF (NR_0 _ _) f0_FB (Nat.zero_le _) HQ_0 _ _ _) gL_refused_X6_door rfl (by decide +kernel) ⟨Nat.le_of_ble_eq_true rfl, Nat.le_of_ble_eq_true rfl⟩ 20 rfl rfl rfl rfl (Nat.le_of_ble_eq_true rfl) dL_refused_193 ⟨Nat.le_of_ble_eq_true rfl, Nat.le_of_ble_eq_true rfl⟩ rfl (fun v w9 hv => ?_)
    have hE : doorS f0S wq (0 : Int32) (-6 : Int32) = (-1, f0S) := bd_do1 hB
    rw [hE] at hv
    obtain ⟨rfl, na193, w193, pq193, hA193, rfl⟩ := ch_ref hv (by decide)
    have hD193 := hA193.trans hD181
    refine ⟨hA193, ?_⟩
    refine g_st (st' := [_]) rfl ?_
    refine g_iconst (v := ((-1) : Int32)) X dL_refused_196 (by decide) rfl ?_
    refine g_icmp_ne X dL_refused_197 456 (by decide) rfl (fun h197 => absurd h197 (by decide)) (fun h197 => ?_)
    refine g_aload_n X dL_refused_200 rfl 1 rfl rfl ?_
    refine g_iconst (v := (0 : Int32)) X dL_refused_201 (by decide) rfl ?_
    refine g_iload_n X dL_refused_202 rfl 0 rfl rfl ?_
    refine g_bipush (v := ((-6) : Int32)) X dL_refused_203 (by decide) rfl ?_
    refine g_callVXs (n := 3) (As := [_, _, _]) (rest := []) X hAg rfl (c_X6_door l D a f0S na193 w193 (fun _ => 0) (fun _ => 0) 0 0 0 0 0 pq193 (fun _ => none) 0 0 4 f0_WF (NR_0 _ _) f0_FB (Nat.zero_le _) HQ_0 _ _ _) gL_refused_X6_door rfl (by decide +kernel) ⟨Nat.le_of_ble_eq_true rfl, Nat.le_of_ble_eq_true rfl⟩ 20 rfl rfl rfl rfl (Nat.le_of_ble_eq_true rfl) dL_refused_205 ⟨Nat.le_of_ble_eq_true rfl, Nat.le_of_ble_eq_true rfl⟩ rfl (fun v w9 hv => ?_)
    have hE : doorS f0S (0 : Int32) wq (-6 : Int32) = (-1, f0S) := bd_do2 hB
    rw [hE] at hv
    obtain ⟨rfl, na205, w205, pq205, hA205, rfl⟩ := ch_ref hv (by decide)
    have hD205 := hA205.trans hD193
    refine ⟨hA205, ?_⟩
    refine g_st (st' := [_]) rfl ?_
    refine g_iconst (v := ((-1) : Int32)) X dL_refused_208 (by decide) rfl ?_
    refine g_icmp_ne X dL_refused_209 456 (by decide) rfl (fun h209 => absurd h209 (by decide)) (fun h209 => ?_)
    refine g_aload_n X dL_refused_212 rfl 1 rfl rfl ?_
    refine g_iconst (v := (0 : Int32)) X dL_refused_213 (by decide) rfl ?_
    refine g_iconst (v := (0 : Int32)) X dL_refused_214 (by decide) rfl ?_
    refine g_iload_n X dL_refused_215 rfl 0 rfl rfl ?_
    refine g_callVXs (n := 3) (As := [_, _, _]) (rest := []) X hAg rfl (c_X6_door l D a f0S na205 w205 (fun _ => 0) (fun _ => 0) 0 0 0 0 0 pq205 (fun _ => none) 0 0 4 f0_WF (NR_0 _ _) f0_FB (Nat.zero_le _) HQ_0 _ _ _) gL_refused_X6_door rfl (by decide +kernel) ⟨Nat.le_of_ble_eq_true rfl, Nat.le_of_ble_eq_true rfl⟩ 20 rfl rfl rfl rfl (Nat.le_of_ble_eq_true rfl) dL_refused_216 ⟨Nat.le_of_ble_eq_true rfl, Nat.le_of_ble_eq_true rfl⟩ rfl (fun v w9 hv => ?_)
    have hE : doorS f0S (0 : Int32) (0 : Int32) wq = (-1, f0S) := bd_do3 hB
    rw [hE] at hv
    obtain ⟨rfl, na216, w216, pq216, hA216, rfl⟩ := ch_ref hv (by decide)
    have hD216 := hA216.trans hD205
    refine ⟨hA216, ?_⟩
    refine g_st (st' := [_]) rfl ?_
    refine g_iconst (v := ((-1) : Int32)) X dL_refused_219 (by decide) rfl ?_
    refine g_icmp_ne X dL_refused_220 456 (by decide) rfl (fun h220 => absurd h220 (by decide)) (fun h220 => ?_)
    refine g_aload_n X dL_refused_223 rfl 1 rfl rfl ?_
    refine g_iload_n X dL_refused_224 rfl 0 rfl rfl ?_
    refine g_iconst (v := (0 : Int32)) X dL_refused_225 (by decide) rfl ?_
    refine g_iconst (v := (1 : Int32)) X dL_refused_226 (by decide) rfl ?_
    refine g_callVXs (n := 3) (As := [_, _, _]) (rest := []) X hAg rfl (c_X6_come l D a f0S na216 w216 (fun _ => 0) (fun _ => 0) 0 0 0 0 0 pq216 (fun _ => none) 0 0 4 f0_WF (NR_0 _ _) f0_FB (Nat.zero_le _) HQ_0 _ _ _) gL_refused_X6_come rfl (by decide +kernel) ⟨Nat.le_of_ble_eq_true rfl, Nat.le_of_ble_eq_true rfl⟩ 20 rfl rfl rfl rfl (Nat.le_of_ble_eq_true rfl) dL_refused_227 ⟨Nat.le_of_ble_eq_true rfl, Nat.le_of_ble_eq_true rfl⟩ rfl (fun v w9 hv => ?_)
    have hE : comeS f0S wq (0 : Int32) (1 : Int32) = (-1, f0S) := bd_co1 hB
    rw [hE] at hv
    obtain ⟨rfl, na227, w227, pq227, hA227, rfl⟩ := ch_ref hv (by decide)
    have hD227 := hA227.trans hD216
    refine ⟨hA227, ?_⟩
    refine g_st (st' := [_]) rfl ?_
    refine g_iconst (v := ((-1) : Int32)) X dL_refused_230 (by decide) rfl ?_
    refine g_icmp_ne X dL_refused_231 456 (by decide) rfl (fun h231 => absurd h231 (by decide)) (fun h231 => ?_)
    refine g_aload_n X dL_refused_234 rfl 1 rfl rfl ?_
    refine g_iconst (v := (0 : Int32)) X dL_refused_235 (by decide) rfl ?_
    refine g_iconst (v := (0 : Int32)) X dL_refused_236 (by decide) rfl ?_
    refine g_iload_n X dL_refused_237 rfl 0 rfl rfl ?_
    refine g_callVXs (n := 3) (As := [_, _, _]) (rest := []) X hAg rfl (c_X6_come l D a f0S na227 w227 (fun _ => 0) (fun _ => 0) 0 0 0 0 0 pq227 (fun _ => none) 0 0 4 f0_WF (NR_0 _ _) f0_FB (Nat.zero_le _) HQ_0 _ _ _) gL_refused_X6_come rfl (by decide +kernel) ⟨Nat.le_of_ble_eq_true rfl, Nat.le_of_ble_eq_true rfl⟩ 20 rfl rfl rfl rfl (Nat.le_of_ble_eq_true rfl) dL_refused_238 ⟨Nat.le_of_ble_eq_true rfl, Nat.le_of_ble_eq_true rfl⟩ rfl (fun v w9 hv => ?_)
    have hE : comeS f0S (0 : Int32) (0 : Int32) wq = (-2, f0S) := bd_co2 hB
    rw [hE] at hv
    obtain ⟨rfl, na238, w238, pq238, hA238, rfl⟩ := ch_ref hv (by decide)
    have hD238 := hA238.trans hD227
    refine ⟨hA238, ?_⟩
    refine g_st (st' := [_]) rfl ?_
    refine g_bipush (v := ((-2) : Int32)) X dL_refused_241 (by decide) rfl ?_
    refine g_icmp_ne X dL_refused_243 456 (by decide) rfl (fun h243 => absurd h243 (by decide)) (fun h243 => ?_)
    refine g_aload_n X dL_refused_246 rfl 1 rfl rfl ?_
    refine g_iload_n X dL_refused_247 rfl 0 rfl rfl ?_
    refine g_iconst (v := (0 : Int32)) X dL_refused_248 (by decide) rfl ?_
    refine g_callVRX (w0 := []) (n := 2) (As := [_, _]) (rest := []) X (c_X6_ofPage l D a f0S na238 w238 (fun _ => 0) (fun _ => 0) 0 0 0 0 0 (fqa pq238) (fqa (fun _ => none)) (tlW D pq238 (fun _ => none)) 0 0 4 f0_WF (NR_0 _ _) _ _) gL_refused_X6_ofPage rfl (by decide +kernel) ⟨Nat.le_of_ble_eq_true rfl, Nat.le_of_ble_eq_true rfl⟩ 20 rfl rfl rfl rfl rfl (Nat.le_of_ble_eq_true rfl) dL_refused_249 ⟨Nat.le_of_ble_eq_true rfl, Nat.le_of_ble_eq_true rfl⟩ rfl (fun v hv => ?_)
    obtain rfl := hv
    refine g_st (st' := [_]) rfl ?_
    refine g_topi (bd_pg1 hB) ?_
    refine g_iconst (v := ((-1) : Int32)) X dL_refused_252 (by decide) rfl ?_
    refine g_icmp_ne X dL_refused_253 456 (by decide) rfl (fun h253 => absurd h253 (by decide)) (fun h253 => ?_)
    refine g_aload_n X dL_refused_256 rfl 1 rfl rfl ?_
    refine g_iconst (v := (0 : Int32)) X dL_refused_257 (by decide) rfl ?_
    refine g_iload_n X dL_refused_258 rfl 0 rfl rfl ?_
    refine g_callVRX (w0 := []) (n := 2) (As := [_, _]) (rest := []) X (c_X6_ofPage l D a f0S na238 w238 (fun _ => 0) (fun _ => 0) 0 0 0 0 0 (fqa pq238) (fqa (fun _ => none)) (tlW D pq238 (fun _ => none)) 0 0 4 f0_WF (NR_0 _ _) _ _) gL_refused_X6_ofPage rfl (by decide +kernel) ⟨Nat.le_of_ble_eq_true rfl, Nat.le_of_ble_eq_true rfl⟩ 20 rfl rfl rfl rfl rfl (Nat.le_of_ble_eq_true rfl) dL_refused_259 ⟨Nat.le_of_ble_eq_true rfl, Nat.le_of_ble_eq_true rfl⟩ rfl (fun v hv => ?_)
    obtain rfl := hv
    refine g_st (st' := [_]) rfl ?_
    refine g_topi (bd_pg2 hB) ?_
    refine g_bipush (v := ((-2) : Int32)) X dL_refused_262 (by decide) rfl ?_
    refine g_icmp_ne X dL_refused_264 456 (by decide) rfl (fun h264 => absurd h264 (by decide)) (fun h264 => ?_)
    refine g_aload_n X dL_refused_267 rfl 1 rfl rfl ?_
    refine g_iload_n X dL_refused_268 rfl 0 rfl rfl ?_
    refine g_iconst (v := (0 : Int32)) X dL_refused_269 (by decide) rfl ?_
    refine g_callVRX (w0 := []) (n := 2) (As := [_, _]) (rest := []) X (c_X6_ofStamp l D a f0S na238 w238 (fun _ => 0) (fun _ => 0) 0 0 0 0 0 (fqa pq238) (fqa (fun _ => none)) (tlW D pq238 (fun _ => none)) 0 0 4 f0_WF (NR_0 _ _) _ _) gL_refused_X6_ofStamp rfl (by decide +kernel) ⟨Nat.le_of_ble_eq_true rfl, Nat.le_of_ble_eq_true rfl⟩ 20 rfl rfl rfl rfl rfl (Nat.le_of_ble_eq_true rfl) dL_refused_270 ⟨Nat.le_of_ble_eq_true rfl, Nat.le_of_ble_eq_true rfl⟩ rfl (fun v hv => ?_)
    obtain rfl := hv
    refine g_st (st' := [_]) rfl ?_
    refine g_topi (bd_os hB) ?_
    refine g_iconst (v := ((-1) : Int32)) X dL_refused_273 (by decide) rfl ?_
    refine g_icmp_ne X dL_refused_274 456 (by decide) rfl (fun h274 => absurd h274 (by decide)) (fun h274 => ?_)
    refine g_aload_n X dL_refused_277 rfl 1 rfl rfl ?_
    refine g_iload_n X dL_refused_278 rfl 0 rfl rfl ?_
    refine g_iconst (v := (0 : Int32)) X dL_refused_279 (by decide) rfl ?_
    refine g_callVRX (w0 := []) (n := 2) (As := [_, _]) (rest := []) X (c_X6_leads l D a f0S na238 w238 (fun _ => 0) (fun _ => 0) 0 0 0 0 0 (fqa pq238) (fqa (fun _ => none)) (tlW D pq238 (fun _ => none)) 0 0 4 f0_WF (NR_0 _ _) _ _) gL_refused_X6_leads rfl (by decide +kernel) ⟨Nat.le_of_ble_eq_true rfl, Nat.le_of_ble_eq_true rfl⟩ 20 rfl rfl rfl rfl rfl (Nat.le_of_ble_eq_true rfl) dL_refused_280 ⟨Nat.le_of_ble_eq_true rfl, Nat.le_of_ble_eq_true rfl⟩ rfl (fun v hv => ?_)
    obtain rfl := hv
    refine g_st (st' := [_]) rfl ?_
    refine g_topi (bd_ld hB) ?_
    refine g_iconst (v := ((-1) : Int32)) X dL_refused_283 (by decide) rfl ?_
    refine g_icmp_ne X dL_refused_284 456 (by decide) rfl (fun h284 => absurd h284 (by decide)) (fun h284 => ?_)
    refine g_aload_n X dL_refused_287 rfl 1 rfl rfl ?_
    refine g_iload_n X dL_refused_288 rfl 0 rfl rfl ?_
    refine g_iconst (v := (0 : Int32)) X dL_refused_289 (by decide) rfl ?_
    refine g_callVRX (w0 := []) (n := 2) (As := [_, _]) (rest := []) X (c_X6_note l D a f0S na238 w238 (fun _ => 0) (fun _ => 0) 0 0 0 0 0 (fqa pq238) (fqa (fun _ => none)) (tlW D pq238 (fun _ => none)) 0 0 4 f0_WF (NR_0 _ _) _ _) gL_refused_X6_note rfl (by decide +kernel) ⟨Nat.le_of_ble_eq_true rfl, Nat.le_of_ble_eq_true rfl⟩ 20 rfl rfl rfl rfl rfl (Nat.le_of_ble_eq_true rfl) dL_refused_290 ⟨Nat.le_of_ble_eq_true rfl, Nat.le_of_ble_eq_true rfl⟩ rfl (fun v hv => ?_)
    obtain rfl := hv
    refine g_st (st' := [_]) rfl ?_
    refine g_topi (bd_no hB) ?_
    refine g_iconst (v := ((-1) : Int32)) X dL_refused_293 (by decide) rfl ?_
    refine g_icmp_ne X dL_refused_294 456 (by decide) rfl (fun h294 => absurd h294 (by decide)) (fun h294 => ?_)
    refine g_aload_n X dL_refused_297 rfl 1 rfl rfl ?_
    refine g_iload_n X dL_refused_298 rfl 0 rfl rfl ?_
    refine g_callVRX (w0 := []) (n := 1) (As := [_]) (rest := []) X (c_X6_count l D a f0S na238 w238 (fun _ => 0) (fun _ => 0) 0 0 0 0 0 (fqa pq238) (fqa (fun _ => none)) (tlW D pq238 (fun _ => none)) 0 0 4 f0_WF (NR_0 _ _) _) gL_refused_X6_count rfl (by decide +kernel) ⟨Nat.le_of_ble_eq_true rfl, Nat.le_of_ble_eq_true rfl⟩ 20 rfl rfl rfl rfl rfl (Nat.le_of_ble_eq_true rfl) dL_refused_299 ⟨Nat.le_of_ble_eq_true rfl, Nat.le_of_ble_eq_true rfl⟩ rfl (fun v hv => ?_)
    obtain rfl := hv
    refine g_st (st' := [_]) rfl ?_
    refine g_topi (bd_ct hB) ?_
    refine g_bipush (v := ((-2) : Int32)) X dL_refused_302 (by decide) rfl ?_
    refine g_icmp_ne X dL_refused_304 456 (by decide) rfl (fun h304 => absurd h304 (by decide)) (fun h304 => ?_)
    refine g_aload_n X dL_refused_307 rfl 1 rfl rfl ?_
    refine g_iload_n X dL_refused_308 rfl 0 rfl rfl ?_
    refine g_callVRX (w0 := []) (n := 1) (As := [_]) (rest := []) X (c_X6_ended l D a f0S na238 w238 (fun _ => 0) (fun _ => 0) 0 0 0 0 0 (fqa pq238) (fqa (fun _ => none)) (tlW D pq238 (fun _ => none)) 0 0 4 f0_WF (NR_0 _ _) _) gL_refused_X6_ended rfl (by decide +kernel) ⟨Nat.le_of_ble_eq_true rfl, Nat.le_of_ble_eq_true rfl⟩ 20 rfl rfl rfl rfl rfl (Nat.le_of_ble_eq_true rfl) dL_refused_309 ⟨Nat.le_of_ble_eq_true rfl, Nat.le_of_ble_eq_true rfl⟩ rfl (fun v hv => ?_)
    obtain rfl := hv
    refine g_st (st' := [_]) rfl ?_
    refine g_topi (bd_en hB) ?_
    refine g_bipush (v := ((-2) : Int32)) X dL_refused_312 (by decide) rfl ?_
    refine g_icmp_ne X dL_refused_314 456 (by decide) rfl (fun h314 => absurd h314 (by decide)) (fun h314 => ?_)
    refine g_aload_n X dL_refused_317 rfl 1 rfl rfl ?_
    refine g_iload_n X dL_refused_318 rfl 0 rfl rfl ?_
    refine g_iconst (v := (0 : Int32)) X dL_refused_319 (by decide) rfl ?_
    refine g_iconst (v := (1 : Int32)) X dL_refused_320 (by decide) rfl ?_
    refine g_iconst (v := (0 : Int32)) X dL_refused_321 (by decide) rfl ?_
    refine g_callVXs (n := 4) (As := [_, _, _, _]) (rest := []) X hAg rfl (c_X6_walk l D a f0S na238 w238 (fun _ => 0) (fun _ => 0) 0 0 0 0 0 (fqa pq238) (fqa (fun _ => none)) (tlW D pq238 (fun _ => none)) 0 0 4 f0_WF (NR_0 _ _) _ _ _ _) gL_refused_X6_walk rfl (by decide +kernel) ⟨Nat.le_of_ble_eq_true rfl, Nat.le_of_ble_eq_true rfl⟩ 20 rfl rfl rfl rfl (Nat.le_of_ble_eq_true rfl) dL_refused_322 ⟨Nat.le_of_ble_eq_true rfl, Nat.le_of_ble_eq_true rfl⟩ rfl (fun v w9 hv => ?_)
    obtain ⟨rfl, w322, rfl⟩ := hv
    refine ⟨AD.rf rfl, ?_⟩
    refine g_st (st' := [_]) rfl ?_
    have hD322 : AD (wB D a f0S na238 w322 (fun _ => 0) (fun _ => 0) 0 0 0 0 0 (fqa pq238) (fqa (fun _ => none)) (tlW D pq238 (fun _ => none))) (wB D a f0S na0S (fun _ => 0) (fun _ => 0) (fun _ => 0) 0 0 0 0 0 (fqa (fun _ => none)) (fqa (fun _ => none)) (tlW D (fun _ => none) (fun _ => none))) := AD.trans (v := wB D a f0S na238 w238 (fun _ => 0) (fun _ => 0) 0 0 0 0 0 (fqa pq238) (fqa (fun _ => none)) (tlW D pq238 (fun _ => none))) (AD.rf rfl) hD238
    refine g_topi (bd_wk1 hB) ?_
    refine g_iconst (v := ((-1) : Int32)) X dL_refused_325 (by decide) rfl ?_
    refine g_icmp_ne X dL_refused_326 456 (by decide) rfl (fun h326 => absurd h326 (by decide)) (fun h326 => ?_)
    refine g_aload_n X dL_refused_329 rfl 1 rfl rfl ?_
    refine g_iconst (v := (0 : Int32)) X dL_refused_330 (by decide) rfl ?_
    refine g_iconst (v := (0 : Int32)) X dL_refused_331 (by decide) rfl ?_
    refine g_iload_n X dL_refused_332 rfl 0 rfl rfl ?_
    refine g_iconst (v := (0 : Int32)) X dL_refused_333 (by decide) rfl ?_
    refine g_callVXs (n := 4) (As := [_, _, _, _]) (rest := []) X hAg rfl (c_X6_walk l D a f0S na238 w322 (fun _ => 0) (fun _ => 0) 0 0 0 0 0 (fqa pq238) (fqa (fun _ => none)) (tlW D pq238 (fun _ => none)) 0 0 4 f0_WF (NR_0 _ _) _ _ _ _) gL_refused_X6_walk rfl (by decide +kernel) ⟨Nat.le_of_ble_eq_true rfl, Nat.le_of_ble_eq_true rfl⟩ 20 rfl rfl rfl rfl (Nat.le_of_ble_eq_true rfl) dL_refused_334 ⟨Nat.le_of_ble_eq_true rfl, Nat.le_of_ble_eq_true rfl⟩ rfl (fun v w9 hv => ?_)
    obtain ⟨rfl, w334, rfl⟩ := hv
    refine ⟨AD.rf rfl, ?_⟩
    refine g_st (st' := [_]) rfl ?_
    have hD334 : AD (wB D a f0S na238 w334 (fun _ => 0) (fun _ => 0) 0 0 0 0 0 (fqa pq238) (fqa (fun _ => none)) (tlW D pq238 (fun _ => none))) (wB D a f0S na0S (fun _ => 0) (fun _ => 0) (fun _ => 0) 0 0 0 0 0 (fqa (fun _ => none)) (fqa (fun _ => none)) (tlW D (fun _ => none) (fun _ => none))) := AD.trans (v := wB D a f0S na238 w322 (fun _ => 0) (fun _ => 0) 0 0 0 0 0 (fqa pq238) (fqa (fun _ => none)) (tlW D pq238 (fun _ => none))) (AD.rf rfl) hD322
    refine g_topi (bd_wk2 hB) ?_
    refine g_bipush (v := ((-2) : Int32)) X dL_refused_337 (by decide) rfl ?_
    refine g_icmp_ne X dL_refused_339 456 (by decide) rfl (fun h339 => absurd h339 (by decide)) (fun h339 => ?_)
    refine g_aload_n X dL_refused_342 rfl 1 rfl rfl ?_
    refine g_iconst (v := (0 : Int32)) X dL_refused_343 (by decide) rfl ?_
    refine g_iconst (v := (0 : Int32)) X dL_refused_344 (by decide) rfl ?_
    refine g_iconst (v := (1 : Int32)) X dL_refused_345 (by decide) rfl ?_
    refine g_iload_n X dL_refused_346 rfl 0 rfl rfl ?_
    refine g_callVXs (n := 4) (As := [_, _, _, _]) (rest := []) X hAg rfl (c_X6_walk l D a f0S na238 w334 (fun _ => 0) (fun _ => 0) 0 0 0 0 0 (fqa pq238) (fqa (fun _ => none)) (tlW D pq238 (fun _ => none)) 0 0 4 f0_WF (NR_0 _ _) _ _ _ _) gL_refused_X6_walk rfl (by decide +kernel) ⟨Nat.le_of_ble_eq_true rfl, Nat.le_of_ble_eq_true rfl⟩ 20 rfl rfl rfl rfl (Nat.le_of_ble_eq_true rfl) dL_refused_347 ⟨Nat.le_of_ble_eq_true rfl, Nat.le_of_ble_eq_true rfl⟩ rfl (fun v w9 hv => ?_)
    obtain ⟨rfl, w347, rfl⟩ := hv
    refine ⟨AD.rf rfl, ?_⟩
    refine g_st (st' := [_]) rfl ?_
    have hD347 : AD (wB D a f0S na238 w347 (fun _ => 0) (fun _ => 0) 0 0 0 0 0 (fqa pq238) (fqa (fun _ => none)) (tlW D pq238 (fun _ => none))) (wB D a f0S na0S (fun _ => 0) (fun _ => 0) (fun _ => 0) 0 0 0 0 0 (fqa (fun _ => none)) (fqa (fun _ => none)) (tlW D (fun _ => none) (fun _ => none))) := AD.trans (v := wB D a f0S na238 w334 (fun _ => 0) (fun _ => 0) 0 0 0 0 0 (fqa pq238) (fqa (fun _ => none)) (tlW D pq238 (fun _ => none))) (AD.rf rfl) hD334
    refine g_topi (bd_wk3 hB) ?_
    refine g_bipush (v := ((-2) : Int32)) X dL_refused_350 (by decide) rfl ?_
    refine g_icmp_ne X dL_refused_352 456 (by decide) rfl (fun h352 => absurd h352 (by decide)) (fun h352 => ?_)
    refine g_aload_n X dL_refused_355 rfl 1 rfl rfl ?_
    refine g_iload_n X dL_refused_356 rfl 0 rfl rfl ?_
    refine g_callVRX (w0 := []) (n := 1) (As := [_]) (rest := []) X (c_X6_hides l D a f0S na238 w347 (fun _ => 0) (fun _ => 0) 0 0 0 0 0 (fqa pq238) (fqa (fun _ => none)) (tlW D pq238 (fun _ => none)) 0 0 4 f0_WF (NR_0 _ _) _) gL_refused_X6_hides rfl (by decide +kernel) ⟨Nat.le_of_ble_eq_true rfl, Nat.le_of_ble_eq_true rfl⟩ 20 rfl rfl rfl rfl rfl (Nat.le_of_ble_eq_true rfl) dL_refused_357 ⟨Nat.le_of_ble_eq_true rfl, Nat.le_of_ble_eq_true rfl⟩ rfl (fun v hv => ?_)
    obtain rfl := hv
    refine g_st (st' := [_]) rfl ?_
    refine g_topi (bd_hi hB) ?_
    refine g_iconst (v := ((-1) : Int32)) X dL_refused_360 (by decide) rfl ?_
    refine g_icmp_ne X dL_refused_361 456 (by decide) rfl (fun h361 => absurd h361 (by decide)) (fun h361 => ?_)
    refine g_aload_n X dL_refused_364 rfl 1 rfl rfl ?_
    refine g_iload_n X dL_refused_365 rfl 0 rfl rfl ?_
    refine g_callVRX (w0 := []) (n := 1) (As := [_]) (rest := []) X (c_X6_needless l D a f0S na238 w347 (fun _ => 0) (fun _ => 0) 0 0 0 0 0 (fqa pq238) (fqa (fun _ => none)) (tlW D pq238 (fun _ => none)) 0 0 4 f0_WF (NR_0 _ _) _) gL_refused_X6_needless rfl (by decide +kernel) ⟨Nat.le_of_ble_eq_true rfl, Nat.le_of_ble_eq_true rfl⟩ 20 rfl rfl rfl rfl rfl (Nat.le_of_ble_eq_true rfl) dL_refused_366 ⟨Nat.le_of_ble_eq_true rfl, Nat.le_of_ble_eq_true rfl⟩ rfl (fun v hv => ?_)
    obtain rfl := hv
    refine g_st (st' := [_]) rfl ?_
    refine g_topl (bd_nd hB) ?_
    refine g_ldc2 X dL_refused_369 (List.mem_of_getElem? (l := wsL_refused) (i := 2) rfl) rfl ?_
    refine g_lcmp X dL_refused_372 rfl ?_
    refine g_if_ne X dL_refused_373 456 (by decide) rfl (fun h373 => absurd (lg_self _) h373) (fun h373 => ?_)
    refine g_aload_n X dL_refused_376 rfl 1 rfl rfl ?_
    refine g_callVRX (w0 := []) (n := 0) (As := []) (rest := []) X (c_X6_longest l D a f0S na238 w347 (fun _ => 0) (fun _ => 0) 0 0 0 0 0 (fqa pq238) (fqa (fun _ => none)) (tlW D pq238 (fun _ => none)) 0 0 4 f0_WF (NR_0 _ _) ) gL_refused_X6_longest rfl (by decide +kernel) ⟨Nat.le_of_ble_eq_true rfl, Nat.le_of_ble_eq_true rfl⟩ 20 rfl rfl rfl rfl rfl (Nat.le_of_ble_eq_true rfl) dL_refused_377 ⟨Nat.le_of_ble_eq_true rfl, Nat.le_of_ble_eq_true rfl⟩ rfl (fun v hv => ?_)
    obtain rfl := hv
    refine g_st (st' := [_]) rfl ?_
    refine g_topi (bd_lg) ?_
    refine g_bipush (v := ((-6) : Int32)) X dL_refused_380 (by decide) rfl ?_
    refine g_icmp_ne X dL_refused_382 456 (by decide) rfl (fun h382 => absurd h382 (by decide)) (fun h382 => ?_)
    refine g_aload_n X dL_refused_385 rfl 1 rfl rfl ?_
    refine g_lconst (v := (0 : Int64)) X dL_refused_386 (by decide) rfl ?_
    refine g_callVXs (n := 1) (As := [_]) (rest := []) X hAg rfl (c_X6_put l D a f0S na238 w347 (fun _ => 0) (fun _ => 0) 0 0 0 0 0 (fqa pq238) (fqa (fun _ => none)) (tlW D pq238 (fun _ => none)) (Nat.zero_le _) 0 (by decide)) gL_refused_X6_put rfl (by decide +kernel) ⟨Nat.le_of_ble_eq_true rfl, Nat.le_of_ble_eq_true rfl⟩ 20 rfl rfl rfl rfl (Nat.le_of_ble_eq_true rfl) dL_refused_387 ⟨Nat.le_of_ble_eq_true rfl, Nat.le_of_ble_eq_true rfl⟩ rfl (fun v w9 hv => ?_)
    obtain ⟨rfl, rfl⟩ := hv
    rw [put_00.2.1, put_00.2.2]
    refine ⟨AD.rf rfl, ?_⟩
    refine g_st (st' := [_]) rfl ?_
    refine g_topi ((put_00 (td := fun _ => 0)).1) ?_
    refine g_bipush (v := ((-2) : Int32)) X dL_refused_390 (by decide) rfl ?_
    refine g_icmp_ne X dL_refused_392 456 (by decide) rfl (fun h392 => absurd h392 (by decide)) (fun h392 => ?_)
    refine g_aload_n X dL_refused_395 rfl 1 rfl rfl ?_
    refine g_callVXs (n := 0) (As := []) (rest := []) X hAg rfl (c_X6_carryOut l D a f0S na238 w347 (fun _ => 0) (fun _ => 0) 0 0 0 0 0 pq238 (fun _ => none) 0 0 4 f0_WF (NR_0 _ _) f0_FB (Nat.zero_le _) HQ_0 (Nat.zero_le _) (fun k hk => absurd hk (Nat.not_lt_zero k))) gL_refused_X6_carryOut rfl (by decide +kernel) ⟨Nat.le_of_ble_eq_true rfl, Nat.le_of_ble_eq_true rfl⟩ 20 rfl rfl rfl rfl (Nat.le_of_ble_eq_true rfl) dL_refused_396 ⟨Nat.le_of_ble_eq_true rfl, Nat.le_of_ble_eq_true rfl⟩ rfl (fun v w9 hv => ?_)
    obtain ⟨hAc, hv⟩ := hv
    rcases hv with ⟨-, rfl, p9, f9, v9, k9, rfl⟩ | ⟨hz, -⟩
    rotate_left
    · exact absurd hz yf_00
    have hDc := hAc.trans hD347
    refine ⟨hAc, ?_⟩
    refine g_st (st' := [_]) rfl ?_
    refine g_bipush (v := ((-3) : Int32)) X dL_refused_399 (by decide) rfl ?_
    refine g_icmp_ne X dL_refused_401 456 (by decide) rfl (fun h401 => absurd h401 (by decide)) (fun h401 => ?_)
    refine g_aload_n X dL_refused_404 rfl 1 rfl rfl ?_
    refine g_iload_n X dL_refused_405 rfl 0 rfl rfl ?_
    refine g_callVXs (n := 1) (As := [_]) (rest := []) X hAg rfl (c_X6_save l D a f0S na238 w347 (fun _ => 0) v9 0 p9 f9 k9 0 pq238 (fun _ => none) f0_FB _) gL_refused_X6_save rfl (by decide +kernel) ⟨Nat.le_of_ble_eq_true rfl, Nat.le_of_ble_eq_true rfl⟩ 20 rfl rfl rfl rfl (Nat.le_of_ble_eq_true rfl) dL_refused_406 ⟨Nat.le_of_ble_eq_true rfl, Nat.le_of_ble_eq_true rfl⟩ rfl (fun v w9 hv => ?_)
    obtain ⟨-, hv⟩ := hv
    rcases hv with ⟨hr2, -⟩ | ⟨-, rfl, rfl⟩
    · exact absurd hr2 (by rw [hB.r 2 (by omega)]; exact Bool.false_ne_true)
    refine ⟨AD.rf rfl, ?_⟩
    refine g_st (st' := [_]) rfl ?_
    refine g_bipush (v := ((-2) : Int32)) X dL_refused_409 (by decide) rfl ?_
    refine g_icmp_ne X dL_refused_411 456 (by decide) rfl (fun h411 => absurd h411 (by decide)) (fun h411 => ?_)
    refine g_aload_n X dL_refused_414 rfl 1 rfl rfl ?_
    refine g_iload_n X dL_refused_415 rfl 0 rfl rfl ?_
    refine g_callVXs (n := 1) (As := [_]) (rest := []) X hAg rfl (c_X6_restore l D a f0S na238 w347 (fun _ => 0) v9 0 p9 f9 k9 0 pq238 (fun _ => none) f0_FB (Nat.zero_le _) HQ_0 (fun q _ h e => by cases e) _) gL_refused_X6_restore rfl (by decide +kernel) ⟨Nat.le_of_ble_eq_true rfl, Nat.le_of_ble_eq_true rfl⟩ 20 rfl rfl rfl rfl (Nat.le_of_ble_eq_true rfl) dL_refused_416 ⟨Nat.le_of_ble_eq_true rfl, Nat.le_of_ble_eq_true rfl⟩ rfl (fun v w9 hv => ?_)
    obtain ⟨-, hv⟩ := hv
    rcases hv with ⟨-, rfl, rfl⟩ | ⟨hr2, -⟩ | ⟨hr2, -⟩
    rotate_left
    · exact absurd hr2 (by rw [hB.r 2 (by omega)]; exact Bool.false_ne_true)
    · exact absurd hr2 (by rw [hB.r 2 (by omega)]; exact Bool.false_ne_true)
    refine ⟨AD.rf rfl, ?_⟩
    refine g_st (st' := [_]) rfl ?_
    refine g_bipush (v := ((-2) : Int32)) X dL_refused_419 (by decide) rfl ?_
    refine g_icmp_ne X dL_refused_421 456 (by decide) rfl (fun h421 => absurd h421 (by decide)) (fun h421 => ?_)
    refine g_aload_n X dL_refused_424 rfl 1 rfl rfl ?_
    refine g_iconst (v := (0 : Int32)) X dL_refused_425 (by decide) rfl ?_
    refine g_callVXs (n := 1) (As := [_]) (rest := []) X hAg rfl (c_X6_restore l D a f0S na238 w347 (fun _ => 0) v9 0 p9 f9 k9 0 pq238 (fun _ => none) f0_FB (Nat.zero_le _) HQ_0 (fun q _ h e => by cases e) _) gL_refused_X6_restore rfl (by decide +kernel) ⟨Nat.le_of_ble_eq_true rfl, Nat.le_of_ble_eq_true rfl⟩ 20 rfl rfl rfl rfl (Nat.le_of_ble_eq_true rfl) dL_refused_426 ⟨Nat.le_of_ble_eq_true rfl, Nat.le_of_ble_eq_true rfl⟩ rfl (fun v w9 hv => ?_)
    obtain ⟨-, hv⟩ := hv
    rcases hv with ⟨hr2, -⟩ | ⟨-, -, rfl, rfl⟩ | ⟨-, bR, gR, nbR, b0R, hz, -⟩
    · exact absurd hr2 (by decide)
    rotate_left
    · cases hz
    refine ⟨AD.rf rfl, ?_⟩
    refine g_st (st' := [_]) rfl ?_
    refine g_bipush (v := ((-5) : Int32)) X dL_refused_429 (by decide) rfl ?_
    refine g_icmp_ne X dL_refused_431 456 (by decide) rfl (fun h431 => absurd h431 (by decide)) (fun h431 => ?_)
    refine g_aload_n X dL_refused_434 rfl 1 rfl rfl ?_
    refine g_callVXs (n := 0) (As := []) (rest := []) X hAg rfl (c_X6_undo l D a f0S na238 w347 (fun _ => 0) v9 0 p9 f9 k9 0 pq238 (fun _ => none) (Nat.zero_le _) HQ_0 HF_0) gL_refused_X6_undo rfl (by decide +kernel) ⟨Nat.le_of_ble_eq_true rfl, Nat.le_of_ble_eq_true rfl⟩ 20 rfl rfl rfl rfl (Nat.le_of_ble_eq_true rfl) dL_refused_435 ⟨Nat.le_of_ble_eq_true rfl, Nat.le_of_ble_eq_true rfl⟩ rfl (fun v w9 hv => ?_)
    obtain ⟨r9, rfl, hv⟩ := hv
    rcases hv with ⟨-, rfl, rfl⟩ | ⟨hk0, -⟩
    rotate_left
    · exact absurd hk0 (Nat.lt_irrefl 0)
    refine ⟨AD.rf rfl, ?_⟩
    refine g_st (st' := [_]) rfl ?_
    refine g_bipush (v := ((-5) : Int32)) X dL_refused_438 (by decide) rfl ?_
    refine g_icmp_ne X dL_refused_440 456 (by decide) rfl (fun h440 => absurd h440 (by decide)) (fun h440 => ?_)
    refine g_aload_n X dL_refused_443 rfl 1 rfl rfl ?_
    refine g_bipush (v := (14 : Int32)) X dL_refused_444 (by decide) rfl ?_
    refine g_callVRX (w0 := []) (n := 1) (As := [_]) (rest := []) X (c_X6_count l D a f0S na238 w347 (fun _ => 0) v9 0 p9 f9 k9 0 (fqa pq238) (fqa (fun _ => none)) (tlW D pq238 (fun _ => none)) 0 0 4 f0_WF (NR_0 _ _) _) gL_refused_X6_count rfl (by decide +kernel) ⟨Nat.le_of_ble_eq_true rfl, Nat.le_of_ble_eq_true rfl⟩ 20 rfl rfl rfl rfl rfl (Nat.le_of_ble_eq_true rfl) dL_refused_446 ⟨Nat.le_of_ble_eq_true rfl, Nat.le_of_ble_eq_true rfl⟩ rfl (fun v hv => ?_)
    obtain rfl := hv
    refine g_st (st' := [_]) rfl ?_
    refine g_topi (oC14) ?_
    refine g_if_ne X dL_refused_449 456 (by decide) rfl (fun h449 => absurd h449 (by decide)) (fun h449 => ?_)
    refine g_iconst (v := (1 : Int32)) X dL_refused_452 (by decide) rfl ?_
    refine g_goto X dL_refused_453 457 (by decide) ?_
    refine g_widen 400 8000 (Nat.le_of_ble_eq_true rfl) (Nat.le_of_ble_eq_true rfl) ?_
    refine g_retW X hr (by first | rfl | exact b2i_nar _) dL_refused_457 hAe ?_
    exact ⟨rfl, na238, w347, _, v9, p9, f9, k9, pq238, hDc, rfl⟩
  refine g_if_ne X dL_refused_5 22 (by decide) rfl (fun h5 => ?_) (fun h5 => ?_)
  · have i5 := nj_ne (a := u2) (b := 0) (by omega) (by omega) h5
    refine g_bipush (v := (15 : Int32)) X dL_refused_22 (by decide) rfl ?_
    refine g_iload_n X dL_refused_24 rfl 1 rfl rfl ?_
    refine g_iconst (v := (1 : Int32)) X dL_refused_25 (by decide) rfl ?_
    refine g_ishr X dL_refused_26 rfl ?_
    refine g_ldcI X dL_refused_27 (List.mem_of_getElem? (l := wsL_refused) (i := 1) rfl) rfl ?_
    refine g_callSR (n := 2) (As := [_, _]) (rest := [_]) X (c_L_up l D ((vv >>> ((1 : Int32) &&& 31))) 1000000000 (by omega)) gL_refused_L_up rfl (by decide +kernel) ⟨Nat.le_of_ble_eq_true rfl, Nat.le_of_ble_eq_true rfl⟩ [] rfl rfl rfl rfl (Nat.le_of_ble_eq_true rfl) dL_refused_29 ⟨Nat.le_of_ble_eq_true rfl, Nat.le_of_ble_eq_true rfl⟩ rfl (fun v hv => ?_)
    obtain rfl := hv
    refine g_st (st' := [_, _]) rfl ?_
    refine g_upn (by omega) (fun u29 hu29 eu29 => ?_)
    refine g_iadd X dL_refused_32 rfl ?_
    refine g_topi (y := nI (15 + u29)) (nI_add 15 u29) ?_
    exact L33 _ (bad_hi hu29)
  · have i5 := nj_eq (a := u2) (b := 0) (by omega) (by omega) h5
    refine g_bipush (v := ((-7) : Int32)) X dL_refused_8 (by decide) rfl ?_
    refine g_iload_n X dL_refused_10 rfl 1 rfl rfl ?_
    refine g_iconst (v := (1 : Int32)) X dL_refused_11 (by decide) rfl ?_
    refine g_ishr X dL_refused_12 rfl ?_
    refine g_ldcI X dL_refused_13 (List.mem_of_getElem? (l := wsL_refused) (i := 1) rfl) rfl ?_
    refine g_callSR (n := 2) (As := [_, _]) (rest := [_]) X (c_L_up l D ((vv >>> ((1 : Int32) &&& 31))) 1000000000 (by omega)) gL_refused_L_up rfl (by decide +kernel) ⟨Nat.le_of_ble_eq_true rfl, Nat.le_of_ble_eq_true rfl⟩ [] rfl rfl rfl rfl (Nat.le_of_ble_eq_true rfl) dL_refused_15 ⟨Nat.le_of_ble_eq_true rfl, Nat.le_of_ble_eq_true rfl⟩ rfl (fun v hv => ?_)
    obtain rfl := hv
    refine g_st (st' := [_, _]) rfl ?_
    refine g_upn (by omega) (fun u15 hu15 eu15 => ?_)
    refine g_isub X dL_refused_18 rfl ?_
    refine g_goto X dL_refused_19 33 (by decide) ?_
    exact L33 _ (bad_lo hu15)
