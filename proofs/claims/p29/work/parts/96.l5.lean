set_option maxHeartbeats 4000000 in
set_option maxRecDepth 100000 in
theorem c_act_own (l : Launch) (D : DT) (a : Nat → Nat) (f : Nat → Int32) (na : Nat → Nat → Int32) (w td vl : Nat → Int32) (L pt fl : Nat) (kd : Int32) (kp : Nat) (pq ps : Nat → Option HH) (mk n b : Nat) (hW : WF f mk n b) (hNR : NR f na n) (hF : FB f) (hkp : kp ≤ 6) (l9 : List (Nat → Int32)) (hHL : HL kp pq l9) (cr : Nat) (hcr : cr ≤ 1000) (hS : SI cr f) (hL : L ≤ 80) (hch : ∀ k, k < L → ∃ ch : Nat, ch < 256 ∧ td k = nI ch) (rt : Nat) (hrt : 1 ≤ rt ∧ rt ≤ 7) (pg : Nat) (hpg : pg < 12) (g : Nat) (hg : g < 6) (xw x y : Int32) {p : Program} {e : Env} {s : State} {m : MethodId} {below : List Frame} {meth : Method} {c : Code} {A : Nat → Prop} (hAe : A = va_A (wB D a f na w td vl L pt fl kd kp (fqa pq) (fqa ps) (tlW D pq ps)) s.heap.size) (hAg : ∀ q, s.heap.size ≤ q → A q) (X : GX p l e (wRoom 9 218 112 2380) s m ([.ref (a 19), .int (xw), .int (x), .int (y)] : List Value).toArray below meth c D A 15 cL_act yL_act.cls wsL_act) (hr : meth.sig.returnType = (some .boolean))  : GG p l e (wRoom 9 218 112 2380) s m ([.ref (a 19), .int (xw), .int (x), .int (y)] : List Value).toArray below meth c D A 15 false 0 0 (MQ below (wrQ D (wB D a f na w td vl L pt fl kd kp (fqa pq) (fqa ps) (tlW D pq ps)) s.heap.size (lwP D a ps (wB D a f na w td vl L pt fl kd kp (fqa pq) (fqa ps) (tlW D pq ps)) (cr + 1))) ([.ref (a 19), .int (xw), .int (x), .int (y)] : List Value).toArray s 112 2380 (va_A (wB D a f na w td vl L pt fl kd kp (fqa pq) (fqa ps) (tlW D pq ps)) s.heap.size)) (wB D a f na w td vl L pt fl kd kp (fqa pq) (fqa ps) (tlW D pq ps)) 144 [(7, .int (nI rt)), (6, .int (nI mk)), (5, .int (nI pg)), (4, .int (nI g)), (0, .ref (a 19)), (1, .int (xw)), (2, .int (x)), (3, .int (y))] [] := by
  obtain ⟨hmk, hm40, hn8, hb0, hb01, hb08, hn8b, hst, hno, how, hdo, hb0a, hb0c, hb0d, hb0z⟩ := id hW
  have hm8 : n ≤ 8 := by omega
  obtain ⟨eN1, eN2, -⟩ := hW.N
  refine g_iload_n X dL_act_144 rfl 7 rfl rfl ?_
  refine g_bipush (v := (8 : Int32)) X dL_act_145 (by decide) rfl ?_
  refine g_callSR (n := 2) (As := [_, _]) (rest := []) X (c_L_up l D (y) 8 (by omega)) gL_act_L_up rfl (by decide +kernel) ⟨Nat.le_of_ble_eq_true rfl, Nat.le_of_ble_eq_true rfl⟩ [] rfl rfl rfl rfl (Nat.le_of_ble_eq_true rfl) dL_act_147 ⟨Nat.le_of_ble_eq_true rfl, Nat.le_of_ble_eq_true rfl⟩ rfl (fun v hv => ?_)
  obtain rfl := hv
  refine g_st (st' := [_]) rfl ?_
  refine g_upn (by omega) (fun u147 hu147 eu147 => ?_)
  refine g_bipush (v := (6 : Int32)) X dL_act_150 (by decide) rfl ?_
  have L166 : ∀ (to : Int32) (hto : to = -6 ∨ ∃ g : Nat, g < 6 ∧ to = nI g), GG p l e (wRoom 9 218 112 2380) s m ([.ref (a 19), .int (xw), .int (x), .int (y)] : List Value).toArray below meth c D A 15 false 0 0 (MQ below (wrQ D (wB D a f na w td vl L pt fl kd kp (fqa pq) (fqa ps) (tlW D pq ps)) s.heap.size (lwP D a ps (wB D a f na w td vl L pt fl kd kp (fqa pq) (fqa ps) (tlW D pq ps)) (cr + 1))) ([.ref (a 19), .int (xw), .int (x), .int (y)] : List Value).toArray s 112 2380 (va_A (wB D a f na w td vl L pt fl kd kp (fqa pq) (fqa ps) (tlW D pq ps)) s.heap.size)) (wB D a f na w td vl L pt fl kd kp (fqa pq) (fqa ps) (tlW D pq ps)) 166 [(7, .int (nI rt)), (6, .int (nI mk)), (5, .int (nI pg)), (4, .int (nI g)), (0, .ref (a 19)), (1, .int (xw)), (2, .int (x)), (3, .int (y))] [.int (to)] := by
    intro to hto
    refine g_istore X [(8, _), (7, _), (6, _), (5, _), (4, _), (0, _), (1, _), (2, _), (3, _)] dL_act_166 (by decide) rfl rfl ?_
    refine g_aload_n X dL_act_168 rfl 5 rfl rfl ?_
    refine g_iload X dL_act_169 3 rfl rfl ?_
    refine g_iconst (v := (0 : Int32)) X dL_act_171 (by decide) rfl ?_
    refine g_callVRX (w0 := []) (n := 2) (As := [_, _]) (rest := []) X (c_X6_ofPage l D a f na w td vl L pt fl kd kp (fqa pq) (fqa ps) (tlW D pq ps) mk n b hW hNR _ _) gL_act_X6_ofPage rfl (by decide +kernel) ⟨Nat.le_of_ble_eq_true rfl, Nat.le_of_ble_eq_true rfl⟩ 20 rfl rfl rfl rfl rfl (Nat.le_of_ble_eq_true rfl) dL_act_172 ⟨Nat.le_of_ble_eq_true rfl, Nat.le_of_ble_eq_true rfl⟩ rfl (fun v hv => ?_)
    obtain rfl := hv
    refine g_st (st' := [_]) rfl ?_
    refine g_topi (oPg0 (p := pg) (by omega)) ?_
    refine g_istore X [(9, _), (8, _), (7, _), (6, _), (5, _), (4, _), (0, _), (1, _), (2, _), (3, _)] dL_act_175 (by decide) rfl rfl ?_
    refine g_aload_n X dL_act_177 rfl 6 rfl rfl ?_
    refine g_iload X dL_act_178 4 rfl rfl ?_
    refine g_iconst (v := ((-1) : Int32)) X dL_act_180 (by decide) rfl ?_
    refine g_iload X dL_act_181 1 rfl rfl ?_
    refine g_iload X dL_act_183 0 rfl rfl ?_
    refine g_iload X dL_act_185 1 rfl rfl ?_
    refine g_icmp_ne X dL_act_187 194 (by decide) rfl (fun h187 => ?_) (fun h187 => ?_)
    · refine g_iconst (v := (0 : Int32)) X dL_act_194 (by decide) rfl ?_
      refine g_callSXs (n := 5) (As := [_, _, _, _, _]) (rest := []) X hAg rfl (c_L_changed_own l D a f na w td vl L pt fl kd kp pq ps mk n b hW hNR hF hkp l9 hHL cr hcr hS hL hch pg hpg to hto false (decide_eq_false h187).symm) gL_act_L_changed rfl (by decide +kernel) ⟨Nat.le_of_ble_eq_true rfl, Nat.le_of_ble_eq_true rfl⟩ rfl rfl (Nat.le_of_ble_eq_true rfl) dL_act_195 ⟨Nat.le_of_ble_eq_true rfl, Nat.le_of_ble_eq_true rfl⟩ rfl (fun v w9 hv => ?_)
      obtain ⟨rfl, fB, naB, wB9, tdB, vlB, LB, ptB, flB, kdB, kpB, pqB, hLIB, hADB, rfl⟩ := hv
      refine ⟨hADB, ?_⟩
      refine g_st (st' := [_]) rfl ?_
      refine g_widen 112 2380 (Nat.le_of_ble_eq_true rfl) (Nat.le_of_ble_eq_true rfl) ?_
      refine g_retW X hr (by first | rfl | exact b2i_nar _) dL_act_198 hAe ?_
      exact ⟨rfl, fB, naB, wB9, tdB, vlB, LB, ptB, flB, kdB, kpB, pqB, LI_le (by omega) hLIB, hADB, rfl⟩
    · refine g_iconst (v := (1 : Int32)) X dL_act_190 (by decide) rfl ?_
      refine g_goto X dL_act_191 195 (by decide) ?_
      refine g_callSXs (n := 5) (As := [_, _, _, _, _]) (rest := []) X hAg rfl (c_L_changed_own l D a f na w td vl L pt fl kd kp pq ps mk n b hW hNR hF hkp l9 hHL cr hcr hS hL hch pg hpg to hto true (decide_eq_true h187).symm) gL_act_L_changed rfl (by decide +kernel) ⟨Nat.le_of_ble_eq_true rfl, Nat.le_of_ble_eq_true rfl⟩ rfl rfl (Nat.le_of_ble_eq_true rfl) dL_act_195 ⟨Nat.le_of_ble_eq_true rfl, Nat.le_of_ble_eq_true rfl⟩ rfl (fun v w9 hv => ?_)
      obtain ⟨rfl, fB, naB, wB9, tdB, vlB, LB, ptB, flB, kdB, kpB, pqB, hLIB, hADB, rfl⟩ := hv
      refine ⟨hADB, ?_⟩
      refine g_st (st' := [_]) rfl ?_
      refine g_widen 112 2380 (Nat.le_of_ble_eq_true rfl) (Nat.le_of_ble_eq_true rfl) ?_
      refine g_retW X hr (by first | rfl | exact b2i_nar _) dL_act_198 hAe ?_
      exact ⟨rfl, fB, naB, wB9, tdB, vlB, LB, ptB, flB, kdB, kpB, pqB, LI_le (by omega) hLIB, hADB, rfl⟩
  refine g_icmp_ge X dL_act_152 164 (by decide) rfl (fun h152 => ?_) (fun h152 => ?_)
  · have i152 := nj_le (a := 6) (b := u147) (by omega) (by omega) h152
    refine g_bipush (v := ((-6) : Int32)) X dL_act_164 (by decide) rfl ?_
    exact L166 (-6) (Or.inl rfl)
  · have i152 := nj_nle (a := 6) (b := u147) (by omega) (by omega) h152
    refine g_iload_n X dL_act_155 rfl 7 rfl rfl ?_
    refine g_bipush (v := (8 : Int32)) X dL_act_156 (by decide) rfl ?_
    refine g_callSR (n := 2) (As := [_, _]) (rest := []) X (c_L_up l D (y) 8 (by omega)) gL_act_L_up rfl (by decide +kernel) ⟨Nat.le_of_ble_eq_true rfl, Nat.le_of_ble_eq_true rfl⟩ [] rfl rfl rfl rfl (Nat.le_of_ble_eq_true rfl) dL_act_158 ⟨Nat.le_of_ble_eq_true rfl, Nat.le_of_ble_eq_true rfl⟩ rfl (fun v hv => ?_)
    obtain rfl := hv
    refine g_st (st' := [_]) rfl ?_
    refine g_upn (by omega) (fun u158 hu158 eu158 => ?_)
    refine g_goto X dL_act_161 166 (by decide) ?_
    exact L166 _ (Or.inr ⟨u158, by omega, rfl⟩)

set_option maxHeartbeats 4000000 in
set_option maxRecDepth 100000 in
theorem c_act_take (l : Launch) (D : DT) (a : Nat → Nat) (f : Nat → Int32) (na : Nat → Nat → Int32) (w td vl : Nat → Int32) (L pt fl : Nat) (kd : Int32) (kp : Nat) (pq ps : Nat → Option HH) (mk n b : Nat) (hW : WF f mk n b) (hNR : NR f na n) (hF : FB f) (hkp : kp ≤ 6) (l9 : List (Nat → Int32)) (hHL : HL kp pq l9) (cr : Nat) (hcr : cr ≤ 1000) (hS : SI cr f) (hL : L ≤ 80) (hch : ∀ k, k < L → ∃ ch : Nat, ch < 256 ∧ td k = nI ch) (rt : Nat) (hrt : 1 ≤ rt ∧ rt ≤ 7) (pg : Nat) (hpg : pg < 12) (g : Nat) (hg : g < 6) (xw x y : Int32) {p : Program} {e : Env} {s : State} {m : MethodId} {below : List Frame} {meth : Method} {c : Code} {A : Nat → Prop} (hAe : A = va_A (wB D a f na w td vl L pt fl kd kp (fqa pq) (fqa ps) (tlW D pq ps)) s.heap.size) (hAg : ∀ q, s.heap.size ≤ q → A q) (X : GX p l e (wRoom 9 218 112 2380) s m ([.ref (a 19), .int (xw), .int (x), .int (y)] : List Value).toArray below meth c D A 15 cL_act yL_act.cls wsL_act) (hr : meth.sig.returnType = (some .boolean))  : GG p l e (wRoom 9 218 112 2380) s m ([.ref (a 19), .int (xw), .int (x), .int (y)] : List Value).toArray below meth c D A 15 false 0 0 (MQ below (wrQ D (wB D a f na w td vl L pt fl kd kp (fqa pq) (fqa ps) (tlW D pq ps)) s.heap.size (lwP D a ps (wB D a f na w td vl L pt fl kd kp (fqa pq) (fqa ps) (tlW D pq ps)) (cr + 1))) ([.ref (a 19), .int (xw), .int (x), .int (y)] : List Value).toArray s 112 2380 (va_A (wB D a f na w td vl L pt fl kd kp (fqa pq) (fqa ps) (tlW D pq ps)) s.heap.size)) (wB D a f na w td vl L pt fl kd kp (fqa pq) (fqa ps) (tlW D pq ps)) 199 [(7, .int (nI rt)), (6, .int (nI mk)), (5, .int (nI pg)), (4, .int (nI g)), (0, .ref (a 19)), (1, .int (xw)), (2, .int (x)), (3, .int (y))] [] := by
  obtain ⟨hmk, hm40, hn8, hb0, hb01, hb08, hn8b, hst, hno, how, hdo, hb0a, hb0c, hb0d, hb0z⟩ := id hW
  have hm8 : n ≤ 8 := by omega
  obtain ⟨eN1, eN2, -⟩ := hW.N
  refine g_iload X dL_act_199 1 rfl rfl ?_
  refine g_if_ne X dL_act_201 219 (by decide) rfl (fun h201 => ?_) (fun h201 => ?_)
  · have i201 := nj_ne (a := mk) (b := 0) (by omega) (by omega) h201
    refine g_iload_n X dL_act_219 rfl 6 rfl rfl ?_
    refine g_iload X dL_act_220 1 rfl rfl ?_
    refine g_callSR (n := 2) (As := [_, _]) (rest := []) X (c_L_up l D (x) mk (by omega)) gL_act_L_up rfl (by decide +kernel) ⟨Nat.le_of_ble_eq_true rfl, Nat.le_of_ble_eq_true rfl⟩ [] rfl rfl rfl rfl (Nat.le_of_ble_eq_true rfl) dL_act_222 ⟨Nat.le_of_ble_eq_true rfl, Nat.le_of_ble_eq_true rfl⟩ rfl (fun v hv => ?_)
    obtain rfl := hv
    refine g_st (st' := [_]) rfl ?_
    refine g_upn (by omega) (fun u222 hu222 eu222 => ?_)
    refine g_istore X [(8, _), (7, _), (6, _), (5, _), (4, _), (0, _), (1, _), (2, _), (3, _)] dL_act_225 (by decide) rfl rfl ?_
    refine g_aload_n X dL_act_227 rfl 5 rfl rfl ?_
    refine g_iload X dL_act_228 0 rfl rfl ?_
    refine g_bipush (v := (6 : Int32)) X dL_act_230 (by decide) rfl ?_
    refine g_callVRX (w0 := []) (n := 2) (As := [_, _]) (rest := []) X (c_X6_ofStamp l D a f na w td vl L pt fl kd kp (fqa pq) (fqa ps) (tlW D pq ps) mk n b hW hNR _ _) gL_act_X6_ofStamp rfl (by decide +kernel) ⟨Nat.le_of_ble_eq_true rfl, Nat.le_of_ble_eq_true rfl⟩ 20 rfl rfl rfl rfl rfl (Nat.le_of_ble_eq_true rfl) dL_act_232 ⟨Nat.le_of_ble_eq_true rfl, Nat.le_of_ble_eq_true rfl⟩ rfl (fun v hv => ?_)
    obtain rfl := hv
    refine g_st (st' := [_]) rfl ?_
    refine g_topi (oSt (q := u222) 6 eN1 (by omega) hm40 rfl (by decide)) ?_
    refine g_iconst (v := (1 : Int32)) X dL_act_235 (by decide) rfl ?_
    refine g_icmp_ne X dL_act_236 256 (by decide) rfl (fun h236 => ?_) (fun h236 => ?_)
    · refine g_aload_n X dL_act_256 rfl 5 rfl rfl ?_
      refine g_aload_n X dL_act_257 rfl 5 rfl rfl ?_
      refine g_iload X dL_act_258 0 rfl rfl ?_
      refine g_iconst (v := (0 : Int32)) X dL_act_260 (by decide) rfl ?_
      refine g_callVRX (w0 := []) (n := 2) (As := [_, _]) (rest := [_]) X (c_X6_ofStamp l D a f na w td vl L pt fl kd kp (fqa pq) (fqa ps) (tlW D pq ps) mk n b hW hNR _ _) gL_act_X6_ofStamp rfl (by decide +kernel) ⟨Nat.le_of_ble_eq_true rfl, Nat.le_of_ble_eq_true rfl⟩ 20 rfl rfl rfl rfl rfl (Nat.le_of_ble_eq_true rfl) dL_act_261 ⟨Nat.le_of_ble_eq_true rfl, Nat.le_of_ble_eq_true rfl⟩ rfl (fun v hv => ?_)
      obtain rfl := hv
      refine g_st (st' := [_, _]) rfl ?_
      refine g_topi (oSt (q := u222) 0 eN1 (by omega) hm40 rfl (by decide)) ?_
      obtain ⟨⟨po, hpo, epo⟩, -, -, -, -, -, -⟩ := id (hst u222 hu222)
      refine g_topi (epo) ?_
      refine g_iload X dL_act_264 0 rfl rfl ?_
      refine g_iconst (v := (0 : Int32)) X dL_act_266 (by decide) rfl ?_
      refine g_iconst (v := (0 : Int32)) X dL_act_267 (by decide) rfl ?_
      refine g_callSXs (n := 5) (As := [_, _, _, _, _]) (rest := []) X hAg rfl (c_L_changed_take l D a f na w td vl L pt fl kd kp pq ps mk n b hW hNR hF hkp l9 hHL cr hcr hS hL hch po hpo u222 hu222 h236 epo) gL_act_L_changed rfl (by decide +kernel) ⟨Nat.le_of_ble_eq_true rfl, Nat.le_of_ble_eq_true rfl⟩ rfl rfl (Nat.le_of_ble_eq_true rfl) dL_act_268 ⟨Nat.le_of_ble_eq_true rfl, Nat.le_of_ble_eq_true rfl⟩ rfl (fun v w9 hv => ?_)
      obtain ⟨rfl, fB, naB, wB9, tdB, vlB, LB, ptB, flB, kdB, kpB, pqB, hLIB, hADB, rfl⟩ := hv
      refine ⟨hADB, ?_⟩
      refine g_st (st' := [_]) rfl ?_
      refine g_widen 112 2380 (Nat.le_of_ble_eq_true rfl) (Nat.le_of_ble_eq_true rfl) ?_
      refine g_retW X hr (by first | rfl | exact b2i_nar _) dL_act_271 hAe ?_
      exact ⟨rfl, fB, naB, wB9, tdB, vlB, LB, ptB, flB, kdB, kpB, pqB, LI_le (by omega) hLIB, hADB, rfl⟩
    · refine g_aload_n X dL_act_239 rfl 5 rfl rfl ?_
      refine g_iload X dL_act_240 0 rfl rfl ?_
      refine g_callVXs (n := 1) (As := [_]) (rest := []) X hAg rfl (c_X6_takeBack l D a f na w td vl L pt fl kd kp pq ps mk n b hW hNR hF hkp hHL.hq _) gL_act_X6_takeBack rfl (by decide +kernel) ⟨Nat.le_of_ble_eq_true rfl, Nat.le_of_ble_eq_true rfl⟩ 20 rfl rfl rfl rfl (Nat.le_of_ble_eq_true rfl) dL_act_242 ⟨Nat.le_of_ble_eq_true rfl, Nat.le_of_ble_eq_true rfl⟩ rfl (fun v w9 hv => ?_)
      obtain ⟨rfl, fA, naA, wA, kpA, pqA, efA, hNA, hAA, hkpA, hHLA, ekA, rfl⟩ := ch_out hv hkp hHL hF ⟨_, hNR, hn8⟩
      have hADA := hAA
      refine ⟨hAA, ?_⟩
      refine g_st (st' := [_]) rfl ?_
      have hE5 : takeS f (nI u222) = (-5, f) := take_5 hW hu222 h236
      have hWA : WF fA mk n b := by rw [efA, hE5]; exact hW
      have hSA : SI cr fA := by rw [efA, hE5]; exact hS
      refine g_topi ((show (takeS f (nI u222)).1 = (-5 : Int32) from congrArg Prod.fst hE5)) ?_
      have hNRA := hNA.to hWA
      have hFA : FB fA := by rw [efA]; exact take_fb ⟨mk, n, b, hW⟩ hF
      obtain ⟨hmkA, hm40A, hn8A, hb0A, hb0A1, hb0A8, hn8Ab, hstA, hnoA, howA, hdoA, hb0Aa, hb0Ac, hb0Ad, hb0Az⟩ := id hWA
      have hm8A : n ≤ 8 := by omega
      obtain ⟨eN1A, eN2A, -⟩ := hWA.N
      refine g_bipush (v := ((-5) : Int32)) X dL_act_245 (by decide) rfl ?_
      refine g_icmp_ne X dL_act_247 254 (by decide) rfl (fun h247 => absurd h247 (by decide)) (fun h247 => ?_)
      refine g_iconst (v := (1 : Int32)) X dL_act_250 (by decide) rfl ?_
      refine g_goto X dL_act_251 255 (by decide) ?_
      refine g_widen 112 2380 (Nat.le_of_ble_eq_true rfl) (Nat.le_of_ble_eq_true rfl) ?_
      refine g_retW X hr (by first | rfl | exact b2i_nar _) dL_act_255 hAe ?_
      exact ⟨rfl, fA, naA, wA, td, vl, L, pt, fl, kd, kpA, pqA, ⟨⟨_, _, _, hWA⟩, ⟨_, hNRA, hn8A⟩, hFA, (SI_le (Nat.le_succ _) hSA), hL, hch, hkpA, _, hHLA⟩, hADA, rfl⟩
  · have i201 := nj_eq (a := mk) (b := 0) (by omega) (by omega) h201
    refine g_aload_n X dL_act_204 rfl 4 rfl rfl ?_
    refine g_iconst (v := (0 : Int32)) X dL_act_205 (by decide) rfl ?_
    refine g_callVXs (n := 1) (As := [_]) (rest := []) X hAg rfl (c_X6_takeBack l D a f na w td vl L pt fl kd kp pq ps mk n b hW hNR hF hkp hHL.hq _) gL_act_X6_takeBack rfl (by decide +kernel) ⟨Nat.le_of_ble_eq_true rfl, Nat.le_of_ble_eq_true rfl⟩ 20 rfl rfl rfl rfl (Nat.le_of_ble_eq_true rfl) dL_act_206 ⟨Nat.le_of_ble_eq_true rfl, Nat.le_of_ble_eq_true rfl⟩ rfl (fun v w9 hv => ?_)
    obtain ⟨rfl, fA, naA, wA, kpA, pqA, efA, hNA, hAA, hkpA, hHLA, ekA, rfl⟩ := ch_out hv hkp hHL hF ⟨_, hNR, hn8⟩
    have hADA := hAA
    refine ⟨hAA, ?_⟩
    refine g_st (st' := [_]) rfl ?_
    have hE5 : takeS f 0 = (-1, f) := take_1 (eN1.trans i201) rfl
    have hWA : WF fA mk n b := by rw [efA, hE5]; exact hW
    have hSA : SI cr fA := by rw [efA, hE5]; exact hS
    refine g_topi ((show (takeS f 0).1 = (-1 : Int32) from congrArg Prod.fst hE5)) ?_
    have hNRA := hNA.to hWA
    have hFA : FB fA := by rw [efA]; exact take_fb ⟨mk, n, b, hW⟩ hF
    obtain ⟨hmkA, hm40A, hn8A, hb0A, hb0A1, hb0A8, hn8Ab, hstA, hnoA, howA, hdoA, hb0Aa, hb0Ac, hb0Ad, hb0Az⟩ := id hWA
    have hm8A : n ≤ 8 := by omega
    obtain ⟨eN1A, eN2A, -⟩ := hWA.N
    refine g_iconst (v := ((-1) : Int32)) X dL_act_209 (by decide) rfl ?_
    refine g_icmp_ne X dL_act_210 217 (by decide) rfl (fun h210 => absurd h210 (by decide)) (fun h210 => ?_)
    refine g_iconst (v := (1 : Int32)) X dL_act_213 (by decide) rfl ?_
    refine g_goto X dL_act_214 218 (by decide) ?_
    refine g_widen 112 2380 (Nat.le_of_ble_eq_true rfl) (Nat.le_of_ble_eq_true rfl) ?_
    refine g_retW X hr (by first | rfl | exact b2i_nar _) dL_act_218 hAe ?_
    exact ⟨rfl, fA, naA, wA, td, vl, L, pt, fl, kd, kpA, pqA, ⟨⟨_, _, _, hWA⟩, ⟨_, hNRA, hn8A⟩, hFA, (SI_le (Nat.le_succ _) hSA), hL, hch, hkpA, _, hHLA⟩, hADA, rfl⟩

set_option maxHeartbeats 4000000 in
set_option maxRecDepth 100000 in
theorem c_act_stamp (l : Launch) (D : DT) (a : Nat → Nat) (f : Nat → Int32) (na : Nat → Nat → Int32) (w td vl : Nat → Int32) (L pt fl : Nat) (kd : Int32) (kp : Nat) (pq ps : Nat → Option HH) (mk n b : Nat) (hW : WF f mk n b) (hNR : NR f na n) (hF : FB f) (hkp : kp ≤ 6) (l9 : List (Nat → Int32)) (hHL : HL kp pq l9) (cr : Nat) (hcr : cr ≤ 1000) (hS : SI cr f) (hL : L ≤ 80) (hch : ∀ k, k < L → ∃ ch : Nat, ch < 256 ∧ td k = nI ch) (rt : Nat) (hrt : 1 ≤ rt ∧ rt ≤ 7) (pg : Nat) (hpg : pg < 12) (g : Nat) (hg : g < 6) (xw x y : Int32) {p : Program} {e : Env} {s : State} {m : MethodId} {below : List Frame} {meth : Method} {c : Code} {A : Nat → Prop} (hAe : A = va_A (wB D a f na w td vl L pt fl kd kp (fqa pq) (fqa ps) (tlW D pq ps)) s.heap.size) (hAg : ∀ q, s.heap.size ≤ q → A q) (X : GX p l e (wRoom 9 218 112 2380) s m ([.ref (a 19), .int (xw), .int (x), .int (y)] : List Value).toArray below meth c D A 15 cL_act yL_act.cls wsL_act) (hr : meth.sig.returnType = (some .boolean))  : GG p l e (wRoom 9 218 112 2380) s m ([.ref (a 19), .int (xw), .int (x), .int (y)] : List Value).toArray below meth c D A 15 false 0 0 (MQ below (wrQ D (wB D a f na w td vl L pt fl kd kp (fqa pq) (fqa ps) (tlW D pq ps)) s.heap.size (lwP D a ps (wB D a f na w td vl L pt fl kd kp (fqa pq) (fqa ps) (tlW D pq ps)) (cr + 1))) ([.ref (a 19), .int (xw), .int (x), .int (y)] : List Value).toArray s 112 2380 (va_A (wB D a f na w td vl L pt fl kd kp (fqa pq) (fqa ps) (tlW D pq ps)) s.heap.size)) (wB D a f na w td vl L pt fl kd kp (fqa pq) (fqa ps) (tlW D pq ps)) 272 [(7, .int (nI rt)), (6, .int (nI mk)), (5, .int (nI pg)), (4, .int (nI g)), (0, .ref (a 19)), (1, .int (xw)), (2, .int (x)), (3, .int (y))] [] := by
  obtain ⟨hmk, hm40, hn8, hb0, hb01, hb08, hn8b, hst, hno, how, hdo, hb0a, hb0c, hb0d, hb0z⟩ := id hW
  have hm8 : n ≤ 8 := by omega
  obtain ⟨eN1, eN2, -⟩ := hW.N
  refine g_iload_n X dL_act_272 rfl 7 rfl rfl ?_
  refine g_iconst (v := (4 : Int32)) X dL_act_273 (by decide) rfl ?_
  refine g_ishr X dL_act_274 rfl ?_
  refine g_bipush (v := (6 : Int32)) X dL_act_275 (by decide) rfl ?_
  refine g_callSR (n := 2) (As := [_, _]) (rest := []) X (c_L_up l D ((y >>> ((4 : Int32) &&& 31))) 6 (by omega)) gL_act_L_up rfl (by decide +kernel) ⟨Nat.le_of_ble_eq_true rfl, Nat.le_of_ble_eq_true rfl⟩ [] rfl rfl rfl rfl (Nat.le_of_ble_eq_true rfl) dL_act_277 ⟨Nat.le_of_ble_eq_true rfl, Nat.le_of_ble_eq_true rfl⟩ rfl (fun v hv => ?_)
  obtain rfl := hv
  refine g_st (st' := [_]) rfl ?_
  refine g_upn (by omega) (fun u277 hu277 eu277 => ?_)
  refine g_istore X [(8, _), (7, _), (6, _), (5, _), (4, _), (0, _), (1, _), (2, _), (3, _)] dL_act_280 (by decide) rfl rfl ?_
  refine g_aload_n X dL_act_282 rfl 5 rfl rfl ?_
  refine g_iload X dL_act_283 3 rfl rfl ?_
  refine g_iconst (v := (0 : Int32)) X dL_act_285 (by decide) rfl ?_
  refine g_callVRX (w0 := []) (n := 2) (As := [_, _]) (rest := []) X (c_X6_ofPage l D a f na w td vl L pt fl kd kp (fqa pq) (fqa ps) (tlW D pq ps) mk n b hW hNR _ _) gL_act_X6_ofPage rfl (by decide +kernel) ⟨Nat.le_of_ble_eq_true rfl, Nat.le_of_ble_eq_true rfl⟩ 20 rfl rfl rfl rfl rfl (Nat.le_of_ble_eq_true rfl) dL_act_286 ⟨Nat.le_of_ble_eq_true rfl, Nat.le_of_ble_eq_true rfl⟩ rfl (fun v hv => ?_)
  obtain rfl := hv
  refine g_st (st' := [_]) rfl ?_
  refine g_topi (oPg0 (p := pg) (by omega)) ?_
  rcases how pg hpg with e6 | ⟨og, hog, eg⟩
  · refine g_topi (e6) ?_
    refine g_istore X [(9, _), (8, _), (7, _), (6, _), (5, _), (4, _), (0, _), (1, _), (2, _), (3, _)] dL_act_289 (by decide) rfl rfl ?_
    refine g_iload X dL_act_291 0 rfl rfl ?_
    refine g_if_ge X dL_act_293 331 (by decide) rfl (fun h293 => absurd h293 (by decide)) (fun h293 => ?_)
    refine g_aload_n X dL_act_296 rfl 6 rfl rfl ?_
    refine g_iload X dL_act_297 5 rfl rfl ?_
    refine g_iload X dL_act_299 1 rfl rfl ?_
    refine g_iload X dL_act_301 4 rfl rfl ?_
    refine g_iload X dL_act_303 2 rfl rfl ?_
    rcases Nat.eq_or_lt_of_le hm40 with em40 | lm40
    · refine g_callVXs (n := 4) (As := [_, _, _, _]) (rest := []) X hAg rfl (c_X6_stamp l D a f na w td vl L pt fl kd kp pq ps mk n b hW hNR hF hkp hHL.hq _ _ _ _) gL_act_X6_stamp rfl (by decide +kernel) ⟨Nat.le_of_ble_eq_true rfl, Nat.le_of_ble_eq_true rfl⟩ 20 rfl rfl rfl rfl (Nat.le_of_ble_eq_true rfl) dL_act_305 ⟨Nat.le_of_ble_eq_true rfl, Nat.le_of_ble_eq_true rfl⟩ rfl (fun v w9 hv => ?_)
      obtain ⟨rfl, fA, naA, wA, kpA, pqA, efA, hNA, hAA, hkpA, hHLA, ekA, rfl⟩ := ch_out hv hkp hHL hF ⟨_, hNR, hn8⟩
      have hADA := hAA
      refine ⟨hAA, ?_⟩
      refine g_st (st' := [_]) rfl ?_
      have hE5 : stampS f (nI g) (nI u277) (nI pg) (nI rt) = (-4, f) := stamp_4 hW em40 hg (by omega) hpg hrt
      have hWA : WF fA mk n b := by rw [efA, hE5]; exact hW
      have hSA : SI cr fA := by rw [efA, hE5]; exact hS
      refine g_topi ((show (stampS f (nI g) (nI u277) (nI pg) (nI rt)).1 = (-4 : Int32) from congrArg Prod.fst hE5)) ?_
      have hNRA := hNA.to hWA
      have hFA : FB fA := by rw [efA]; exact stamp_fb hF
      obtain ⟨hmkA, hm40A, hn8A, hb0A, hb0A1, hb0A8, hn8Ab, hstA, hnoA, howA, hdoA, hb0Aa, hb0Ac, hb0Ad, hb0Az⟩ := id hWA
      have hm8A : n ≤ 8 := by omega
      obtain ⟨eN1A, eN2A, -⟩ := hWA.N
      refine g_iload X dL_act_308 3 rfl rfl ?_
      refine g_bipush (v := (40 : Int32)) X dL_act_310 (by decide) rfl ?_
      refine g_icmp_ne X dL_act_312 320 (by decide) rfl (fun h312 => absurd (nj_ne (a := mk) (b := 40) (by omega) (by omega) h312) (by omega)) (fun h312 => ?_)
      have i312 := nj_eq (a := mk) (b := 40) (by omega) (by omega) h312
      refine g_bipush (v := ((-4) : Int32)) X dL_act_315 (by decide) rfl ?_
      refine g_goto X dL_act_317 322 (by decide) ?_
      refine g_icmp_ne X dL_act_322 329 (by decide) rfl (fun h322 => absurd h322 (by decide)) (fun h322 => ?_)
      refine g_iconst (v := (1 : Int32)) X dL_act_325 (by decide) rfl ?_
      refine g_goto X dL_act_326 330 (by decide) ?_
      refine g_widen 112 2380 (Nat.le_of_ble_eq_true rfl) (Nat.le_of_ble_eq_true rfl) ?_
      refine g_retW X hr (by first | rfl | exact b2i_nar _) dL_act_330 hAe ?_
      exact ⟨rfl, fA, naA, wA, td, vl, L, pt, fl, kd, kpA, pqA, ⟨⟨_, _, _, hWA⟩, ⟨_, hNRA, hn8A⟩, hFA, (SI_le (Nat.le_succ _) hSA), hL, hch, hkpA, _, hHLA⟩, hADA, rfl⟩
    · refine g_callVXs (n := 4) (As := [_, _, _, _]) (rest := []) X hAg rfl (c_X6_stamp l D a f na w td vl L pt fl kd kp pq ps mk n b hW hNR hF hkp hHL.hq _ _ _ _) gL_act_X6_stamp rfl (by decide +kernel) ⟨Nat.le_of_ble_eq_true rfl, Nat.le_of_ble_eq_true rfl⟩ 20 rfl rfl rfl rfl (Nat.le_of_ble_eq_true rfl) dL_act_305 ⟨Nat.le_of_ble_eq_true rfl, Nat.le_of_ble_eq_true rfl⟩ rfl (fun v w9 hv => ?_)
      obtain ⟨rfl, fA, naA, wA, kpA, pqA, efA, hNA, hAA, hkpA, hHLA, ekA, rfl⟩ := ch_out hv hkp hHL hF ⟨_, hNR, hn8⟩
      have hADA := hAA
      refine ⟨hAA, ?_⟩
      refine g_st (st' := [_]) rfl ?_
      have hE5 : stampS f (nI g) (nI u277) (nI pg) (nI rt) = (-5, f) := stamp_5 hW lm40 hg (by omega) hpg hrt (fun z => absurd neg6 (by rw [e6.symm.trans z]; exact nI_pos (by omega)))
      have hWA : WF fA mk n b := by rw [efA, hE5]; exact hW
      have hSA : SI cr fA := by rw [efA, hE5]; exact hS
      refine g_topi ((show (stampS f (nI g) (nI u277) (nI pg) (nI rt)).1 = (-5 : Int32) from congrArg Prod.fst hE5)) ?_
      have hNRA := hNA.to hWA
      have hFA : FB fA := by rw [efA]; exact stamp_fb hF
      obtain ⟨hmkA, hm40A, hn8A, hb0A, hb0A1, hb0A8, hn8Ab, hstA, hnoA, howA, hdoA, hb0Aa, hb0Ac, hb0Ad, hb0Az⟩ := id hWA
      have hm8A : n ≤ 8 := by omega
      obtain ⟨eN1A, eN2A, -⟩ := hWA.N
      refine g_iload X dL_act_308 3 rfl rfl ?_
      refine g_bipush (v := (40 : Int32)) X dL_act_310 (by decide) rfl ?_
      refine g_icmp_ne X dL_act_312 320 (by decide) rfl (fun h312 => ?_) (fun h312 => absurd (nj_eq (a := mk) (b := 40) (by omega) (by omega) h312) (by omega))
      have i312 := nj_ne (a := mk) (b := 40) (by omega) (by omega) h312
      refine g_bipush (v := ((-5) : Int32)) X dL_act_320 (by decide) rfl ?_
      refine g_icmp_ne X dL_act_322 329 (by decide) rfl (fun h322 => absurd h322 (by decide)) (fun h322 => ?_)
      refine g_iconst (v := (1 : Int32)) X dL_act_325 (by decide) rfl ?_
      refine g_goto X dL_act_326 330 (by decide) ?_
      refine g_widen 112 2380 (Nat.le_of_ble_eq_true rfl) (Nat.le_of_ble_eq_true rfl) ?_
      refine g_retW X hr (by first | rfl | exact b2i_nar _) dL_act_330 hAe ?_
      exact ⟨rfl, fA, naA, wA, td, vl, L, pt, fl, kd, kpA, pqA, ⟨⟨_, _, _, hWA⟩, ⟨_, hNRA, hn8A⟩, hFA, (SI_le (Nat.le_succ _) hSA), hL, hch, hkpA, _, hHLA⟩, hADA, rfl⟩
  · refine g_topi (eg) ?_
    refine g_istore X [(9, _), (8, _), (7, _), (6, _), (5, _), (4, _), (0, _), (1, _), (2, _), (3, _)] dL_act_289 (by decide) rfl rfl ?_
    refine g_iload X dL_act_291 0 rfl rfl ?_
    refine g_if_ge X dL_act_293 331 (by decide) rfl (fun h293 => ?_) (fun h293 => absurd (nI_ge0 (by omega)) h293)
    have i293 := nj_le (a := 0) (b := og) (by omega) (by omega) h293
    refine g_iload X dL_act_331 3 rfl rfl ?_
    refine g_bipush (v := (40 : Int32)) X dL_act_333 (by decide) rfl ?_
    refine g_icmp_ne X dL_act_335 361 (by decide) rfl (fun h335 => ?_) (fun h335 => ?_)
    · have i335 := nj_ne (a := mk) (b := 40) (by omega) (by omega) h335
      refine g_iload_n X dL_act_361 rfl 8 rfl rfl ?_
      refine g_bipush (v := (9 : Int32)) X dL_act_362 (by decide) rfl ?_
      refine g_ishr X dL_act_364 rfl ?_
      refine g_iconst (v := (5 : Int32)) X dL_act_365 (by decide) rfl ?_
      refine g_callSR (n := 2) (As := [_, _]) (rest := []) X (c_L_up l D ((x >>> ((9 : Int32) &&& 31))) 5 (by omega)) gL_act_L_up rfl (by decide +kernel) ⟨Nat.le_of_ble_eq_true rfl, Nat.le_of_ble_eq_true rfl⟩ [] rfl rfl rfl rfl (Nat.le_of_ble_eq_true rfl) dL_act_366 ⟨Nat.le_of_ble_eq_true rfl, Nat.le_of_ble_eq_true rfl⟩ rfl (fun v hv => ?_)
      obtain rfl := hv
      refine g_st (st' := [_]) rfl ?_
      refine g_upn (by omega) (fun u366 hu366 eu366 => ?_)
      refine g_if_ne X dL_act_369 402 (by decide) rfl (fun h369 => ?_) (fun h369 => ?_)
      · have i369 := nj_ne (a := u366) (b := 0) (by omega) (by omega) h369
        refine g_aload_n X dL_act_402 rfl 6 rfl rfl ?_
        refine g_iload X dL_act_403 0 rfl rfl ?_
        refine g_iload X dL_act_405 1 rfl rfl ?_
        refine g_iload X dL_act_407 4 rfl rfl ?_
        refine g_iload X dL_act_409 2 rfl rfl ?_
        refine g_callVXs (n := 4) (As := [_, _, _, _]) (rest := []) X hAg rfl (c_X6_stamp l D a f na w td vl L pt fl kd kp pq ps mk n b hW hNR hF hkp hHL.hq _ _ _ _) gL_act_X6_stamp rfl (by decide +kernel) ⟨Nat.le_of_ble_eq_true rfl, Nat.le_of_ble_eq_true rfl⟩ 20 rfl rfl rfl rfl (Nat.le_of_ble_eq_true rfl) dL_act_411 ⟨Nat.le_of_ble_eq_true rfl, Nat.le_of_ble_eq_true rfl⟩ rfl (fun v w9 hv => ?_)
        obtain ⟨rfl, fA, naA, wA, kpA, pqA, efA, hNA, hAA, hkpA, hHLA, ekA, rfl⟩ := ch_out hv hkp hHL hF ⟨_, hNR, hn8⟩
        have hADA := hAA
        refine ⟨hAA, ?_⟩
        refine g_st (st' := [_]) rfl ?_
        obtain ⟨hrx, hWA, hSA, ⟨k0, k1, k2, k3, k4, k5, k6⟩, hgA⟩ := stamp_chg hW hS (by omega) hog (by omega) hpg hrt eg efA
        refine g_topi (hrx) ?_
        have hNRA := hNA.to hWA
        have hFA : FB fA := by rw [efA]; exact stamp_fb hF
        obtain ⟨hmkA, hm40A, hn8A, hb0A, hb0A1, hb0A8, hn8Ab, hstA, hnoA, howA, hdoA, hb0Aa, hb0Ac, hb0Ad, hb0Az⟩ := id hWA
        have hm8A : n ≤ 8 := by omega
        obtain ⟨eN1A, eN2A, -⟩ := hWA.N
        refine g_iload X dL_act_414 3 rfl rfl ?_
        refine g_icmp_ne X dL_act_416 443 (by decide) rfl (fun h416 => absurd rfl h416) (fun h416 => ?_)
        refine g_aload_n X dL_act_419 rfl 6 rfl rfl ?_
        refine g_iload X dL_act_420 3 rfl rfl ?_
        refine g_iload X dL_act_422 4 rfl rfl ?_
        refine g_iload X dL_act_424 0 rfl rfl ?_
        refine g_iload X dL_act_426 1 rfl rfl ?_
        refine g_iload X dL_act_428 2 rfl rfl ?_
        refine g_bipush (v := ((-6) : Int32)) X dL_act_430 (by decide) rfl ?_
        refine g_iconst (v := (0 : Int32)) X dL_act_432 (by decide) rfl ?_
        refine g_callSRX (w0 := []) (n := 8) (As := [_, _, _, _, _, _, _, _]) (rest := []) X (c_L_made l D a fA naA wA td vl L pt fl kd kpA (fqa pqA) (fqa ps) (tlW D pqA ps) (mk + 1) n b hWA hNRA mk (by omega) rfl (nI pg) (nI og) (nI u277) (nI rt) ((-6 : Int32)) ((0 : Int32)) k0 k1 k2 k3 k4 k5 k6 (by rw [hgA]; rfl)) gL_act_L_made rfl (by decide +kernel) ⟨Nat.le_of_ble_eq_true rfl, Nat.le_of_ble_eq_true rfl⟩ rfl rfl rfl (Nat.le_of_ble_eq_true rfl) dL_act_433 ⟨Nat.le_of_ble_eq_true rfl, Nat.le_of_ble_eq_true rfl⟩ rfl (fun v hv => ?_)
        obtain rfl := hv
        refine g_st (st' := [_]) rfl ?_
        refine g_if_eq X dL_act_436 443 (by decide) rfl (fun h436 => absurd h436 (by decide)) (fun h436 => ?_)
        refine g_iconst (v := (1 : Int32)) X dL_act_439 (by decide) rfl ?_
        refine g_goto X dL_act_440 444 (by decide) ?_
        refine g_widen 112 2380 (Nat.le_of_ble_eq_true rfl) (Nat.le_of_ble_eq_true rfl) ?_
        refine g_retW X hr (by first | rfl | exact b2i_nar _) dL_act_444 hAe ?_
        exact ⟨rfl, fA, naA, wA, td, vl, L, pt, fl, kd, kpA, pqA, ⟨⟨_, _, _, hWA⟩, ⟨_, hNRA, hn8A⟩, hFA, (SI_le (Nat.le_succ _) hSA), hL, hch, hkpA, _, hHLA⟩, hADA, rfl⟩
      · have i369 := nj_eq (a := u366) (b := 0) (by omega) (by omega) h369
        refine g_iload X dL_act_372 5 rfl rfl ?_
        refine g_iload X dL_act_374 0 rfl rfl ?_
        refine g_icmp_eq X dL_act_376 402 (by decide) rfl (fun h376 => ?_) (fun h376 => ?_)
        · have i376 := nj_eq (a := g) (b := og) (by omega) (by omega) h376
          refine g_aload_n X dL_act_402 rfl 6 rfl rfl ?_
          refine g_iload X dL_act_403 0 rfl rfl ?_
          refine g_iload X dL_act_405 1 rfl rfl ?_
          refine g_iload X dL_act_407 4 rfl rfl ?_
          refine g_iload X dL_act_409 2 rfl rfl ?_
          refine g_callVXs (n := 4) (As := [_, _, _, _]) (rest := []) X hAg rfl (c_X6_stamp l D a f na w td vl L pt fl kd kp pq ps mk n b hW hNR hF hkp hHL.hq _ _ _ _) gL_act_X6_stamp rfl (by decide +kernel) ⟨Nat.le_of_ble_eq_true rfl, Nat.le_of_ble_eq_true rfl⟩ 20 rfl rfl rfl rfl (Nat.le_of_ble_eq_true rfl) dL_act_411 ⟨Nat.le_of_ble_eq_true rfl, Nat.le_of_ble_eq_true rfl⟩ rfl (fun v w9 hv => ?_)
          obtain ⟨rfl, fA, naA, wA, kpA, pqA, efA, hNA, hAA, hkpA, hHLA, ekA, rfl⟩ := ch_out hv hkp hHL hF ⟨_, hNR, hn8⟩
          have hADA := hAA
          refine ⟨hAA, ?_⟩
          refine g_st (st' := [_]) rfl ?_
          obtain ⟨hrx, hWA, hSA, ⟨k0, k1, k2, k3, k4, k5, k6⟩, hgA⟩ := stamp_chg hW hS (by omega) hog (by omega) hpg hrt eg efA
          refine g_topi (hrx) ?_
          have hNRA := hNA.to hWA
          have hFA : FB fA := by rw [efA]; exact stamp_fb hF
          obtain ⟨hmkA, hm40A, hn8A, hb0A, hb0A1, hb0A8, hn8Ab, hstA, hnoA, howA, hdoA, hb0Aa, hb0Ac, hb0Ad, hb0Az⟩ := id hWA
          have hm8A : n ≤ 8 := by omega
          obtain ⟨eN1A, eN2A, -⟩ := hWA.N
          refine g_iload X dL_act_414 3 rfl rfl ?_
          refine g_icmp_ne X dL_act_416 443 (by decide) rfl (fun h416 => absurd rfl h416) (fun h416 => ?_)
          refine g_aload_n X dL_act_419 rfl 6 rfl rfl ?_
          refine g_iload X dL_act_420 3 rfl rfl ?_
          refine g_iload X dL_act_422 4 rfl rfl ?_
          refine g_iload X dL_act_424 0 rfl rfl ?_
          refine g_iload X dL_act_426 1 rfl rfl ?_
          refine g_iload X dL_act_428 2 rfl rfl ?_
          refine g_bipush (v := ((-6) : Int32)) X dL_act_430 (by decide) rfl ?_
          refine g_iconst (v := (0 : Int32)) X dL_act_432 (by decide) rfl ?_
          refine g_callSRX (w0 := []) (n := 8) (As := [_, _, _, _, _, _, _, _]) (rest := []) X (c_L_made l D a fA naA wA td vl L pt fl kd kpA (fqa pqA) (fqa ps) (tlW D pqA ps) (mk + 1) n b hWA hNRA mk (by omega) rfl (nI pg) (nI og) (nI u277) (nI rt) ((-6 : Int32)) ((0 : Int32)) k0 k1 k2 k3 k4 k5 k6 (by rw [hgA]; rfl)) gL_act_L_made rfl (by decide +kernel) ⟨Nat.le_of_ble_eq_true rfl, Nat.le_of_ble_eq_true rfl⟩ rfl rfl rfl (Nat.le_of_ble_eq_true rfl) dL_act_433 ⟨Nat.le_of_ble_eq_true rfl, Nat.le_of_ble_eq_true rfl⟩ rfl (fun v hv => ?_)
          obtain rfl := hv
          refine g_st (st' := [_]) rfl ?_
          refine g_if_eq X dL_act_436 443 (by decide) rfl (fun h436 => absurd h436 (by decide)) (fun h436 => ?_)
          refine g_iconst (v := (1 : Int32)) X dL_act_439 (by decide) rfl ?_
          refine g_goto X dL_act_440 444 (by decide) ?_
          refine g_widen 112 2380 (Nat.le_of_ble_eq_true rfl) (Nat.le_of_ble_eq_true rfl) ?_
          refine g_retW X hr (by first | rfl | exact b2i_nar _) dL_act_444 hAe ?_
          exact ⟨rfl, fA, naA, wA, td, vl, L, pt, fl, kd, kpA, pqA, ⟨⟨_, _, _, hWA⟩, ⟨_, hNRA, hn8A⟩, hFA, (SI_le (Nat.le_succ _) hSA), hL, hch, hkpA, _, hHLA⟩, hADA, rfl⟩
        · have i376 := nj_ne (a := g) (b := og) (by omega) (by omega) h376
          refine g_aload_n X dL_act_379 rfl 6 rfl rfl ?_
          refine g_iload X dL_act_380 5 rfl rfl ?_
          refine g_iload X dL_act_382 1 rfl rfl ?_
          refine g_iload X dL_act_384 4 rfl rfl ?_
          refine g_iload X dL_act_386 2 rfl rfl ?_
          refine g_callVXs (n := 4) (As := [_, _, _, _]) (rest := []) X hAg rfl (c_X6_stamp l D a f na w td vl L pt fl kd kp pq ps mk n b hW hNR hF hkp hHL.hq _ _ _ _) gL_act_X6_stamp rfl (by decide +kernel) ⟨Nat.le_of_ble_eq_true rfl, Nat.le_of_ble_eq_true rfl⟩ 20 rfl rfl rfl rfl (Nat.le_of_ble_eq_true rfl) dL_act_388 ⟨Nat.le_of_ble_eq_true rfl, Nat.le_of_ble_eq_true rfl⟩ rfl (fun v w9 hv => ?_)
          obtain ⟨rfl, fA, naA, wA, kpA, pqA, efA, hNA, hAA, hkpA, hHLA, ekA, rfl⟩ := ch_out hv hkp hHL hF ⟨_, hNR, hn8⟩
          have hADA := hAA
          refine ⟨hAA, ?_⟩
          refine g_st (st' := [_]) rfl ?_
          have hE5 : stampS f (nI g) (nI u277) (nI pg) (nI rt) = (-5, f) := stamp_5 hW (by omega) hg (by omega) hpg hrt (fun z => i376 (nj_eq (by omega) (by omega) (z.symm.trans eg)))
          have hWA : WF fA mk n b := by rw [efA, hE5]; exact hW
          have hSA : SI cr fA := by rw [efA, hE5]; exact hS
          refine g_topi ((show (stampS f (nI g) (nI u277) (nI pg) (nI rt)).1 = (-5 : Int32) from congrArg Prod.fst hE5)) ?_
          have hNRA := hNA.to hWA
          have hFA : FB fA := by rw [efA]; exact stamp_fb hF
          obtain ⟨hmkA, hm40A, hn8A, hb0A, hb0A1, hb0A8, hn8Ab, hstA, hnoA, howA, hdoA, hb0Aa, hb0Ac, hb0Ad, hb0Az⟩ := id hWA
          have hm8A : n ≤ 8 := by omega
          obtain ⟨eN1A, eN2A, -⟩ := hWA.N
          refine g_bipush (v := ((-5) : Int32)) X dL_act_391 (by decide) rfl ?_
          refine g_icmp_ne X dL_act_393 400 (by decide) rfl (fun h393 => absurd h393 (by decide)) (fun h393 => ?_)
          refine g_iconst (v := (1 : Int32)) X dL_act_396 (by decide) rfl ?_
          refine g_goto X dL_act_397 401 (by decide) ?_
          refine g_widen 112 2380 (Nat.le_of_ble_eq_true rfl) (Nat.le_of_ble_eq_true rfl) ?_
          refine g_retW X hr (by first | rfl | exact b2i_nar _) dL_act_401 hAe ?_
          exact ⟨rfl, fA, naA, wA, td, vl, L, pt, fl, kd, kpA, pqA, ⟨⟨_, _, _, hWA⟩, ⟨_, hNRA, hn8A⟩, hFA, (SI_le (Nat.le_succ _) hSA), hL, hch, hkpA, _, hHLA⟩, hADA, rfl⟩
    · have i335 := nj_eq (a := mk) (b := 40) (by omega) (by omega) h335
      refine g_aload_n X dL_act_338 rfl 6 rfl rfl ?_
      refine g_iload X dL_act_339 0 rfl rfl ?_
      refine g_iload X dL_act_341 1 rfl rfl ?_
      refine g_iload X dL_act_343 4 rfl rfl ?_
      refine g_iload X dL_act_345 2 rfl rfl ?_
      refine g_callVXs (n := 4) (As := [_, _, _, _]) (rest := []) X hAg rfl (c_X6_stamp l D a f na w td vl L pt fl kd kp pq ps mk n b hW hNR hF hkp hHL.hq _ _ _ _) gL_act_X6_stamp rfl (by decide +kernel) ⟨Nat.le_of_ble_eq_true rfl, Nat.le_of_ble_eq_true rfl⟩ 20 rfl rfl rfl rfl (Nat.le_of_ble_eq_true rfl) dL_act_347 ⟨Nat.le_of_ble_eq_true rfl, Nat.le_of_ble_eq_true rfl⟩ rfl (fun v w9 hv => ?_)
      obtain ⟨rfl, fA, naA, wA, kpA, pqA, efA, hNA, hAA, hkpA, hHLA, ekA, rfl⟩ := ch_out hv hkp hHL hF ⟨_, hNR, hn8⟩
      have hADA := hAA
      refine ⟨hAA, ?_⟩
      refine g_st (st' := [_]) rfl ?_
      have hE5 : stampS f (nI og) (nI u277) (nI pg) (nI rt) = (-4, f) := stamp_4 hW i335 hog (by omega) hpg hrt
      have hWA : WF fA mk n b := by rw [efA, hE5]; exact hW
      have hSA : SI cr fA := by rw [efA, hE5]; exact hS
      refine g_topi ((show (stampS f (nI og) (nI u277) (nI pg) (nI rt)).1 = (-4 : Int32) from congrArg Prod.fst hE5)) ?_
      have hNRA := hNA.to hWA
      have hFA : FB fA := by rw [efA]; exact stamp_fb hF
      obtain ⟨hmkA, hm40A, hn8A, hb0A, hb0A1, hb0A8, hn8Ab, hstA, hnoA, howA, hdoA, hb0Aa, hb0Ac, hb0Ad, hb0Az⟩ := id hWA
      have hm8A : n ≤ 8 := by omega
      obtain ⟨eN1A, eN2A, -⟩ := hWA.N
      refine g_bipush (v := ((-4) : Int32)) X dL_act_350 (by decide) rfl ?_
      refine g_icmp_ne X dL_act_352 359 (by decide) rfl (fun h352 => absurd h352 (by decide)) (fun h352 => ?_)
      refine g_iconst (v := (1 : Int32)) X dL_act_355 (by decide) rfl ?_
      refine g_goto X dL_act_356 360 (by decide) ?_
      refine g_widen 112 2380 (Nat.le_of_ble_eq_true rfl) (Nat.le_of_ble_eq_true rfl) ?_
      refine g_retW X hr (by first | rfl | exact b2i_nar _) dL_act_360 hAe ?_
      exact ⟨rfl, fA, naA, wA, td, vl, L, pt, fl, kd, kpA, pqA, ⟨⟨_, _, _, hWA⟩, ⟨_, hNRA, hn8A⟩, hFA, (SI_le (Nat.le_succ _) hSA), hL, hch, hkpA, _, hHLA⟩, hADA, rfl⟩

set_option maxHeartbeats 4000000 in
set_option maxRecDepth 100000 in
theorem c_act_pass (l : Launch) (D : DT) (a : Nat → Nat) (f : Nat → Int32) (na : Nat → Nat → Int32) (w td vl : Nat → Int32) (L pt fl : Nat) (kd : Int32) (kp : Nat) (pq ps : Nat → Option HH) (mk n b : Nat) (hW : WF f mk n b) (hNR : NR f na n) (hF : FB f) (hkp : kp ≤ 6) (l9 : List (Nat → Int32)) (hHL : HL kp pq l9) (cr : Nat) (hcr : cr ≤ 1000) (hS : SI cr f) (hL : L ≤ 80) (hch : ∀ k, k < L → ∃ ch : Nat, ch < 256 ∧ td k = nI ch) (rt : Nat) (hrt : 1 ≤ rt ∧ rt ≤ 7) (pg : Nat) (hpg : pg < 12) (g : Nat) (hg : g < 6) (xw x y : Int32) {p : Program} {e : Env} {s : State} {m : MethodId} {below : List Frame} {meth : Method} {c : Code} {A : Nat → Prop} (hAe : A = va_A (wB D a f na w td vl L pt fl kd kp (fqa pq) (fqa ps) (tlW D pq ps)) s.heap.size) (hAg : ∀ q, s.heap.size ≤ q → A q) (X : GX p l e (wRoom 9 218 112 2380) s m ([.ref (a 19), .int (xw), .int (x), .int (y)] : List Value).toArray below meth c D A 15 cL_act yL_act.cls wsL_act) (hr : meth.sig.returnType = (some .boolean))  : GG p l e (wRoom 9 218 112 2380) s m ([.ref (a 19), .int (xw), .int (x), .int (y)] : List Value).toArray below meth c D A 15 false 0 0 (MQ below (wrQ D (wB D a f na w td vl L pt fl kd kp (fqa pq) (fqa ps) (tlW D pq ps)) s.heap.size (lwP D a ps (wB D a f na w td vl L pt fl kd kp (fqa pq) (fqa ps) (tlW D pq ps)) (cr + 1))) ([.ref (a 19), .int (xw), .int (x), .int (y)] : List Value).toArray s 112 2380 (va_A (wB D a f na w td vl L pt fl kd kp (fqa pq) (fqa ps) (tlW D pq ps)) s.heap.size)) (wB D a f na w td vl L pt fl kd kp (fqa pq) (fqa ps) (tlW D pq ps)) 445 [(7, .int (nI rt)), (6, .int (nI mk)), (5, .int (nI pg)), (4, .int (nI g)), (0, .ref (a 19)), (1, .int (xw)), (2, .int (x)), (3, .int (y))] [] := by
  obtain ⟨hmk, hm40, hn8, hb0, hb01, hb08, hn8b, hst, hno, how, hdo, hb0a, hb0c, hb0d, hb0z⟩ := id hW
  have hm8 : n ≤ 8 := by omega
  obtain ⟨eN1, eN2, -⟩ := hW.N
  refine g_iload X dL_act_445 1 rfl rfl ?_
  refine g_if_ne X dL_act_447 468 (by decide) rfl (fun h447 => ?_) (fun h447 => ?_)
  · have i447 := nj_ne (a := mk) (b := 0) (by omega) (by omega) h447
    refine g_iload_n X dL_act_468 rfl 6 rfl rfl ?_
    refine g_iconst (v := (3 : Int32)) X dL_act_469 (by decide) rfl ?_
    refine g_ishr X dL_act_470 rfl ?_
    refine g_iload X dL_act_471 1 rfl rfl ?_
    refine g_callSR (n := 2) (As := [_, _]) (rest := []) X (c_L_up l D ((x >>> ((3 : Int32) &&& 31))) mk (by omega)) gL_act_L_up rfl (by decide +kernel) ⟨Nat.le_of_ble_eq_true rfl, Nat.le_of_ble_eq_true rfl⟩ [] rfl rfl rfl rfl (Nat.le_of_ble_eq_true rfl) dL_act_473 ⟨Nat.le_of_ble_eq_true rfl, Nat.le_of_ble_eq_true rfl⟩ rfl (fun v hv => ?_)
    obtain rfl := hv
    refine g_st (st' := [_]) rfl ?_
    refine g_upn (by omega) (fun u473 hu473 eu473 => ?_)
    refine g_istore X [(8, _), (7, _), (6, _), (5, _), (4, _), (0, _), (1, _), (2, _), (3, _)] dL_act_476 (by decide) rfl rfl ?_
    refine g_aload_n X dL_act_478 rfl 5 rfl rfl ?_
    refine g_iload X dL_act_479 0 rfl rfl ?_
    refine g_iconst (v := (3 : Int32)) X dL_act_481 (by decide) rfl ?_
    refine g_callVRX (w0 := []) (n := 2) (As := [_, _]) (rest := []) X (c_X6_ofStamp l D a f na w td vl L pt fl kd kp (fqa pq) (fqa ps) (tlW D pq ps) mk n b hW hNR _ _) gL_act_X6_ofStamp rfl (by decide +kernel) ⟨Nat.le_of_ble_eq_true rfl, Nat.le_of_ble_eq_true rfl⟩ 20 rfl rfl rfl rfl rfl (Nat.le_of_ble_eq_true rfl) dL_act_482 ⟨Nat.le_of_ble_eq_true rfl, Nat.le_of_ble_eq_true rfl⟩ rfl (fun v hv => ?_)
    obtain rfl := hv
    refine g_st (st' := [_]) rfl ?_
    refine g_topi (oSt (q := u473) 3 eN1 (by omega) hm40 rfl (by decide)) ?_
    obtain ⟨-, -, -, ⟨rb, hrb, erb⟩, -, -, -⟩ := id (hst u473 hu473)
    refine g_topi (erb) ?_
    refine g_istore X [(9, _), (8, _), (7, _), (6, _), (5, _), (4, _), (0, _), (1, _), (2, _), (3, _)] dL_act_485 (by decide) rfl rfl ?_
    refine g_aload_n X dL_act_487 rfl 6 rfl rfl ?_
    refine g_iload X dL_act_488 1 rfl rfl ?_
    refine g_callSRX (w0 := []) (n := 2) (As := [_, _]) (rest := []) X (c_L_good l D a f na w td vl L pt fl kd kp (fqa pq) (fqa ps) (tlW D pq ps) mk n b hW hNR u473 (by omega)) gL_act_L_good rfl (by decide +kernel) ⟨Nat.le_of_ble_eq_true rfl, Nat.le_of_ble_eq_true rfl⟩ rfl rfl rfl (Nat.le_of_ble_eq_true rfl) dL_act_490 ⟨Nat.le_of_ble_eq_true rfl, Nat.le_of_ble_eq_true rfl⟩ rfl (fun v hv => ?_)
    obtain rfl := hv
    refine g_st (st' := [_]) rfl ?_
    refine g_if_eq X dL_act_493 516 (by decide) rfl (fun h493 => ?_) (fun h493 => ?_)
    · replace h493 := b2i_0 h493
      refine g_iconst (v := (0 : Int32)) X dL_act_516 (by decide) rfl ?_
      refine g_istore X [(10, _), (9, _), (8, _), (7, _), (6, _), (5, _), (4, _), (0, _), (1, _), (2, _), (3, _)] dL_act_517 (by decide) rfl rfl ?_
      refine g_iload X dL_act_519 4 rfl rfl ?_
      refine g_bipush (v := (40 : Int32)) X dL_act_521 (by decide) rfl ?_
      refine g_icmp_ne X dL_act_523 547 (by decide) rfl (fun h523 => ?_) (fun h523 => ?_)
      · have i523 := nj_ne (a := mk) (b := 40) (by omega) (by omega) h523
        refine g_iload X dL_act_547 0 rfl rfl ?_
        refine g_if_ne X dL_act_549 573 (by decide) rfl (fun h549 => absurd h549 (by decide)) (fun h549 => ?_)
        refine g_aload_n X dL_act_552 rfl 7 rfl rfl ?_
        refine g_iload X dL_act_553 2 rfl rfl ?_
        refine g_iload X dL_act_555 6 rfl rfl ?_
        refine g_iload X dL_act_557 3 rfl rfl ?_
        refine g_callVXs (n := 3) (As := [_, _, _]) (rest := []) X hAg rfl (c_X6_pass l D a f na w td vl L pt fl kd kp pq ps mk n b hW hNR hF hkp hHL.hq _ _ _) gL_act_X6_pass rfl (by decide +kernel) ⟨Nat.le_of_ble_eq_true rfl, Nat.le_of_ble_eq_true rfl⟩ 20 rfl rfl rfl rfl (Nat.le_of_ble_eq_true rfl) dL_act_559 ⟨Nat.le_of_ble_eq_true rfl, Nat.le_of_ble_eq_true rfl⟩ rfl (fun v w9 hv => ?_)
        obtain ⟨rfl, fA, naA, wA, kpA, pqA, efA, hNA, hAA, hkpA, hHLA, ekA, rfl⟩ := ch_out hv hkp hHL hF ⟨_, hNR, hn8⟩
        have hADA := hAA
        refine ⟨hAA, ?_⟩
        refine g_st (st' := [_]) rfl ?_
        have hE5 : passS f (nI u473) (nI g) (nI rt) = (-5, f) := pass_5 hW (by omega) hu473 hg hrt erb hrb (Or.inl h493)
        have hWA : WF fA mk n b := by rw [efA, hE5]; exact hW
        have hSA : SI cr fA := by rw [efA, hE5]; exact hS
        refine g_topi ((show (passS f (nI u473) (nI g) (nI rt)).1 = (-5 : Int32) from congrArg Prod.fst hE5)) ?_
        have hNRA := hNA.to hWA
        have hFA : FB fA := by rw [efA]; exact pass_fb hF
        obtain ⟨hmkA, hm40A, hn8A, hb0A, hb0A1, hb0A8, hn8Ab, hstA, hnoA, howA, hdoA, hb0Aa, hb0Ac, hb0Ad, hb0Az⟩ := id hWA
        have hm8A : n ≤ 8 := by omega
        obtain ⟨eN1A, eN2A, -⟩ := hWA.N
        refine g_bipush (v := ((-5) : Int32)) X dL_act_562 (by decide) rfl ?_
        refine g_icmp_ne X dL_act_564 571 (by decide) rfl (fun h564 => absurd h564 (by decide)) (fun h564 => ?_)
        refine g_iconst (v := (1 : Int32)) X dL_act_567 (by decide) rfl ?_
        refine g_goto X dL_act_568 572 (by decide) ?_
        refine g_widen 112 2380 (Nat.le_of_ble_eq_true rfl) (Nat.le_of_ble_eq_true rfl) ?_
        refine g_retW X hr (by first | rfl | exact b2i_nar _) dL_act_572 hAe ?_
        exact ⟨rfl, fA, naA, wA, td, vl, L, pt, fl, kd, kpA, pqA, ⟨⟨_, _, _, hWA⟩, ⟨_, hNRA, hn8A⟩, hFA, (SI_le (Nat.le_succ _) hSA), hL, hch, hkpA, _, hHLA⟩, hADA, rfl⟩
      · have i523 := nj_eq (a := mk) (b := 40) (by omega) (by omega) h523
        refine g_aload_n X dL_act_526 rfl 7 rfl rfl ?_
        refine g_iload X dL_act_527 2 rfl rfl ?_
        refine g_iload X dL_act_529 6 rfl rfl ?_
        refine g_iload X dL_act_531 3 rfl rfl ?_
        refine g_callVXs (n := 3) (As := [_, _, _]) (rest := []) X hAg rfl (c_X6_pass l D a f na w td vl L pt fl kd kp pq ps mk n b hW hNR hF hkp hHL.hq _ _ _) gL_act_X6_pass rfl (by decide +kernel) ⟨Nat.le_of_ble_eq_true rfl, Nat.le_of_ble_eq_true rfl⟩ 20 rfl rfl rfl rfl (Nat.le_of_ble_eq_true rfl) dL_act_533 ⟨Nat.le_of_ble_eq_true rfl, Nat.le_of_ble_eq_true rfl⟩ rfl (fun v w9 hv => ?_)
        obtain ⟨rfl, fA, naA, wA, kpA, pqA, efA, hNA, hAA, hkpA, hHLA, ekA, rfl⟩ := ch_out hv hkp hHL hF ⟨_, hNR, hn8⟩
        have hADA := hAA
        refine ⟨hAA, ?_⟩
        refine g_st (st' := [_]) rfl ?_
        have hE5 : passS f (nI u473) (nI g) (nI rt) = (-4, f) := pass_4 hW i523 hu473 hg hrt
        have hWA : WF fA mk n b := by rw [efA, hE5]; exact hW
        have hSA : SI cr fA := by rw [efA, hE5]; exact hS
        refine g_topi ((show (passS f (nI u473) (nI g) (nI rt)).1 = (-4 : Int32) from congrArg Prod.fst hE5)) ?_
        have hNRA := hNA.to hWA
        have hFA : FB fA := by rw [efA]; exact pass_fb hF
        obtain ⟨hmkA, hm40A, hn8A, hb0A, hb0A1, hb0A8, hn8Ab, hstA, hnoA, howA, hdoA, hb0Aa, hb0Ac, hb0Ad, hb0Az⟩ := id hWA
        have hm8A : n ≤ 8 := by omega
        obtain ⟨eN1A, eN2A, -⟩ := hWA.N
        refine g_bipush (v := ((-4) : Int32)) X dL_act_536 (by decide) rfl ?_
        refine g_icmp_ne X dL_act_538 545 (by decide) rfl (fun h538 => absurd h538 (by decide)) (fun h538 => ?_)
        refine g_iconst (v := (1 : Int32)) X dL_act_541 (by decide) rfl ?_
        refine g_goto X dL_act_542 546 (by decide) ?_
        refine g_widen 112 2380 (Nat.le_of_ble_eq_true rfl) (Nat.le_of_ble_eq_true rfl) ?_
        refine g_retW X hr (by first | rfl | exact b2i_nar _) dL_act_546 hAe ?_
        exact ⟨rfl, fA, naA, wA, td, vl, L, pt, fl, kd, kpA, pqA, ⟨⟨_, _, _, hWA⟩, ⟨_, hNRA, hn8A⟩, hFA, (SI_le (Nat.le_succ _) hSA), hL, hch, hkpA, _, hHLA⟩, hADA, rfl⟩
    · replace h493 := b2i_n0 h493
      refine g_iload X dL_act_496 0 rfl rfl ?_
      refine g_iconst (v := (4 : Int32)) X dL_act_498 (by decide) rfl ?_
      refine g_icmp_lt X dL_act_499 516 (by decide) rfl (fun h499 => ?_) (fun h499 => ?_)
      · have i499 := nj_lt (a := rb) (b := 4) (by omega) (by omega) h499
        refine g_iconst (v := (0 : Int32)) X dL_act_516 (by decide) rfl ?_
        refine g_istore X [(10, _), (9, _), (8, _), (7, _), (6, _), (5, _), (4, _), (0, _), (1, _), (2, _), (3, _)] dL_act_517 (by decide) rfl rfl ?_
        refine g_iload X dL_act_519 4 rfl rfl ?_
        refine g_bipush (v := (40 : Int32)) X dL_act_521 (by decide) rfl ?_
        refine g_icmp_ne X dL_act_523 547 (by decide) rfl (fun h523 => ?_) (fun h523 => ?_)
        · have i523 := nj_ne (a := mk) (b := 40) (by omega) (by omega) h523
          refine g_iload X dL_act_547 0 rfl rfl ?_
          refine g_if_ne X dL_act_549 573 (by decide) rfl (fun h549 => absurd h549 (by decide)) (fun h549 => ?_)
          refine g_aload_n X dL_act_552 rfl 7 rfl rfl ?_
          refine g_iload X dL_act_553 2 rfl rfl ?_
          refine g_iload X dL_act_555 6 rfl rfl ?_
          refine g_iload X dL_act_557 3 rfl rfl ?_
          refine g_callVXs (n := 3) (As := [_, _, _]) (rest := []) X hAg rfl (c_X6_pass l D a f na w td vl L pt fl kd kp pq ps mk n b hW hNR hF hkp hHL.hq _ _ _) gL_act_X6_pass rfl (by decide +kernel) ⟨Nat.le_of_ble_eq_true rfl, Nat.le_of_ble_eq_true rfl⟩ 20 rfl rfl rfl rfl (Nat.le_of_ble_eq_true rfl) dL_act_559 ⟨Nat.le_of_ble_eq_true rfl, Nat.le_of_ble_eq_true rfl⟩ rfl (fun v w9 hv => ?_)
          obtain ⟨rfl, fA, naA, wA, kpA, pqA, efA, hNA, hAA, hkpA, hHLA, ekA, rfl⟩ := ch_out hv hkp hHL hF ⟨_, hNR, hn8⟩
          have hADA := hAA
          refine ⟨hAA, ?_⟩
          refine g_st (st' := [_]) rfl ?_
          have hE5 : passS f (nI u473) (nI g) (nI rt) = (-5, f) := pass_5 hW (by omega) hu473 hg hrt erb hrb (Or.inr (Or.inl i499))
          have hWA : WF fA mk n b := by rw [efA, hE5]; exact hW
          have hSA : SI cr fA := by rw [efA, hE5]; exact hS
          refine g_topi ((show (passS f (nI u473) (nI g) (nI rt)).1 = (-5 : Int32) from congrArg Prod.fst hE5)) ?_
          have hNRA := hNA.to hWA
          have hFA : FB fA := by rw [efA]; exact pass_fb hF
          obtain ⟨hmkA, hm40A, hn8A, hb0A, hb0A1, hb0A8, hn8Ab, hstA, hnoA, howA, hdoA, hb0Aa, hb0Ac, hb0Ad, hb0Az⟩ := id hWA
          have hm8A : n ≤ 8 := by omega
          obtain ⟨eN1A, eN2A, -⟩ := hWA.N
          refine g_bipush (v := ((-5) : Int32)) X dL_act_562 (by decide) rfl ?_
          refine g_icmp_ne X dL_act_564 571 (by decide) rfl (fun h564 => absurd h564 (by decide)) (fun h564 => ?_)
          refine g_iconst (v := (1 : Int32)) X dL_act_567 (by decide) rfl ?_
          refine g_goto X dL_act_568 572 (by decide) ?_
          refine g_widen 112 2380 (Nat.le_of_ble_eq_true rfl) (Nat.le_of_ble_eq_true rfl) ?_
          refine g_retW X hr (by first | rfl | exact b2i_nar _) dL_act_572 hAe ?_
          exact ⟨rfl, fA, naA, wA, td, vl, L, pt, fl, kd, kpA, pqA, ⟨⟨_, _, _, hWA⟩, ⟨_, hNRA, hn8A⟩, hFA, (SI_le (Nat.le_succ _) hSA), hL, hch, hkpA, _, hHLA⟩, hADA, rfl⟩
        · have i523 := nj_eq (a := mk) (b := 40) (by omega) (by omega) h523
          refine g_aload_n X dL_act_526 rfl 7 rfl rfl ?_
          refine g_iload X dL_act_527 2 rfl rfl ?_
          refine g_iload X dL_act_529 6 rfl rfl ?_
          refine g_iload X dL_act_531 3 rfl rfl ?_
          refine g_callVXs (n := 3) (As := [_, _, _]) (rest := []) X hAg rfl (c_X6_pass l D a f na w td vl L pt fl kd kp pq ps mk n b hW hNR hF hkp hHL.hq _ _ _) gL_act_X6_pass rfl (by decide +kernel) ⟨Nat.le_of_ble_eq_true rfl, Nat.le_of_ble_eq_true rfl⟩ 20 rfl rfl rfl rfl (Nat.le_of_ble_eq_true rfl) dL_act_533 ⟨Nat.le_of_ble_eq_true rfl, Nat.le_of_ble_eq_true rfl⟩ rfl (fun v w9 hv => ?_)
          obtain ⟨rfl, fA, naA, wA, kpA, pqA, efA, hNA, hAA, hkpA, hHLA, ekA, rfl⟩ := ch_out hv hkp hHL hF ⟨_, hNR, hn8⟩
          have hADA := hAA
          refine ⟨hAA, ?_⟩
          refine g_st (st' := [_]) rfl ?_
          have hE5 : passS f (nI u473) (nI g) (nI rt) = (-4, f) := pass_4 hW i523 hu473 hg hrt
          have hWA : WF fA mk n b := by rw [efA, hE5]; exact hW
          have hSA : SI cr fA := by rw [efA, hE5]; exact hS
          refine g_topi ((show (passS f (nI u473) (nI g) (nI rt)).1 = (-4 : Int32) from congrArg Prod.fst hE5)) ?_
          have hNRA := hNA.to hWA
          have hFA : FB fA := by rw [efA]; exact pass_fb hF
          obtain ⟨hmkA, hm40A, hn8A, hb0A, hb0A1, hb0A8, hn8Ab, hstA, hnoA, howA, hdoA, hb0Aa, hb0Ac, hb0Ad, hb0Az⟩ := id hWA
          have hm8A : n ≤ 8 := by omega
          obtain ⟨eN1A, eN2A, -⟩ := hWA.N
          refine g_bipush (v := ((-4) : Int32)) X dL_act_536 (by decide) rfl ?_
          refine g_icmp_ne X dL_act_538 545 (by decide) rfl (fun h538 => absurd h538 (by decide)) (fun h538 => ?_)
          refine g_iconst (v := (1 : Int32)) X dL_act_541 (by decide) rfl ?_
          refine g_goto X dL_act_542 546 (by decide) ?_
          refine g_widen 112 2380 (Nat.le_of_ble_eq_true rfl) (Nat.le_of_ble_eq_true rfl) ?_
          refine g_retW X hr (by first | rfl | exact b2i_nar _) dL_act_546 hAe ?_
          exact ⟨rfl, fA, naA, wA, td, vl, L, pt, fl, kd, kpA, pqA, ⟨⟨_, _, _, hWA⟩, ⟨_, hNRA, hn8A⟩, hFA, (SI_le (Nat.le_succ _) hSA), hL, hch, hkpA, _, hHLA⟩, hADA, rfl⟩
      · have i499 := nj_nlt (a := rb) (b := 4) (by omega) (by omega) h499
        refine g_iload X dL_act_502 0 rfl rfl ?_
        refine g_iload X dL_act_504 2 rfl rfl ?_
        refine g_iand X dL_act_506 rfl ?_
        refine g_iload X dL_act_507 2 rfl rfl ?_
        refine g_icmp_ne X dL_act_509 516 (by decide) rfl (fun h509 => ?_) (fun h509 => ?_)
        · refine g_iconst (v := (0 : Int32)) X dL_act_516 (by decide) rfl ?_
          refine g_istore X [(10, _), (9, _), (8, _), (7, _), (6, _), (5, _), (4, _), (0, _), (1, _), (2, _), (3, _)] dL_act_517 (by decide) rfl rfl ?_
          refine g_iload X dL_act_519 4 rfl rfl ?_
          refine g_bipush (v := (40 : Int32)) X dL_act_521 (by decide) rfl ?_
          refine g_icmp_ne X dL_act_523 547 (by decide) rfl (fun h523 => ?_) (fun h523 => ?_)
          · have i523 := nj_ne (a := mk) (b := 40) (by omega) (by omega) h523
            refine g_iload X dL_act_547 0 rfl rfl ?_
            refine g_if_ne X dL_act_549 573 (by decide) rfl (fun h549 => absurd h549 (by decide)) (fun h549 => ?_)
            refine g_aload_n X dL_act_552 rfl 7 rfl rfl ?_
            refine g_iload X dL_act_553 2 rfl rfl ?_
            refine g_iload X dL_act_555 6 rfl rfl ?_
            refine g_iload X dL_act_557 3 rfl rfl ?_
            refine g_callVXs (n := 3) (As := [_, _, _]) (rest := []) X hAg rfl (c_X6_pass l D a f na w td vl L pt fl kd kp pq ps mk n b hW hNR hF hkp hHL.hq _ _ _) gL_act_X6_pass rfl (by decide +kernel) ⟨Nat.le_of_ble_eq_true rfl, Nat.le_of_ble_eq_true rfl⟩ 20 rfl rfl rfl rfl (Nat.le_of_ble_eq_true rfl) dL_act_559 ⟨Nat.le_of_ble_eq_true rfl, Nat.le_of_ble_eq_true rfl⟩ rfl (fun v w9 hv => ?_)
            obtain ⟨rfl, fA, naA, wA, kpA, pqA, efA, hNA, hAA, hkpA, hHLA, ekA, rfl⟩ := ch_out hv hkp hHL hF ⟨_, hNR, hn8⟩
            have hADA := hAA
            refine ⟨hAA, ?_⟩
            refine g_st (st' := [_]) rfl ?_
            have hE5 : passS f (nI u473) (nI g) (nI rt) = (-5, f) := pass_5 hW (by omega) hu473 hg hrt erb hrb (Or.inr (Or.inr h509))
            have hWA : WF fA mk n b := by rw [efA, hE5]; exact hW
            have hSA : SI cr fA := by rw [efA, hE5]; exact hS
            refine g_topi ((show (passS f (nI u473) (nI g) (nI rt)).1 = (-5 : Int32) from congrArg Prod.fst hE5)) ?_
            have hNRA := hNA.to hWA
            have hFA : FB fA := by rw [efA]; exact pass_fb hF
            obtain ⟨hmkA, hm40A, hn8A, hb0A, hb0A1, hb0A8, hn8Ab, hstA, hnoA, howA, hdoA, hb0Aa, hb0Ac, hb0Ad, hb0Az⟩ := id hWA
            have hm8A : n ≤ 8 := by omega
            obtain ⟨eN1A, eN2A, -⟩ := hWA.N
            refine g_bipush (v := ((-5) : Int32)) X dL_act_562 (by decide) rfl ?_
            refine g_icmp_ne X dL_act_564 571 (by decide) rfl (fun h564 => absurd h564 (by decide)) (fun h564 => ?_)
            refine g_iconst (v := (1 : Int32)) X dL_act_567 (by decide) rfl ?_
            refine g_goto X dL_act_568 572 (by decide) ?_
            refine g_widen 112 2380 (Nat.le_of_ble_eq_true rfl) (Nat.le_of_ble_eq_true rfl) ?_
            refine g_retW X hr (by first | rfl | exact b2i_nar _) dL_act_572 hAe ?_
            exact ⟨rfl, fA, naA, wA, td, vl, L, pt, fl, kd, kpA, pqA, ⟨⟨_, _, _, hWA⟩, ⟨_, hNRA, hn8A⟩, hFA, (SI_le (Nat.le_succ _) hSA), hL, hch, hkpA, _, hHLA⟩, hADA, rfl⟩
          · have i523 := nj_eq (a := mk) (b := 40) (by omega) (by omega) h523
            refine g_aload_n X dL_act_526 rfl 7 rfl rfl ?_
            refine g_iload X dL_act_527 2 rfl rfl ?_
            refine g_iload X dL_act_529 6 rfl rfl ?_
            refine g_iload X dL_act_531 3 rfl rfl ?_
            refine g_callVXs (n := 3) (As := [_, _, _]) (rest := []) X hAg rfl (c_X6_pass l D a f na w td vl L pt fl kd kp pq ps mk n b hW hNR hF hkp hHL.hq _ _ _) gL_act_X6_pass rfl (by decide +kernel) ⟨Nat.le_of_ble_eq_true rfl, Nat.le_of_ble_eq_true rfl⟩ 20 rfl rfl rfl rfl (Nat.le_of_ble_eq_true rfl) dL_act_533 ⟨Nat.le_of_ble_eq_true rfl, Nat.le_of_ble_eq_true rfl⟩ rfl (fun v w9 hv => ?_)
            obtain ⟨rfl, fA, naA, wA, kpA, pqA, efA, hNA, hAA, hkpA, hHLA, ekA, rfl⟩ := ch_out hv hkp hHL hF ⟨_, hNR, hn8⟩
            have hADA := hAA
            refine ⟨hAA, ?_⟩
            refine g_st (st' := [_]) rfl ?_
            have hE5 : passS f (nI u473) (nI g) (nI rt) = (-4, f) := pass_4 hW i523 hu473 hg hrt
            have hWA : WF fA mk n b := by rw [efA, hE5]; exact hW
            have hSA : SI cr fA := by rw [efA, hE5]; exact hS
            refine g_topi ((show (passS f (nI u473) (nI g) (nI rt)).1 = (-4 : Int32) from congrArg Prod.fst hE5)) ?_
            have hNRA := hNA.to hWA
            have hFA : FB fA := by rw [efA]; exact pass_fb hF
            obtain ⟨hmkA, hm40A, hn8A, hb0A, hb0A1, hb0A8, hn8Ab, hstA, hnoA, howA, hdoA, hb0Aa, hb0Ac, hb0Ad, hb0Az⟩ := id hWA
            have hm8A : n ≤ 8 := by omega
            obtain ⟨eN1A, eN2A, -⟩ := hWA.N
            refine g_bipush (v := ((-4) : Int32)) X dL_act_536 (by decide) rfl ?_
            refine g_icmp_ne X dL_act_538 545 (by decide) rfl (fun h538 => absurd h538 (by decide)) (fun h538 => ?_)
            refine g_iconst (v := (1 : Int32)) X dL_act_541 (by decide) rfl ?_
            refine g_goto X dL_act_542 546 (by decide) ?_
            refine g_widen 112 2380 (Nat.le_of_ble_eq_true rfl) (Nat.le_of_ble_eq_true rfl) ?_
            refine g_retW X hr (by first | rfl | exact b2i_nar _) dL_act_546 hAe ?_
            exact ⟨rfl, fA, naA, wA, td, vl, L, pt, fl, kd, kpA, pqA, ⟨⟨_, _, _, hWA⟩, ⟨_, hNRA, hn8A⟩, hFA, (SI_le (Nat.le_succ _) hSA), hL, hch, hkpA, _, hHLA⟩, hADA, rfl⟩
        · refine g_iconst (v := (1 : Int32)) X dL_act_512 (by decide) rfl ?_
          refine g_goto X dL_act_513 517 (by decide) ?_
          refine g_istore X [(10, _), (9, _), (8, _), (7, _), (6, _), (5, _), (4, _), (0, _), (1, _), (2, _), (3, _)] dL_act_517 (by decide) rfl rfl ?_
          refine g_iload X dL_act_519 4 rfl rfl ?_
          refine g_bipush (v := (40 : Int32)) X dL_act_521 (by decide) rfl ?_
          refine g_icmp_ne X dL_act_523 547 (by decide) rfl (fun h523 => ?_) (fun h523 => ?_)
          · have i523 := nj_ne (a := mk) (b := 40) (by omega) (by omega) h523
            refine g_iload X dL_act_547 0 rfl rfl ?_
            refine g_if_ne X dL_act_549 573 (by decide) rfl (fun h549 => ?_) (fun h549 => absurd h549 (by decide))
            refine g_aload_n X dL_act_573 rfl 7 rfl rfl ?_
            refine g_iload X dL_act_574 2 rfl rfl ?_
            refine g_iload X dL_act_576 6 rfl rfl ?_
            refine g_iload X dL_act_578 3 rfl rfl ?_
            refine g_callVXs (n := 3) (As := [_, _, _]) (rest := []) X hAg rfl (c_X6_pass l D a f na w td vl L pt fl kd kp pq ps mk n b hW hNR hF hkp hHL.hq _ _ _) gL_act_X6_pass rfl (by decide +kernel) ⟨Nat.le_of_ble_eq_true rfl, Nat.le_of_ble_eq_true rfl⟩ 20 rfl rfl rfl rfl (Nat.le_of_ble_eq_true rfl) dL_act_580 ⟨Nat.le_of_ble_eq_true rfl, Nat.le_of_ble_eq_true rfl⟩ rfl (fun v w9 hv => ?_)
            obtain ⟨rfl, fA, naA, wA, kpA, pqA, efA, hNA, hAA, hkpA, hHLA, ekA, rfl⟩ := ch_out hv hkp hHL hF ⟨_, hNR, hn8⟩
            have hADA := hAA
            refine ⟨hAA, ?_⟩
            refine g_st (st' := [_]) rfl ?_
            obtain ⟨hrx, hWA, hSA, ⟨k0, k1, k2, k3, k4, k5, k6⟩, hgA⟩ := pass_chg hW hS (by omega) hu473 hg hrt erb hrb h493 i499 h509 efA
            refine g_topi (hrx) ?_
            have hNRA := hNA.to hWA
            have hFA : FB fA := by rw [efA]; exact pass_fb hF
            obtain ⟨hmkA, hm40A, hn8A, hb0A, hb0A1, hb0A8, hn8Ab, hstA, hnoA, howA, hdoA, hb0Aa, hb0Ac, hb0Ad, hb0Az⟩ := id hWA
            have hm8A : n ≤ 8 := by omega
            obtain ⟨eN1A, eN2A, -⟩ := hWA.N
            refine g_iload X dL_act_583 4 rfl rfl ?_
            refine g_icmp_ne X dL_act_585 622 (by decide) rfl (fun h585 => absurd rfl h585) (fun h585 => ?_)
            refine g_aload_n X dL_act_588 rfl 7 rfl rfl ?_
            refine g_iload X dL_act_589 4 rfl rfl ?_
            refine g_aload_n X dL_act_591 rfl 7 rfl rfl ?_
            refine g_iload X dL_act_592 2 rfl rfl ?_
            refine g_iconst (v := (0 : Int32)) X dL_act_594 (by decide) rfl ?_
            refine g_callVRX (w0 := []) (n := 2) (As := [_, _]) (rest := [_, _]) X (c_X6_ofStamp l D a fA naA wA td vl L pt fl kd kpA (fqa pqA) (fqa ps) (tlW D pqA ps) (mk + 1) n b hWA hNRA _ _) gL_act_X6_ofStamp rfl (by decide +kernel) ⟨Nat.le_of_ble_eq_true rfl, Nat.le_of_ble_eq_true rfl⟩ 20 rfl rfl rfl rfl rfl (Nat.le_of_ble_eq_true rfl) dL_act_595 ⟨Nat.le_of_ble_eq_true rfl, Nat.le_of_ble_eq_true rfl⟩ rfl (fun v hv => ?_)
            obtain rfl := hv
            refine g_st (st' := [_, _, _]) rfl ?_
            refine g_topi (oSt (q := u473) 0 eN1A (by omega) hm40A rfl (by decide)) ?_
            refine g_aload_n X dL_act_598 rfl 7 rfl rfl ?_
            refine g_iload X dL_act_599 2 rfl rfl ?_
            refine g_iconst (v := (2 : Int32)) X dL_act_601 (by decide) rfl ?_
            refine g_callVRX (w0 := []) (n := 2) (As := [_, _]) (rest := [_, _, _]) X (c_X6_ofStamp l D a fA naA wA td vl L pt fl kd kpA (fqa pqA) (fqa ps) (tlW D pqA ps) (mk + 1) n b hWA hNRA _ _) gL_act_X6_ofStamp rfl (by decide +kernel) ⟨Nat.le_of_ble_eq_true rfl, Nat.le_of_ble_eq_true rfl⟩ 20 rfl rfl rfl rfl rfl (Nat.le_of_ble_eq_true rfl) dL_act_602 ⟨Nat.le_of_ble_eq_true rfl, Nat.le_of_ble_eq_true rfl⟩ rfl (fun v hv => ?_)
            obtain rfl := hv
            refine g_st (st' := [_, _, _, _]) rfl ?_
            refine g_topi (oSt (q := u473) 2 eN1A (by omega) hm40A rfl (by decide)) ?_
            refine g_iload X dL_act_605 6 rfl rfl ?_
            refine g_iload X dL_act_607 3 rfl rfl ?_
            refine g_iload X dL_act_609 2 rfl rfl ?_
            refine g_iconst (v := (0 : Int32)) X dL_act_611 (by decide) rfl ?_
            refine g_callSRX (w0 := []) (n := 8) (As := [_, _, _, _, _, _, _, _]) (rest := []) X (c_L_made l D a fA naA wA td vl L pt fl kd kpA (fqa pqA) (fqa ps) (tlW D pqA ps) (mk + 1) n b hWA hNRA mk (by omega) rfl (ofM fA u473 0) (ofM fA u473 2) (nI g) (nI rt) (nI u473) ((0 : Int32)) k0 k1 k2 k3 k4 k5 k6 (by rw [hgA]; rfl)) gL_act_L_made rfl (by decide +kernel) ⟨Nat.le_of_ble_eq_true rfl, Nat.le_of_ble_eq_true rfl⟩ rfl rfl rfl (Nat.le_of_ble_eq_true rfl) dL_act_612 ⟨Nat.le_of_ble_eq_true rfl, Nat.le_of_ble_eq_true rfl⟩ rfl (fun v hv => ?_)
            obtain rfl := hv
            refine g_st (st' := [_]) rfl ?_
            refine g_if_eq X dL_act_615 622 (by decide) rfl (fun h615 => absurd h615 (by decide)) (fun h615 => ?_)
            refine g_iconst (v := (1 : Int32)) X dL_act_618 (by decide) rfl ?_
            refine g_goto X dL_act_619 623 (by decide) ?_
            refine g_widen 112 2380 (Nat.le_of_ble_eq_true rfl) (Nat.le_of_ble_eq_true rfl) ?_
            refine g_retW X hr (by first | rfl | exact b2i_nar _) dL_act_623 hAe ?_
            exact ⟨rfl, fA, naA, wA, td, vl, L, pt, fl, kd, kpA, pqA, ⟨⟨_, _, _, hWA⟩, ⟨_, hNRA, hn8A⟩, hFA, (SI_le (Nat.le_succ _) hSA), hL, hch, hkpA, _, hHLA⟩, hADA, rfl⟩
          · have i523 := nj_eq (a := mk) (b := 40) (by omega) (by omega) h523
            refine g_aload_n X dL_act_526 rfl 7 rfl rfl ?_
            refine g_iload X dL_act_527 2 rfl rfl ?_
            refine g_iload X dL_act_529 6 rfl rfl ?_
            refine g_iload X dL_act_531 3 rfl rfl ?_
            refine g_callVXs (n := 3) (As := [_, _, _]) (rest := []) X hAg rfl (c_X6_pass l D a f na w td vl L pt fl kd kp pq ps mk n b hW hNR hF hkp hHL.hq _ _ _) gL_act_X6_pass rfl (by decide +kernel) ⟨Nat.le_of_ble_eq_true rfl, Nat.le_of_ble_eq_true rfl⟩ 20 rfl rfl rfl rfl (Nat.le_of_ble_eq_true rfl) dL_act_533 ⟨Nat.le_of_ble_eq_true rfl, Nat.le_of_ble_eq_true rfl⟩ rfl (fun v w9 hv => ?_)
            obtain ⟨rfl, fA, naA, wA, kpA, pqA, efA, hNA, hAA, hkpA, hHLA, ekA, rfl⟩ := ch_out hv hkp hHL hF ⟨_, hNR, hn8⟩
            have hADA := hAA
            refine ⟨hAA, ?_⟩
            refine g_st (st' := [_]) rfl ?_
            have hE5 : passS f (nI u473) (nI g) (nI rt) = (-4, f) := pass_4 hW i523 hu473 hg hrt
            have hWA : WF fA mk n b := by rw [efA, hE5]; exact hW
            have hSA : SI cr fA := by rw [efA, hE5]; exact hS
            refine g_topi ((show (passS f (nI u473) (nI g) (nI rt)).1 = (-4 : Int32) from congrArg Prod.fst hE5)) ?_
            have hNRA := hNA.to hWA
            have hFA : FB fA := by rw [efA]; exact pass_fb hF
            obtain ⟨hmkA, hm40A, hn8A, hb0A, hb0A1, hb0A8, hn8Ab, hstA, hnoA, howA, hdoA, hb0Aa, hb0Ac, hb0Ad, hb0Az⟩ := id hWA
            have hm8A : n ≤ 8 := by omega
            obtain ⟨eN1A, eN2A, -⟩ := hWA.N
            refine g_bipush (v := ((-4) : Int32)) X dL_act_536 (by decide) rfl ?_
            refine g_icmp_ne X dL_act_538 545 (by decide) rfl (fun h538 => absurd h538 (by decide)) (fun h538 => ?_)
            refine g_iconst (v := (1 : Int32)) X dL_act_541 (by decide) rfl ?_
            refine g_goto X dL_act_542 546 (by decide) ?_
            refine g_widen 112 2380 (Nat.le_of_ble_eq_true rfl) (Nat.le_of_ble_eq_true rfl) ?_
            refine g_retW X hr (by first | rfl | exact b2i_nar _) dL_act_546 hAe ?_
            exact ⟨rfl, fA, naA, wA, td, vl, L, pt, fl, kd, kpA, pqA, ⟨⟨_, _, _, hWA⟩, ⟨_, hNRA, hn8A⟩, hFA, (SI_le (Nat.le_succ _) hSA), hL, hch, hkpA, _, hHLA⟩, hADA, rfl⟩
  · have i447 := nj_eq (a := mk) (b := 0) (by omega) (by omega) h447
    refine g_aload_n X dL_act_450 rfl 4 rfl rfl ?_
    refine g_iconst (v := (0 : Int32)) X dL_act_451 (by decide) rfl ?_
    refine g_iload X dL_act_452 3 rfl rfl ?_
    refine g_iconst (v := (1 : Int32)) X dL_act_454 (by decide) rfl ?_
    refine g_callVXs (n := 3) (As := [_, _, _]) (rest := []) X hAg rfl (c_X6_pass l D a f na w td vl L pt fl kd kp pq ps mk n b hW hNR hF hkp hHL.hq _ _ _) gL_act_X6_pass rfl (by decide +kernel) ⟨Nat.le_of_ble_eq_true rfl, Nat.le_of_ble_eq_true rfl⟩ 20 rfl rfl rfl rfl (Nat.le_of_ble_eq_true rfl) dL_act_455 ⟨Nat.le_of_ble_eq_true rfl, Nat.le_of_ble_eq_true rfl⟩ rfl (fun v w9 hv => ?_)
    obtain ⟨rfl, fA, naA, wA, kpA, pqA, efA, hNA, hAA, hkpA, hHLA, ekA, rfl⟩ := ch_out hv hkp hHL hF ⟨_, hNR, hn8⟩
    have hADA := hAA
    refine ⟨hAA, ?_⟩
    refine g_st (st' := [_]) rfl ?_
    have hE5 : passS f 0 (nI g) 1 = (-1, f) := pass_1 (eN1.trans i447) rfl
    have hWA : WF fA mk n b := by rw [efA, hE5]; exact hW
    have hSA : SI cr fA := by rw [efA, hE5]; exact hS
    refine g_topi ((show (passS f 0 (nI g) 1).1 = (-1 : Int32) from congrArg Prod.fst hE5)) ?_
    have hNRA := hNA.to hWA
    have hFA : FB fA := by rw [efA]; exact pass_fb hF
    obtain ⟨hmkA, hm40A, hn8A, hb0A, hb0A1, hb0A8, hn8Ab, hstA, hnoA, howA, hdoA, hb0Aa, hb0Ac, hb0Ad, hb0Az⟩ := id hWA
    have hm8A : n ≤ 8 := by omega
    obtain ⟨eN1A, eN2A, -⟩ := hWA.N
    refine g_iconst (v := ((-1) : Int32)) X dL_act_458 (by decide) rfl ?_
    refine g_icmp_ne X dL_act_459 466 (by decide) rfl (fun h459 => absurd h459 (by decide)) (fun h459 => ?_)
    refine g_iconst (v := (1 : Int32)) X dL_act_462 (by decide) rfl ?_
    refine g_goto X dL_act_463 467 (by decide) ?_
    refine g_widen 112 2380 (Nat.le_of_ble_eq_true rfl) (Nat.le_of_ble_eq_true rfl) ?_
    refine g_retW X hr (by first | rfl | exact b2i_nar _) dL_act_467 hAe ?_
    exact ⟨rfl, fA, naA, wA, td, vl, L, pt, fl, kd, kpA, pqA, ⟨⟨_, _, _, hWA⟩, ⟨_, hNRA, hn8A⟩, hFA, (SI_le (Nat.le_succ _) hSA), hL, hch, hkpA, _, hHLA⟩, hADA, rfl⟩

set_option maxHeartbeats 4000000 in
set_option maxRecDepth 100000 in
theorem c_act_forge (l : Launch) (D : DT) (a : Nat → Nat) (f : Nat → Int32) (na : Nat → Nat → Int32) (w td vl : Nat → Int32) (L pt fl : Nat) (kd : Int32) (kp : Nat) (pq ps : Nat → Option HH) (mk n b : Nat) (hW : WF f mk n b) (hNR : NR f na n) (hF : FB f) (hkp : kp ≤ 6) (l9 : List (Nat → Int32)) (hHL : HL kp pq l9) (cr : Nat) (hcr : cr ≤ 1000) (hS : SI cr f) (hL : L ≤ 80) (hch : ∀ k, k < L → ∃ ch : Nat, ch < 256 ∧ td k = nI ch) (rt : Nat) (hrt : 1 ≤ rt ∧ rt ≤ 7) (pg : Nat) (hpg : pg < 12) (g : Nat) (hg : g < 6) (xw x y : Int32) {p : Program} {e : Env} {s : State} {m : MethodId} {below : List Frame} {meth : Method} {c : Code} {A : Nat → Prop} (hAe : A = va_A (wB D a f na w td vl L pt fl kd kp (fqa pq) (fqa ps) (tlW D pq ps)) s.heap.size) (hAg : ∀ q, s.heap.size ≤ q → A q) (X : GX p l e (wRoom 9 218 112 2380) s m ([.ref (a 19), .int (xw), .int (x), .int (y)] : List Value).toArray below meth c D A 15 cL_act yL_act.cls wsL_act) (hr : meth.sig.returnType = (some .boolean))  : GG p l e (wRoom 9 218 112 2380) s m ([.ref (a 19), .int (xw), .int (x), .int (y)] : List Value).toArray below meth c D A 15 false 0 0 (MQ below (wrQ D (wB D a f na w td vl L pt fl kd kp (fqa pq) (fqa ps) (tlW D pq ps)) s.heap.size (lwP D a ps (wB D a f na w td vl L pt fl kd kp (fqa pq) (fqa ps) (tlW D pq ps)) (cr + 1))) ([.ref (a 19), .int (xw), .int (x), .int (y)] : List Value).toArray s 112 2380 (va_A (wB D a f na w td vl L pt fl kd kp (fqa pq) (fqa ps) (tlW D pq ps)) s.heap.size)) (wB D a f na w td vl L pt fl kd kp (fqa pq) (fqa ps) (tlW D pq ps)) 624 [(7, .int (nI rt)), (6, .int (nI mk)), (5, .int (nI pg)), (4, .int (nI g)), (0, .ref (a 19)), (1, .int (xw)), (2, .int (x)), (3, .int (y))] [] := by
  obtain ⟨hmk, hm40, hn8, hb0, hb01, hb08, hn8b, hst, hno, how, hdo, hb0a, hb0c, hb0d, hb0z⟩ := id hW
  have hm8 : n ≤ 8 := by omega
  obtain ⟨eN1, eN2, -⟩ := hW.N
  refine g_iload_n X dL_act_624 rfl 7 rfl rfl ?_
  refine g_iconst (v := (4 : Int32)) X dL_act_625 (by decide) rfl ?_
  refine g_ishr X dL_act_626 rfl ?_
  refine g_bipush (v := (6 : Int32)) X dL_act_627 (by decide) rfl ?_
  refine g_callSR (n := 2) (As := [_, _]) (rest := []) X (c_L_up l D ((y >>> ((4 : Int32) &&& 31))) 6 (by omega)) gL_act_L_up rfl (by decide +kernel) ⟨Nat.le_of_ble_eq_true rfl, Nat.le_of_ble_eq_true rfl⟩ [] rfl rfl rfl rfl (Nat.le_of_ble_eq_true rfl) dL_act_629 ⟨Nat.le_of_ble_eq_true rfl, Nat.le_of_ble_eq_true rfl⟩ rfl (fun v hv => ?_)
  obtain rfl := hv
  refine g_st (st' := [_]) rfl ?_
  refine g_upn (by omega) (fun u629 hu629 eu629 => ?_)
  refine g_istore X [(8, _), (7, _), (6, _), (5, _), (4, _), (0, _), (1, _), (2, _), (3, _)] dL_act_632 (by decide) rfl rfl ?_
  refine g_iload X dL_act_634 2 rfl rfl ?_
  have L664 : ∀ (ro : Int32) (hro : ro = -6 ∨ ∃ r : Nat, r < mk ∧ ro = nI r), GG p l e (wRoom 9 218 112 2380) s m ([.ref (a 19), .int (xw), .int (x), .int (y)] : List Value).toArray below meth c D A 15 false 0 0 (MQ below (wrQ D (wB D a f na w td vl L pt fl kd kp (fqa pq) (fqa ps) (tlW D pq ps)) s.heap.size (lwP D a ps (wB D a f na w td vl L pt fl kd kp (fqa pq) (fqa ps) (tlW D pq ps)) (cr + 1))) ([.ref (a 19), .int (xw), .int (x), .int (y)] : List Value).toArray s 112 2380 (va_A (wB D a f na w td vl L pt fl kd kp (fqa pq) (fqa ps) (tlW D pq ps)) s.heap.size)) (wB D a f na w td vl L pt fl kd kp (fqa pq) (fqa ps) (tlW D pq ps)) 664 [(8, .int (nI u629)), (7, .int (nI rt)), (6, .int (nI mk)), (5, .int (nI pg)), (4, .int (nI g)), (0, .ref (a 19)), (1, .int (xw)), (2, .int (x)), (3, .int (y))] [.int (ro)] := by
    intro ro hro
    refine g_istore X [(9, _), (8, _), (7, _), (6, _), (5, _), (4, _), (0, _), (1, _), (2, _), (3, _)] dL_act_664 (by decide) rfl rfl ?_
    refine g_iload X dL_act_666 3 rfl rfl ?_
    refine g_bipush (v := (40 : Int32)) X dL_act_668 (by decide) rfl ?_
    refine g_icmp_ne X dL_act_670 698 (by decide) rfl (fun h670 => ?_) (fun h670 => ?_)
    · have i670 := nj_ne (a := mk) (b := 40) (by omega) (by omega) h670
      refine g_aload_n X dL_act_698 rfl 6 rfl rfl ?_
      refine g_iload X dL_act_699 5 rfl rfl ?_
      refine g_iload X dL_act_701 1 rfl rfl ?_
      refine g_iload X dL_act_703 4 rfl rfl ?_
      refine g_iload X dL_act_705 2 rfl rfl ?_
      refine g_iload X dL_act_707 0 rfl rfl ?_
      refine g_callVXs (n := 5) (As := [_, _, _, _, _]) (rest := []) X hAg rfl (c_X6_forge l D a f na w td vl L pt fl kd kp pq ps mk n b hW hNR hF hkp hHL.hq _ _ _ _ _) gL_act_X6_forge rfl (by decide +kernel) ⟨Nat.le_of_ble_eq_true rfl, Nat.le_of_ble_eq_true rfl⟩ 20 rfl rfl rfl rfl (Nat.le_of_ble_eq_true rfl) dL_act_709 ⟨Nat.le_of_ble_eq_true rfl, Nat.le_of_ble_eq_true rfl⟩ rfl (fun v w9 hv => ?_)
      obtain ⟨rfl, fA, naA, wA, kpA, pqA, efA, hNA, hAA, hkpA, hHLA, ekA, rfl⟩ := ch_out hv hkp hHL hF ⟨_, hNR, hn8⟩
      have hADA := hAA
      refine ⟨hAA, ?_⟩
      refine g_st (st' := [_]) rfl ?_
      obtain ⟨hrx, hWA, hSA, ⟨k0, k1, k2, k3, k4, k5, k6⟩, hgA⟩ := forge_chg hW hS (by omega) hg (by omega) hpg hrt hro efA
      refine g_topi (hrx) ?_
      have hNRA := hNA.to hWA
      have hFA : FB fA := by rw [efA]; exact forge_fb hF
      obtain ⟨hmkA, hm40A, hn8A, hb0A, hb0A1, hb0A8, hn8Ab, hstA, hnoA, howA, hdoA, hb0Aa, hb0Ac, hb0Ad, hb0Az⟩ := id hWA
      have hm8A : n ≤ 8 := by omega
      obtain ⟨eN1A, eN2A, -⟩ := hWA.N
      refine g_iload X dL_act_712 3 rfl rfl ?_
      refine g_icmp_ne X dL_act_714 741 (by decide) rfl (fun h714 => absurd rfl h714) (fun h714 => ?_)
      refine g_aload_n X dL_act_717 rfl 6 rfl rfl ?_
      refine g_iload X dL_act_718 3 rfl rfl ?_
      refine g_iload X dL_act_720 4 rfl rfl ?_
      refine g_iload X dL_act_722 5 rfl rfl ?_
      refine g_iload X dL_act_724 1 rfl rfl ?_
      refine g_iload X dL_act_726 2 rfl rfl ?_
      refine g_iload X dL_act_728 0 rfl rfl ?_
      refine g_iconst (v := (1 : Int32)) X dL_act_730 (by decide) rfl ?_
      refine g_callSRX (w0 := []) (n := 8) (As := [_, _, _, _, _, _, _, _]) (rest := []) X (c_L_made l D a fA naA wA td vl L pt fl kd kpA (fqa pqA) (fqa ps) (tlW D pqA ps) (mk + 1) n b hWA hNRA mk (by omega) rfl (nI pg) (nI g) (nI u629) (nI rt) (ro) ((1 : Int32)) k0 k1 k2 k3 k4 k5 k6 (by rw [hgA]; rfl)) gL_act_L_made rfl (by decide +kernel) ⟨Nat.le_of_ble_eq_true rfl, Nat.le_of_ble_eq_true rfl⟩ rfl rfl rfl (Nat.le_of_ble_eq_true rfl) dL_act_731 ⟨Nat.le_of_ble_eq_true rfl, Nat.le_of_ble_eq_true rfl⟩ rfl (fun v hv => ?_)
      obtain rfl := hv
      refine g_st (st' := [_]) rfl ?_
      refine g_if_eq X dL_act_734 741 (by decide) rfl (fun h734 => absurd h734 (by decide)) (fun h734 => ?_)
      refine g_iconst (v := (1 : Int32)) X dL_act_737 (by decide) rfl ?_
      refine g_goto X dL_act_738 742 (by decide) ?_
      refine g_widen 112 2380 (Nat.le_of_ble_eq_true rfl) (Nat.le_of_ble_eq_true rfl) ?_
      refine g_retW X hr (by first | rfl | exact b2i_nar _) dL_act_742 hAe ?_
      exact ⟨rfl, fA, naA, wA, td, vl, L, pt, fl, kd, kpA, pqA, ⟨⟨_, _, _, hWA⟩, ⟨_, hNRA, hn8A⟩, hFA, (SI_le (Nat.le_succ _) hSA), hL, hch, hkpA, _, hHLA⟩, hADA, rfl⟩
    · have i670 := nj_eq (a := mk) (b := 40) (by omega) (by omega) h670
      refine g_aload_n X dL_act_673 rfl 6 rfl rfl ?_
      refine g_iload X dL_act_674 5 rfl rfl ?_
      refine g_iload X dL_act_676 1 rfl rfl ?_
      refine g_iload X dL_act_678 4 rfl rfl ?_
      refine g_iload X dL_act_680 2 rfl rfl ?_
      refine g_iload X dL_act_682 0 rfl rfl ?_
      refine g_callVXs (n := 5) (As := [_, _, _, _, _]) (rest := []) X hAg rfl (c_X6_forge l D a f na w td vl L pt fl kd kp pq ps mk n b hW hNR hF hkp hHL.hq _ _ _ _ _) gL_act_X6_forge rfl (by decide +kernel) ⟨Nat.le_of_ble_eq_true rfl, Nat.le_of_ble_eq_true rfl⟩ 20 rfl rfl rfl rfl (Nat.le_of_ble_eq_true rfl) dL_act_684 ⟨Nat.le_of_ble_eq_true rfl, Nat.le_of_ble_eq_true rfl⟩ rfl (fun v w9 hv => ?_)
      obtain ⟨rfl, fA, naA, wA, kpA, pqA, efA, hNA, hAA, hkpA, hHLA, ekA, rfl⟩ := ch_out hv hkp hHL hF ⟨_, hNR, hn8⟩
      have hADA := hAA
      refine ⟨hAA, ?_⟩
      refine g_st (st' := [_]) rfl ?_
      have hE5 : forgeS f (nI g) (nI u629) (nI pg) (nI rt) ro = (-4, f) := forge_4 hW i670 hg (by omega) hpg hrt hro
      have hWA : WF fA mk n b := by rw [efA, hE5]; exact hW
      have hSA : SI cr fA := by rw [efA, hE5]; exact hS
      refine g_topi ((show (forgeS f (nI g) (nI u629) (nI pg) (nI rt) ro).1 = (-4 : Int32) from congrArg Prod.fst hE5)) ?_
      have hNRA := hNA.to hWA
      have hFA : FB fA := by rw [efA]; exact forge_fb hF
      obtain ⟨hmkA, hm40A, hn8A, hb0A, hb0A1, hb0A8, hn8Ab, hstA, hnoA, howA, hdoA, hb0Aa, hb0Ac, hb0Ad, hb0Az⟩ := id hWA
      have hm8A : n ≤ 8 := by omega
      obtain ⟨eN1A, eN2A, -⟩ := hWA.N
      refine g_bipush (v := ((-4) : Int32)) X dL_act_687 (by decide) rfl ?_
      refine g_icmp_ne X dL_act_689 696 (by decide) rfl (fun h689 => absurd h689 (by decide)) (fun h689 => ?_)
      refine g_iconst (v := (1 : Int32)) X dL_act_692 (by decide) rfl ?_
      refine g_goto X dL_act_693 697 (by decide) ?_
      refine g_widen 112 2380 (Nat.le_of_ble_eq_true rfl) (Nat.le_of_ble_eq_true rfl) ?_
      refine g_retW X hr (by first | rfl | exact b2i_nar _) dL_act_697 hAe ?_
      exact ⟨rfl, fA, naA, wA, td, vl, L, pt, fl, kd, kpA, pqA, ⟨⟨_, _, _, hWA⟩, ⟨_, hNRA, hn8A⟩, hFA, (SI_le (Nat.le_succ _) hSA), hL, hch, hkpA, _, hHLA⟩, hADA, rfl⟩
  refine g_if_le X dL_act_636 662 (by decide) rfl (fun h636 => ?_) (fun h636 => ?_)
  · have i636 := nj_le (a := mk) (b := 0) (by omega) (by omega) h636
    refine g_bipush (v := ((-6) : Int32)) X dL_act_662 (by decide) rfl ?_
    exact L664 (-6) (Or.inl rfl)
  · have i636 := nj_nle (a := mk) (b := 0) (by omega) (by omega) h636
    refine g_iload_n X dL_act_639 rfl 8 rfl rfl ?_
    refine g_bipush (v := (7 : Int32)) X dL_act_640 (by decide) rfl ?_
    refine g_ishr X dL_act_642 rfl ?_
    refine g_iconst (v := (2 : Int32)) X dL_act_643 (by decide) rfl ?_
    refine g_callSR (n := 2) (As := [_, _]) (rest := []) X (c_L_up l D ((y >>> ((7 : Int32) &&& 31))) 2 (by omega)) gL_act_L_up rfl (by decide +kernel) ⟨Nat.le_of_ble_eq_true rfl, Nat.le_of_ble_eq_true rfl⟩ [] rfl rfl rfl rfl (Nat.le_of_ble_eq_true rfl) dL_act_644 ⟨Nat.le_of_ble_eq_true rfl, Nat.le_of_ble_eq_true rfl⟩ rfl (fun v hv => ?_)
    obtain rfl := hv
    refine g_st (st' := [_]) rfl ?_
    refine g_upn (by omega) (fun u644 hu644 eu644 => ?_)
    refine g_if_ne X dL_act_647 662 (by decide) rfl (fun h647 => ?_) (fun h647 => ?_)
    · have i647 := nj_ne (a := u644) (b := 0) (by omega) (by omega) h647
      refine g_bipush (v := ((-6) : Int32)) X dL_act_662 (by decide) rfl ?_
      exact L664 (-6) (Or.inl rfl)
    · have i647 := nj_eq (a := u644) (b := 0) (by omega) (by omega) h647
      refine g_iload_n X dL_act_650 rfl 8 rfl rfl ?_
      refine g_bipush (v := (8 : Int32)) X dL_act_651 (by decide) rfl ?_
      refine g_ishr X dL_act_653 rfl ?_
      refine g_iload X dL_act_654 2 rfl rfl ?_
      refine g_callSR (n := 2) (As := [_, _]) (rest := []) X (c_L_up l D ((y >>> ((8 : Int32) &&& 31))) mk (by omega)) gL_act_L_up rfl (by decide +kernel) ⟨Nat.le_of_ble_eq_true rfl, Nat.le_of_ble_eq_true rfl⟩ [] rfl rfl rfl rfl (Nat.le_of_ble_eq_true rfl) dL_act_656 ⟨Nat.le_of_ble_eq_true rfl, Nat.le_of_ble_eq_true rfl⟩ rfl (fun v hv => ?_)
      obtain rfl := hv
      refine g_st (st' := [_]) rfl ?_
      refine g_upn (by omega) (fun u656 hu656 eu656 => ?_)
      refine g_goto X dL_act_659 664 (by decide) ?_
      exact L664 _ (Or.inr ⟨u656, by omega, rfl⟩)

set_option maxHeartbeats 4000000 in
set_option maxRecDepth 100000 in
theorem c_act_door (l : Launch) (D : DT) (a : Nat → Nat) (f : Nat → Int32) (na : Nat → Nat → Int32) (w td vl : Nat → Int32) (L pt fl : Nat) (kd : Int32) (kp : Nat) (pq ps : Nat → Option HH) (mk n b : Nat) (hW : WF f mk n b) (hNR : NR f na n) (hF : FB f) (hkp : kp ≤ 6) (l9 : List (Nat → Int32)) (hHL : HL kp pq l9) (cr : Nat) (hcr : cr ≤ 1000) (hS : SI cr f) (hL : L ≤ 80) (hch : ∀ k, k < L → ∃ ch : Nat, ch < 256 ∧ td k = nI ch) (rt : Nat) (hrt : 1 ≤ rt ∧ rt ≤ 7) (pg : Nat) (hpg : pg < 12) (g : Nat) (hg : g < 6) (xw x y : Int32) {p : Program} {e : Env} {s : State} {m : MethodId} {below : List Frame} {meth : Method} {c : Code} {A : Nat → Prop} (hAe : A = va_A (wB D a f na w td vl L pt fl kd kp (fqa pq) (fqa ps) (tlW D pq ps)) s.heap.size) (hAg : ∀ q, s.heap.size ≤ q → A q) (X : GX p l e (wRoom 9 218 112 2380) s m ([.ref (a 19), .int (xw), .int (x), .int (y)] : List Value).toArray below meth c D A 15 cL_act yL_act.cls wsL_act) (hr : meth.sig.returnType = (some .boolean))  : GG p l e (wRoom 9 218 112 2380) s m ([.ref (a 19), .int (xw), .int (x), .int (y)] : List Value).toArray below meth c D A 15 false 0 0 (MQ below (wrQ D (wB D a f na w td vl L pt fl kd kp (fqa pq) (fqa ps) (tlW D pq ps)) s.heap.size (lwP D a ps (wB D a f na w td vl L pt fl kd kp (fqa pq) (fqa ps) (tlW D pq ps)) (cr + 1))) ([.ref (a 19), .int (xw), .int (x), .int (y)] : List Value).toArray s 112 2380 (va_A (wB D a f na w td vl L pt fl kd kp (fqa pq) (fqa ps) (tlW D pq ps)) s.heap.size)) (wB D a f na w td vl L pt fl kd kp (fqa pq) (fqa ps) (tlW D pq ps)) 743 [(7, .int (nI rt)), (6, .int (nI mk)), (5, .int (nI pg)), (4, .int (nI g)), (0, .ref (a 19)), (1, .int (xw)), (2, .int (x)), (3, .int (y))] [] := by
  obtain ⟨hmk, hm40, hn8, hb0, hb01, hb08, hn8b, hst, hno, how, hdo, hb0a, hb0c, hb0d, hb0z⟩ := id hW
  have hm8 : n ≤ 8 := by omega
  obtain ⟨eN1, eN2, -⟩ := hW.N
  refine g_iload X dL_act_743 1 rfl rfl ?_
  have L770 : ∀ (t : Int32) (ht : t = -6 ∨ ∃ q : Nat, q < mk ∧ t = nI q), GG p l e (wRoom 9 218 112 2380) s m ([.ref (a 19), .int (xw), .int (x), .int (y)] : List Value).toArray below meth c D A 15 false 0 0 (MQ below (wrQ D (wB D a f na w td vl L pt fl kd kp (fqa pq) (fqa ps) (tlW D pq ps)) s.heap.size (lwP D a ps (wB D a f na w td vl L pt fl kd kp (fqa pq) (fqa ps) (tlW D pq ps)) (cr + 1))) ([.ref (a 19), .int (xw), .int (x), .int (y)] : List Value).toArray s 112 2380 (va_A (wB D a f na w td vl L pt fl kd kp (fqa pq) (fqa ps) (tlW D pq ps)) s.heap.size)) (wB D a f na w td vl L pt fl kd kp (fqa pq) (fqa ps) (tlW D pq ps)) 770 [(7, .int (nI rt)), (6, .int (nI mk)), (5, .int (nI pg)), (4, .int (nI g)), (0, .ref (a 19)), (1, .int (xw)), (2, .int (x)), (3, .int (y))] [.int (t)] := by
    intro t ht
    refine g_istore X [(8, _), (7, _), (6, _), (5, _), (4, _), (0, _), (1, _), (2, _), (3, _)] dL_act_770 (by decide) rfl rfl ?_
    rcases ht with rfl | ⟨tq, htq, rfl⟩
    · refine g_iload X dL_act_772 0 rfl rfl ?_
      refine g_if_lt X dL_act_774 798 (by decide) rfl (fun h774 => ?_) (fun h774 => absurd h774 (by decide))
      refine g_iload X dL_act_798 4 rfl rfl ?_
      refine g_istore X [(9, _), (8, _), (7, _), (6, _), (5, _), (4, _), (0, _), (1, _), (2, _), (3, _)] dL_act_800 (by decide) rfl rfl ?_
      refine g_iload_n X dL_act_802 rfl 8 rfl rfl ?_
      refine g_bipush (v := (12 : Int32)) X dL_act_803 (by decide) rfl ?_
      refine g_ishr X dL_act_805 rfl ?_
      refine g_iconst (v := (3 : Int32)) X dL_act_806 (by decide) rfl ?_
      refine g_callSR (n := 2) (As := [_, _]) (rest := []) X (c_L_up l D ((x >>> ((12 : Int32) &&& 31))) 3 (by omega)) gL_act_L_up rfl (by decide +kernel) ⟨Nat.le_of_ble_eq_true rfl, Nat.le_of_ble_eq_true rfl⟩ [] rfl rfl rfl rfl (Nat.le_of_ble_eq_true rfl) dL_act_807 ⟨Nat.le_of_ble_eq_true rfl, Nat.le_of_ble_eq_true rfl⟩ rfl (fun v hv => ?_)
      obtain rfl := hv
      refine g_st (st' := [_]) rfl ?_
      refine g_upn (by omega) (fun u807 hu807 eu807 => ?_)
      refine g_istore X [(10, _), (9, _), (8, _), (7, _), (6, _), (5, _), (4, _), (0, _), (1, _), (2, _), (3, _)] dL_act_810 (by decide) rfl rfl ?_
      refine g_iconst (v := (0 : Int32)) X dL_act_812 (by decide) rfl ?_
      refine g_istore X [(11, _), (10, _), (9, _), (8, _), (7, _), (6, _), (5, _), (4, _), (0, _), (1, _), (2, _), (3, _)] dL_act_813 (by decide) rfl rfl ?_
      refine g_aload_n X dL_act_815 rfl 8 rfl rfl ?_
      refine g_bipush (v := (7 : Int32)) X dL_act_816 (by decide) rfl ?_
      refine g_callVRX (w0 := []) (n := 1) (As := [_]) (rest := []) X (c_X6_count l D a f na w td vl L pt fl kd kp (fqa pq) (fqa ps) (tlW D pq ps) mk n b hW hNR _) gL_act_X6_count rfl (by decide +kernel) ⟨Nat.le_of_ble_eq_true rfl, Nat.le_of_ble_eq_true rfl⟩ 20 rfl rfl rfl rfl rfl (Nat.le_of_ble_eq_true rfl) dL_act_818 ⟨Nat.le_of_ble_eq_true rfl, Nat.le_of_ble_eq_true rfl⟩ rfl (fun v hv => ?_)
      obtain rfl := hv
      refine g_st (st' := [_]) rfl ?_
      refine g_topi (oC7) ?_
      refine g_istore X [(12, _), (11, _), (10, _), (9, _), (8, _), (7, _), (6, _), (5, _), (4, _), (0, _), (1, _), (2, _), (3, _)] dL_act_821 (by decide) rfl rfl ?_
      have L882 : ∀ (cn : Nat) (hcn : (ledM f g u807 = (-6 : Int32) ∧ cn = 0) ∨ (¬ ledM f g u807 = (-6 : Int32) ∧ cn = cnI (ofDoor f (nI g) (nI u807)) n)), GG p l e (wRoom 9 218 112 2380) s m ([.ref (a 19), .int (xw), .int (x), .int (y)] : List Value).toArray below meth c D A 15 false 0 0 (MQ below (wrQ D (wB D a f na w td vl L pt fl kd kp (fqa pq) (fqa ps) (tlW D pq ps)) s.heap.size (lwP D a ps (wB D a f na w td vl L pt fl kd kp (fqa pq) (fqa ps) (tlW D pq ps)) (cr + 1))) ([.ref (a 19), .int (xw), .int (x), .int (y)] : List Value).toArray s 112 2380 (va_A (wB D a f na w td vl L pt fl kd kp (fqa pq) (fqa ps) (tlW D pq ps)) s.heap.size)) (wB D a f na w td vl L pt fl kd kp (fqa pq) (fqa ps) (tlW D pq ps)) 882 [(12, .int (f 81)), (11, .int (nI cn)), (10, .int (nI u807)), (9, .int (nI g)), (8, .int (-6)), (7, .int (nI rt)), (6, .int (nI mk)), (5, .int (nI pg)), (4, .int (nI g)), (0, .ref (a 19)), (1, .int (xw)), (2, .int (x)), (3, .int (y))] [] := by
        intro cn hcn
        have hcl := cnI_le (ofDoor f (nI g) (nI u807)) n
        have hcb : cn ≤ n := by rcases hcn with ⟨-, z⟩ | ⟨-, z⟩ <;> omega
        refine g_aload_n X dL_act_882 rfl 9 rfl rfl ?_
        refine g_iload X dL_act_883 3 rfl rfl ?_
        refine g_iload X dL_act_885 2 rfl rfl ?_
        refine g_iload X dL_act_887 4 rfl rfl ?_
        refine g_callVXs (n := 3) (As := [_, _, _]) (rest := []) X hAg rfl (c_X6_door l D a f na w td vl L pt fl kd kp pq ps mk n b hW hNR hF hkp hHL.hq _ _ _) gL_act_X6_door rfl (by decide +kernel) ⟨Nat.le_of_ble_eq_true rfl, Nat.le_of_ble_eq_true rfl⟩ 20 rfl rfl rfl rfl (Nat.le_of_ble_eq_true rfl) dL_act_889 ⟨Nat.le_of_ble_eq_true rfl, Nat.le_of_ble_eq_true rfl⟩ rfl (fun v w9 hv => ?_)
        obtain ⟨rfl, fA, naA, wA, kpA, pqA, efA, hNA, hAA, hkpA, hHLA, ekA, rfl⟩ := ch_out hv hkp hHL hF ⟨_, hNR, hn8⟩
        have hADA := hAA
        refine ⟨hAA, ?_⟩
        refine g_st (st' := [_]) rfl ?_
        obtain ⟨hrx, hWA, hSA, hldA, h81A, hntA, -⟩ := door_chg hW hS (by omega) (by omega) (Or.inl rfl) hcn efA
        refine g_topi (hrx) ?_
        have hNRA := hNA.to hWA
        have hFA : FB fA := by rw [efA]; exact door_fb ⟨mk, n, b, hW⟩ hF
        obtain ⟨hmkA, hm40A, hn8A, hb0A, hb0A1, hb0A8, hn8Ab, hstA, hnoA, howA, hdoA, hb0Aa, hb0Ac, hb0Ad, hb0Az⟩ := id hWA
        have hm8A : (n - cn) ≤ 8 := by omega
        obtain ⟨eN1A, eN2A, -⟩ := hWA.N
        refine g_iload X dL_act_892 1 rfl rfl ?_
        refine g_icmp_ne X dL_act_894 941 (by decide) rfl (fun h894 => absurd rfl h894) (fun h894 => ?_)
        refine g_aload_n X dL_act_897 rfl 9 rfl rfl ?_
        refine g_iload X dL_act_898 3 rfl rfl ?_
        refine g_iload X dL_act_900 2 rfl rfl ?_
        refine g_callVRX (w0 := []) (n := 2) (As := [_, _]) (rest := []) X (c_X6_leads l D a fA naA wA td vl L pt fl kd kpA (fqa pqA) (fqa ps) (tlW D pqA ps) mk (n - cn) b hWA hNRA _ _) gL_act_X6_leads rfl (by decide +kernel) ⟨Nat.le_of_ble_eq_true rfl, Nat.le_of_ble_eq_true rfl⟩ 20 rfl rfl rfl rfl rfl (Nat.le_of_ble_eq_true rfl) dL_act_902 ⟨Nat.le_of_ble_eq_true rfl, Nat.le_of_ble_eq_true rfl⟩ rfl (fun v hv => ?_)
        obtain rfl := hv
        refine g_st (st' := [_]) rfl ?_
        refine g_topi (oLd (g := g) (d := u807) (by omega) (by omega)) ?_
        refine g_topi (hldA) ?_
        refine g_iload X dL_act_905 4 rfl rfl ?_
        refine g_icmp_ne X dL_act_907 941 (by decide) rfl (fun h907 => absurd h907 (by decide)) (fun h907 => ?_)
        refine g_aload_n X dL_act_910 rfl 9 rfl rfl ?_
        refine g_bipush (v := (7 : Int32)) X dL_act_911 (by decide) rfl ?_
        refine g_callVRX (w0 := []) (n := 1) (As := [_]) (rest := []) X (c_X6_count l D a fA naA wA td vl L pt fl kd kpA (fqa pqA) (fqa ps) (tlW D pqA ps) mk (n - cn) b hWA hNRA _) gL_act_X6_count rfl (by decide +kernel) ⟨Nat.le_of_ble_eq_true rfl, Nat.le_of_ble_eq_true rfl⟩ 20 rfl rfl rfl rfl rfl (Nat.le_of_ble_eq_true rfl) dL_act_913 ⟨Nat.le_of_ble_eq_true rfl, Nat.le_of_ble_eq_true rfl⟩ rfl (fun v hv => ?_)
        obtain rfl := hv
        refine g_st (st' := [_]) rfl ?_
        refine g_topi (oC7) ?_
        refine g_topi (h81A) ?_
        refine g_iload X dL_act_916 0 rfl rfl ?_
        refine g_iload X dL_act_918 1 rfl rfl ?_
        refine g_iadd X dL_act_920 rfl ?_
        refine g_icmp_ne X dL_act_921 941 (by decide) rfl (fun h921 => absurd rfl h921) (fun h921 => ?_)
        refine g_aload_n X dL_act_924 rfl 9 rfl rfl ?_
        refine g_iload X dL_act_925 3 rfl rfl ?_
        refine g_iload X dL_act_927 2 rfl rfl ?_
        refine g_iload X dL_act_929 1 rfl rfl ?_
        refine g_callSRX (w0 := []) (n := 4) (As := [_, _, _, _]) (rest := []) X (c_L_noted l D a fA naA wA td vl L pt fl kd kpA (fqa pqA) (fqa ps) (tlW D pqA ps) mk (n - cn) b hWA hNRA g u807 cn (by omega) (by omega) (by omega) hntA) gL_act_L_noted rfl (by decide +kernel) ⟨Nat.le_of_ble_eq_true rfl, Nat.le_of_ble_eq_true rfl⟩ rfl rfl rfl (Nat.le_of_ble_eq_true rfl) dL_act_931 ⟨Nat.le_of_ble_eq_true rfl, Nat.le_of_ble_eq_true rfl⟩ rfl (fun v hv => ?_)
        obtain rfl := hv
        refine g_st (st' := [_]) rfl ?_
        refine g_if_ne X dL_act_934 941 (by decide) rfl (fun h934 => absurd h934 (by decide)) (fun h934 => ?_)
        refine g_iconst (v := (1 : Int32)) X dL_act_937 (by decide) rfl ?_
        refine g_goto X dL_act_938 942 (by decide) ?_
        refine g_widen 112 2380 (Nat.le_of_ble_eq_true rfl) (Nat.le_of_ble_eq_true rfl) ?_
        refine g_retW X hr (by first | rfl | exact b2i_nar _) dL_act_942 hAe ?_
        exact ⟨rfl, fA, naA, wA, td, vl, L, pt, fl, kd, kpA, pqA, ⟨⟨_, _, _, hWA⟩, ⟨_, hNRA, hn8A⟩, hFA, (SI_le (Nat.le_succ _) hSA), hL, hch, hkpA, _, hHLA⟩, hADA, rfl⟩
      refine g_aload_n X dL_act_823 rfl 9 rfl rfl ?_
      refine g_iload X dL_act_824 3 rfl rfl ?_
      refine g_iload X dL_act_826 2 rfl rfl ?_
      refine g_callVRX (w0 := []) (n := 2) (As := [_, _]) (rest := []) X (c_X6_leads l D a f na w td vl L pt fl kd kp (fqa pq) (fqa ps) (tlW D pq ps) mk n b hW hNR _ _) gL_act_X6_leads rfl (by decide +kernel) ⟨Nat.le_of_ble_eq_true rfl, Nat.le_of_ble_eq_true rfl⟩ 20 rfl rfl rfl rfl rfl (Nat.le_of_ble_eq_true rfl) dL_act_828 ⟨Nat.le_of_ble_eq_true rfl, Nat.le_of_ble_eq_true rfl⟩ rfl (fun v hv => ?_)
      obtain rfl := hv
      refine g_st (st' := [_]) rfl ?_
      refine g_topi (oLd (g := g) (d := u807) (by omega) (by omega)) ?_
      refine g_iload X dL_act_831 4 rfl rfl ?_
      refine g_icmp_eq X dL_act_833 882 (by decide) rfl (fun h833 => ?_) (fun h833 => ?_)
      · exact L882 0 (Or.inl ⟨h833, rfl⟩)
      · refine g_iconst (v := (0 : Int32)) X dL_act_836 (by decide) rfl ?_
        refine g_istore X [(13, _), (12, _), (11, _), (10, _), (9, _), (8, _), (7, _), (6, _), (5, _), (4, _), (0, _), (1, _), (2, _), (3, _)] dL_act_837 (by decide) rfl rfl ?_
        have L839 : ∀ (jj i : Nat) (hi : i ≤ n) (hj : n - i = jj), GG p l e (wRoom 9 218 112 2380) s m ([.ref (a 19), .int (xw), .int (x), .int (y)] : List Value).toArray below meth c D A 15 false 0 0 (MQ below (wrQ D (wB D a f na w td vl L pt fl kd kp (fqa pq) (fqa ps) (tlW D pq ps)) s.heap.size (lwP D a ps (wB D a f na w td vl L pt fl kd kp (fqa pq) (fqa ps) (tlW D pq ps)) (cr + 1))) ([.ref (a 19), .int (xw), .int (x), .int (y)] : List Value).toArray s 112 2380 (va_A (wB D a f na w td vl L pt fl kd kp (fqa pq) (fqa ps) (tlW D pq ps)) s.heap.size)) (wB D a f na w td vl L pt fl kd kp (fqa pq) (fqa ps) (tlW D pq ps)) 839 [(13, .int (nI i)), (12, .int (f 81)), (11, .int (nI (cnI (ofDoor f (nI g) (nI u807)) i))), (10, .int (nI u807)), (9, .int (nI g)), (8, .int (-6)), (7, .int (nI rt)), (6, .int (nI mk)), (5, .int (nI pg)), (4, .int (nI g)), (0, .ref (a 19)), (1, .int (xw)), (2, .int (x)), (3, .int (y))] [] := by
          intro jj
          induction jj using Nat.strongRecOn with
          | _ jj ih =>
          intro i hi hj
          have hcl := cnI_le (ofDoor f (nI g) (nI u807)) i
          refine g_iload X dL_act_839 0 rfl rfl ?_
          refine g_aload_n X dL_act_841 rfl 10 rfl rfl ?_
          refine g_iconst (v := (2 : Int32)) X dL_act_842 (by decide) rfl ?_
          refine g_callVRX (w0 := []) (n := 1) (As := [_]) (rest := [_]) X (c_X6_count l D a f na w td vl L pt fl kd kp (fqa pq) (fqa ps) (tlW D pq ps) mk n b hW hNR _) gL_act_X6_count rfl (by decide +kernel) ⟨Nat.le_of_ble_eq_true rfl, Nat.le_of_ble_eq_true rfl⟩ 20 rfl rfl rfl rfl rfl (Nat.le_of_ble_eq_true rfl) dL_act_843 ⟨Nat.le_of_ble_eq_true rfl, Nat.le_of_ble_eq_true rfl⟩ rfl (fun v hv => ?_)
          obtain rfl := hv
          refine g_st (st' := [_, _]) rfl ?_
          refine g_topi (oC2.trans hn8) ?_
          refine g_icmp_ge X dL_act_846 882 (by decide) rfl (fun h846 => ?_) (fun h846 => ?_)
          · have i846 := nj_le (a := n) (b := i) (by omega) (by omega) h846
            rw [show i = n from by omega]
            refine g_lv [1, 2, 3, 4, 5, 6, 7, 8, 9, 10, 11, 12, 13] [(12, _), (11, _), (10, _), (9, _), (8, _), (7, _), (6, _), (5, _), (4, _), (0, _), (1, _), (2, _), (3, _)] rfl ?_
            exact L882 _ (Or.inr ⟨h833, rfl⟩)
          · have i846 := nj_nle (a := n) (b := i) (by omega) (by omega) h846
            refine g_aload_n X dL_act_849 rfl 10 rfl rfl ?_
            refine g_iload X dL_act_850 0 rfl rfl ?_
            refine g_iconst (v := (0 : Int32)) X dL_act_852 (by decide) rfl ?_
            refine g_callVRX (w0 := []) (n := 2) (As := [_, _]) (rest := []) X (c_X6_note l D a f na w td vl L pt fl kd kp (fqa pq) (fqa ps) (tlW D pq ps) mk n b hW hNR _ _) gL_act_X6_note rfl (by decide +kernel) ⟨Nat.le_of_ble_eq_true rfl, Nat.le_of_ble_eq_true rfl⟩ 20 rfl rfl rfl rfl rfl (Nat.le_of_ble_eq_true rfl) dL_act_853 ⟨Nat.le_of_ble_eq_true rfl, Nat.le_of_ble_eq_true rfl⟩ rfl (fun v hv => ?_)
            obtain rfl := hv
            refine g_st (st' := [_]) rfl ?_
            refine g_topi (oNt (k := i) 0 eN2 (by omega) hm8 rfl (by decide)) ?_
            refine g_iload X dL_act_856 4 rfl rfl ?_
            refine g_icmp_ne X dL_act_858 876 (by decide) rfl (fun h858 => ?_) (fun h858 => ?_)
            · refine g_iinc (v := nI (i + 1)) X [(13, _), (12, _), (11, _), (10, _), (9, _), (8, _), (7, _), (6, _), (5, _), (4, _), (0, _), (1, _), (2, _), (3, _)] dL_act_876 0 rfl (nI_add i 1) (by decide) rfl rfl ?_
              refine g_goto X dL_act_879 839 (by decide) ?_
              refine g_lve [(13, .int (nI (i + 1))), (12, .int (f 81)), (11, .int (nI (cnI (ofDoor f (nI g) (nI u807)) (i + 1)))), (10, .int (nI u807)), (9, .int (nI g)), (8, .int (-6)), (7, .int (nI rt)), (6, .int (nI mk)), (5, .int (nI pg)), (4, .int (nI g)), (0, .ref (a 19)), (1, .int (xw)), (2, .int (x)), (3, .int (y))] (by rw [cnI_f (show (ofDoor f (nI g) (nI u807)) i = false from by unfold ofDoor; rw [decide_eq_false h858, Bool.false_and])]) ?_
              exact ih (n - (i + 1)) (by omega) (i + 1) (by omega) rfl
            · refine g_aload_n X dL_act_861 rfl 10 rfl rfl ?_
              refine g_iload X dL_act_862 0 rfl rfl ?_
              refine g_iconst (v := (1 : Int32)) X dL_act_864 (by decide) rfl ?_
              refine g_callVRX (w0 := []) (n := 2) (As := [_, _]) (rest := []) X (c_X6_note l D a f na w td vl L pt fl kd kp (fqa pq) (fqa ps) (tlW D pq ps) mk n b hW hNR _ _) gL_act_X6_note rfl (by decide +kernel) ⟨Nat.le_of_ble_eq_true rfl, Nat.le_of_ble_eq_true rfl⟩ 20 rfl rfl rfl rfl rfl (Nat.le_of_ble_eq_true rfl) dL_act_865 ⟨Nat.le_of_ble_eq_true rfl, Nat.le_of_ble_eq_true rfl⟩ rfl (fun v hv => ?_)
              obtain rfl := hv
              refine g_st (st' := [_]) rfl ?_
              refine g_topi (oNt (k := i) 1 eN2 (by omega) hm8 rfl (by decide)) ?_
              refine g_iload X dL_act_868 3 rfl rfl ?_
              refine g_icmp_ne X dL_act_870 876 (by decide) rfl (fun h870 => ?_) (fun h870 => ?_)
              · refine g_iinc (v := nI (i + 1)) X [(13, _), (12, _), (11, _), (10, _), (9, _), (8, _), (7, _), (6, _), (5, _), (4, _), (0, _), (1, _), (2, _), (3, _)] dL_act_876 0 rfl (nI_add i 1) (by decide) rfl rfl ?_
                refine g_goto X dL_act_879 839 (by decide) ?_
                refine g_lve [(13, .int (nI (i + 1))), (12, .int (f 81)), (11, .int (nI (cnI (ofDoor f (nI g) (nI u807)) (i + 1)))), (10, .int (nI u807)), (9, .int (nI g)), (8, .int (-6)), (7, .int (nI rt)), (6, .int (nI mk)), (5, .int (nI pg)), (4, .int (nI g)), (0, .ref (a 19)), (1, .int (xw)), (2, .int (x)), (3, .int (y))] (by rw [cnI_f (show (ofDoor f (nI g) (nI u807)) i = false from by unfold ofDoor; rw [decide_eq_false h870, Bool.and_false])]) ?_
                exact ih (n - (i + 1)) (by omega) (i + 1) (by omega) rfl
              · refine g_iinc (v := nI ((cnI (ofDoor f (nI g) (nI u807)) i) + 1)) X [(11, _), (13, _), (12, _), (10, _), (9, _), (8, _), (7, _), (6, _), (5, _), (4, _), (0, _), (1, _), (2, _), (3, _)] dL_act_873 2 rfl (nI_add (cnI (ofDoor f (nI g) (nI u807)) i) 1) (by decide) rfl rfl ?_
                refine g_iinc (v := nI (i + 1)) X [(13, _), (11, _), (12, _), (10, _), (9, _), (8, _), (7, _), (6, _), (5, _), (4, _), (0, _), (1, _), (2, _), (3, _)] dL_act_876 1 rfl (nI_add i 1) (by decide) rfl rfl ?_
                refine g_goto X dL_act_879 839 (by decide) ?_
                refine g_lve [(13, .int (nI (i + 1))), (11, .int (nI (cnI (ofDoor f (nI g) (nI u807)) (i + 1)))), (12, .int (f 81)), (10, .int (nI u807)), (9, .int (nI g)), (8, .int (-6)), (7, .int (nI rt)), (6, .int (nI mk)), (5, .int (nI pg)), (4, .int (nI g)), (0, .ref (a 19)), (1, .int (xw)), (2, .int (x)), (3, .int (y))] (by rw [cnI_t (show (ofDoor f (nI g) (nI u807)) i = true from by unfold ofDoor; rw [decide_eq_true h858, decide_eq_true h870]; rfl)]) ?_
                refine g_lv [0, 2, 1, 3, 4, 5, 6, 7, 8, 9, 10, 11, 12, 13] [(13, _), (12, _), (11, _), (10, _), (9, _), (8, _), (7, _), (6, _), (5, _), (4, _), (0, _), (1, _), (2, _), (3, _)] rfl ?_
                exact ih (n - (i + 1)) (by omega) (i + 1) (by omega) rfl
        exact L839 n 0 (by omega) rfl
    · refine g_iload X dL_act_772 0 rfl rfl ?_
      refine g_if_lt X dL_act_774 798 (by decide) rfl (fun h774 => absurd h774 (nI_pos (by omega))) (fun h774 => ?_)
      have i774 := nj_nlt (a := tq) (b := 0) (by omega) (by omega) h774
      refine g_iload_n X dL_act_777 rfl 7 rfl rfl ?_
      refine g_bipush (v := (9 : Int32)) X dL_act_778 (by decide) rfl ?_
      refine g_ishr X dL_act_780 rfl ?_
      refine g_iconst (v := (5 : Int32)) X dL_act_781 (by decide) rfl ?_
      refine g_callSR (n := 2) (As := [_, _]) (rest := []) X (c_L_up l D ((x >>> ((9 : Int32) &&& 31))) 5 (by omega)) gL_act_L_up rfl (by decide +kernel) ⟨Nat.le_of_ble_eq_true rfl, Nat.le_of_ble_eq_true rfl⟩ [] rfl rfl rfl rfl (Nat.le_of_ble_eq_true rfl) dL_act_782 ⟨Nat.le_of_ble_eq_true rfl, Nat.le_of_ble_eq_true rfl⟩ rfl (fun v hv => ?_)
      obtain rfl := hv
      refine g_st (st' := [_]) rfl ?_
      refine g_upn (by omega) (fun u782 hu782 eu782 => ?_)
      refine g_if_le X dL_act_785 798 (by decide) rfl (fun h785 => ?_) (fun h785 => ?_)
      · have i785 := nj_le (a := u782) (b := 0) (by omega) (by omega) h785
        refine g_iload X dL_act_798 4 rfl rfl ?_
        refine g_istore X [(9, _), (8, _), (7, _), (6, _), (5, _), (4, _), (0, _), (1, _), (2, _), (3, _)] dL_act_800 (by decide) rfl rfl ?_
        refine g_iload_n X dL_act_802 rfl 8 rfl rfl ?_
        refine g_bipush (v := (12 : Int32)) X dL_act_803 (by decide) rfl ?_
        refine g_ishr X dL_act_805 rfl ?_
        refine g_iconst (v := (3 : Int32)) X dL_act_806 (by decide) rfl ?_
        refine g_callSR (n := 2) (As := [_, _]) (rest := []) X (c_L_up l D ((x >>> ((12 : Int32) &&& 31))) 3 (by omega)) gL_act_L_up rfl (by decide +kernel) ⟨Nat.le_of_ble_eq_true rfl, Nat.le_of_ble_eq_true rfl⟩ [] rfl rfl rfl rfl (Nat.le_of_ble_eq_true rfl) dL_act_807 ⟨Nat.le_of_ble_eq_true rfl, Nat.le_of_ble_eq_true rfl⟩ rfl (fun v hv => ?_)
        obtain rfl := hv
        refine g_st (st' := [_]) rfl ?_
        refine g_upn (by omega) (fun u807 hu807 eu807 => ?_)
        refine g_istore X [(10, _), (9, _), (8, _), (7, _), (6, _), (5, _), (4, _), (0, _), (1, _), (2, _), (3, _)] dL_act_810 (by decide) rfl rfl ?_
        refine g_iconst (v := (0 : Int32)) X dL_act_812 (by decide) rfl ?_
        refine g_istore X [(11, _), (10, _), (9, _), (8, _), (7, _), (6, _), (5, _), (4, _), (0, _), (1, _), (2, _), (3, _)] dL_act_813 (by decide) rfl rfl ?_
        refine g_aload_n X dL_act_815 rfl 8 rfl rfl ?_
        refine g_bipush (v := (7 : Int32)) X dL_act_816 (by decide) rfl ?_
        refine g_callVRX (w0 := []) (n := 1) (As := [_]) (rest := []) X (c_X6_count l D a f na w td vl L pt fl kd kp (fqa pq) (fqa ps) (tlW D pq ps) mk n b hW hNR _) gL_act_X6_count rfl (by decide +kernel) ⟨Nat.le_of_ble_eq_true rfl, Nat.le_of_ble_eq_true rfl⟩ 20 rfl rfl rfl rfl rfl (Nat.le_of_ble_eq_true rfl) dL_act_818 ⟨Nat.le_of_ble_eq_true rfl, Nat.le_of_ble_eq_true rfl⟩ rfl (fun v hv => ?_)
        obtain rfl := hv
        refine g_st (st' := [_]) rfl ?_
        refine g_topi (oC7) ?_
        refine g_istore X [(12, _), (11, _), (10, _), (9, _), (8, _), (7, _), (6, _), (5, _), (4, _), (0, _), (1, _), (2, _), (3, _)] dL_act_821 (by decide) rfl rfl ?_
        have L882 : ∀ (cn : Nat) (hcn : (ledM f g u807 = nI tq ∧ cn = 0) ∨ (¬ ledM f g u807 = nI tq ∧ cn = cnI (ofDoor f (nI g) (nI u807)) n)), GG p l e (wRoom 9 218 112 2380) s m ([.ref (a 19), .int (xw), .int (x), .int (y)] : List Value).toArray below meth c D A 15 false 0 0 (MQ below (wrQ D (wB D a f na w td vl L pt fl kd kp (fqa pq) (fqa ps) (tlW D pq ps)) s.heap.size (lwP D a ps (wB D a f na w td vl L pt fl kd kp (fqa pq) (fqa ps) (tlW D pq ps)) (cr + 1))) ([.ref (a 19), .int (xw), .int (x), .int (y)] : List Value).toArray s 112 2380 (va_A (wB D a f na w td vl L pt fl kd kp (fqa pq) (fqa ps) (tlW D pq ps)) s.heap.size)) (wB D a f na w td vl L pt fl kd kp (fqa pq) (fqa ps) (tlW D pq ps)) 882 [(12, .int (f 81)), (11, .int (nI cn)), (10, .int (nI u807)), (9, .int (nI g)), (8, .int (nI tq)), (7, .int (nI rt)), (6, .int (nI mk)), (5, .int (nI pg)), (4, .int (nI g)), (0, .ref (a 19)), (1, .int (xw)), (2, .int (x)), (3, .int (y))] [] := by
          intro cn hcn
          have hcl := cnI_le (ofDoor f (nI g) (nI u807)) n
          have hcb : cn ≤ n := by rcases hcn with ⟨-, z⟩ | ⟨-, z⟩ <;> omega
          refine g_aload_n X dL_act_882 rfl 9 rfl rfl ?_
          refine g_iload X dL_act_883 3 rfl rfl ?_
          refine g_iload X dL_act_885 2 rfl rfl ?_
          refine g_iload X dL_act_887 4 rfl rfl ?_
          refine g_callVXs (n := 3) (As := [_, _, _]) (rest := []) X hAg rfl (c_X6_door l D a f na w td vl L pt fl kd kp pq ps mk n b hW hNR hF hkp hHL.hq _ _ _) gL_act_X6_door rfl (by decide +kernel) ⟨Nat.le_of_ble_eq_true rfl, Nat.le_of_ble_eq_true rfl⟩ 20 rfl rfl rfl rfl (Nat.le_of_ble_eq_true rfl) dL_act_889 ⟨Nat.le_of_ble_eq_true rfl, Nat.le_of_ble_eq_true rfl⟩ rfl (fun v w9 hv => ?_)
          obtain ⟨rfl, fA, naA, wA, kpA, pqA, efA, hNA, hAA, hkpA, hHLA, ekA, rfl⟩ := ch_out hv hkp hHL hF ⟨_, hNR, hn8⟩
          have hADA := hAA
          refine ⟨hAA, ?_⟩
          refine g_st (st' := [_]) rfl ?_
          obtain ⟨hrx, hWA, hSA, hldA, h81A, hntA, -⟩ := door_chg hW hS (by omega) (by omega) (Or.inr ⟨tq, htq, rfl⟩) hcn efA
          refine g_topi (hrx) ?_
          have hNRA := hNA.to hWA
          have hFA : FB fA := by rw [efA]; exact door_fb ⟨mk, n, b, hW⟩ hF
          obtain ⟨hmkA, hm40A, hn8A, hb0A, hb0A1, hb0A8, hn8Ab, hstA, hnoA, howA, hdoA, hb0Aa, hb0Ac, hb0Ad, hb0Az⟩ := id hWA
          have hm8A : (n - cn) ≤ 8 := by omega
          obtain ⟨eN1A, eN2A, -⟩ := hWA.N
          refine g_iload X dL_act_892 1 rfl rfl ?_
          refine g_icmp_ne X dL_act_894 941 (by decide) rfl (fun h894 => absurd rfl h894) (fun h894 => ?_)
          refine g_aload_n X dL_act_897 rfl 9 rfl rfl ?_
          refine g_iload X dL_act_898 3 rfl rfl ?_
          refine g_iload X dL_act_900 2 rfl rfl ?_
          refine g_callVRX (w0 := []) (n := 2) (As := [_, _]) (rest := []) X (c_X6_leads l D a fA naA wA td vl L pt fl kd kpA (fqa pqA) (fqa ps) (tlW D pqA ps) mk (n - cn) b hWA hNRA _ _) gL_act_X6_leads rfl (by decide +kernel) ⟨Nat.le_of_ble_eq_true rfl, Nat.le_of_ble_eq_true rfl⟩ 20 rfl rfl rfl rfl rfl (Nat.le_of_ble_eq_true rfl) dL_act_902 ⟨Nat.le_of_ble_eq_true rfl, Nat.le_of_ble_eq_true rfl⟩ rfl (fun v hv => ?_)
          obtain rfl := hv
          refine g_st (st' := [_]) rfl ?_
          refine g_topi (oLd (g := g) (d := u807) (by omega) (by omega)) ?_
          refine g_topi (hldA) ?_
          refine g_iload X dL_act_905 4 rfl rfl ?_
          refine g_icmp_ne X dL_act_907 941 (by decide) rfl (fun h907 => absurd rfl h907) (fun h907 => ?_)
          refine g_aload_n X dL_act_910 rfl 9 rfl rfl ?_
          refine g_bipush (v := (7 : Int32)) X dL_act_911 (by decide) rfl ?_
          refine g_callVRX (w0 := []) (n := 1) (As := [_]) (rest := []) X (c_X6_count l D a fA naA wA td vl L pt fl kd kpA (fqa pqA) (fqa ps) (tlW D pqA ps) mk (n - cn) b hWA hNRA _) gL_act_X6_count rfl (by decide +kernel) ⟨Nat.le_of_ble_eq_true rfl, Nat.le_of_ble_eq_true rfl⟩ 20 rfl rfl rfl rfl rfl (Nat.le_of_ble_eq_true rfl) dL_act_913 ⟨Nat.le_of_ble_eq_true rfl, Nat.le_of_ble_eq_true rfl⟩ rfl (fun v hv => ?_)
          obtain rfl := hv
          refine g_st (st' := [_]) rfl ?_
          refine g_topi (oC7) ?_
          refine g_topi (h81A) ?_
          refine g_iload X dL_act_916 0 rfl rfl ?_
          refine g_iload X dL_act_918 1 rfl rfl ?_
          refine g_iadd X dL_act_920 rfl ?_
          refine g_icmp_ne X dL_act_921 941 (by decide) rfl (fun h921 => absurd rfl h921) (fun h921 => ?_)
          refine g_aload_n X dL_act_924 rfl 9 rfl rfl ?_
          refine g_iload X dL_act_925 3 rfl rfl ?_
          refine g_iload X dL_act_927 2 rfl rfl ?_
          refine g_iload X dL_act_929 1 rfl rfl ?_
          refine g_callSRX (w0 := []) (n := 4) (As := [_, _, _, _]) (rest := []) X (c_L_noted l D a fA naA wA td vl L pt fl kd kpA (fqa pqA) (fqa ps) (tlW D pqA ps) mk (n - cn) b hWA hNRA g u807 cn (by omega) (by omega) (by omega) hntA) gL_act_L_noted rfl (by decide +kernel) ⟨Nat.le_of_ble_eq_true rfl, Nat.le_of_ble_eq_true rfl⟩ rfl rfl rfl (Nat.le_of_ble_eq_true rfl) dL_act_931 ⟨Nat.le_of_ble_eq_true rfl, Nat.le_of_ble_eq_true rfl⟩ rfl (fun v hv => ?_)
          obtain rfl := hv
          refine g_st (st' := [_]) rfl ?_
          refine g_if_ne X dL_act_934 941 (by decide) rfl (fun h934 => absurd h934 (by decide)) (fun h934 => ?_)
          refine g_iconst (v := (1 : Int32)) X dL_act_937 (by decide) rfl ?_
          refine g_goto X dL_act_938 942 (by decide) ?_
          refine g_widen 112 2380 (Nat.le_of_ble_eq_true rfl) (Nat.le_of_ble_eq_true rfl) ?_
          refine g_retW X hr (by first | rfl | exact b2i_nar _) dL_act_942 hAe ?_
          exact ⟨rfl, fA, naA, wA, td, vl, L, pt, fl, kd, kpA, pqA, ⟨⟨_, _, _, hWA⟩, ⟨_, hNRA, hn8A⟩, hFA, (SI_le (Nat.le_succ _) hSA), hL, hch, hkpA, _, hHLA⟩, hADA, rfl⟩
        refine g_aload_n X dL_act_823 rfl 9 rfl rfl ?_
        refine g_iload X dL_act_824 3 rfl rfl ?_
        refine g_iload X dL_act_826 2 rfl rfl ?_
        refine g_callVRX (w0 := []) (n := 2) (As := [_, _]) (rest := []) X (c_X6_leads l D a f na w td vl L pt fl kd kp (fqa pq) (fqa ps) (tlW D pq ps) mk n b hW hNR _ _) gL_act_X6_leads rfl (by decide +kernel) ⟨Nat.le_of_ble_eq_true rfl, Nat.le_of_ble_eq_true rfl⟩ 20 rfl rfl rfl rfl rfl (Nat.le_of_ble_eq_true rfl) dL_act_828 ⟨Nat.le_of_ble_eq_true rfl, Nat.le_of_ble_eq_true rfl⟩ rfl (fun v hv => ?_)
        obtain rfl := hv
        refine g_st (st' := [_]) rfl ?_
        refine g_topi (oLd (g := g) (d := u807) (by omega) (by omega)) ?_
        refine g_iload X dL_act_831 4 rfl rfl ?_
        refine g_icmp_eq X dL_act_833 882 (by decide) rfl (fun h833 => ?_) (fun h833 => ?_)
        · exact L882 0 (Or.inl ⟨h833, rfl⟩)
        · refine g_iconst (v := (0 : Int32)) X dL_act_836 (by decide) rfl ?_
          refine g_istore X [(13, _), (12, _), (11, _), (10, _), (9, _), (8, _), (7, _), (6, _), (5, _), (4, _), (0, _), (1, _), (2, _), (3, _)] dL_act_837 (by decide) rfl rfl ?_
          have L839 : ∀ (jj i : Nat) (hi : i ≤ n) (hj : n - i = jj), GG p l e (wRoom 9 218 112 2380) s m ([.ref (a 19), .int (xw), .int (x), .int (y)] : List Value).toArray below meth c D A 15 false 0 0 (MQ below (wrQ D (wB D a f na w td vl L pt fl kd kp (fqa pq) (fqa ps) (tlW D pq ps)) s.heap.size (lwP D a ps (wB D a f na w td vl L pt fl kd kp (fqa pq) (fqa ps) (tlW D pq ps)) (cr + 1))) ([.ref (a 19), .int (xw), .int (x), .int (y)] : List Value).toArray s 112 2380 (va_A (wB D a f na w td vl L pt fl kd kp (fqa pq) (fqa ps) (tlW D pq ps)) s.heap.size)) (wB D a f na w td vl L pt fl kd kp (fqa pq) (fqa ps) (tlW D pq ps)) 839 [(13, .int (nI i)), (12, .int (f 81)), (11, .int (nI (cnI (ofDoor f (nI g) (nI u807)) i))), (10, .int (nI u807)), (9, .int (nI g)), (8, .int (nI tq)), (7, .int (nI rt)), (6, .int (nI mk)), (5, .int (nI pg)), (4, .int (nI g)), (0, .ref (a 19)), (1, .int (xw)), (2, .int (x)), (3, .int (y))] [] := by
            intro jj
            induction jj using Nat.strongRecOn with
            | _ jj ih =>
            intro i hi hj
            have hcl := cnI_le (ofDoor f (nI g) (nI u807)) i
            refine g_iload X dL_act_839 0 rfl rfl ?_
            refine g_aload_n X dL_act_841 rfl 10 rfl rfl ?_
            refine g_iconst (v := (2 : Int32)) X dL_act_842 (by decide) rfl ?_
            refine g_callVRX (w0 := []) (n := 1) (As := [_]) (rest := [_]) X (c_X6_count l D a f na w td vl L pt fl kd kp (fqa pq) (fqa ps) (tlW D pq ps) mk n b hW hNR _) gL_act_X6_count rfl (by decide +kernel) ⟨Nat.le_of_ble_eq_true rfl, Nat.le_of_ble_eq_true rfl⟩ 20 rfl rfl rfl rfl rfl (Nat.le_of_ble_eq_true rfl) dL_act_843 ⟨Nat.le_of_ble_eq_true rfl, Nat.le_of_ble_eq_true rfl⟩ rfl (fun v hv => ?_)
            obtain rfl := hv
            refine g_st (st' := [_, _]) rfl ?_
            refine g_topi (oC2.trans hn8) ?_
            refine g_icmp_ge X dL_act_846 882 (by decide) rfl (fun h846 => ?_) (fun h846 => ?_)
            · have i846 := nj_le (a := n) (b := i) (by omega) (by omega) h846
              rw [show i = n from by omega]
              refine g_lv [1, 2, 3, 4, 5, 6, 7, 8, 9, 10, 11, 12, 13] [(12, _), (11, _), (10, _), (9, _), (8, _), (7, _), (6, _), (5, _), (4, _), (0, _), (1, _), (2, _), (3, _)] rfl ?_
              exact L882 _ (Or.inr ⟨h833, rfl⟩)
            · have i846 := nj_nle (a := n) (b := i) (by omega) (by omega) h846
              refine g_aload_n X dL_act_849 rfl 10 rfl rfl ?_
              refine g_iload X dL_act_850 0 rfl rfl ?_
              refine g_iconst (v := (0 : Int32)) X dL_act_852 (by decide) rfl ?_
              refine g_callVRX (w0 := []) (n := 2) (As := [_, _]) (rest := []) X (c_X6_note l D a f na w td vl L pt fl kd kp (fqa pq) (fqa ps) (tlW D pq ps) mk n b hW hNR _ _) gL_act_X6_note rfl (by decide +kernel) ⟨Nat.le_of_ble_eq_true rfl, Nat.le_of_ble_eq_true rfl⟩ 20 rfl rfl rfl rfl rfl (Nat.le_of_ble_eq_true rfl) dL_act_853 ⟨Nat.le_of_ble_eq_true rfl, Nat.le_of_ble_eq_true rfl⟩ rfl (fun v hv => ?_)
              obtain rfl := hv
              refine g_st (st' := [_]) rfl ?_
              refine g_topi (oNt (k := i) 0 eN2 (by omega) hm8 rfl (by decide)) ?_
              refine g_iload X dL_act_856 4 rfl rfl ?_
              refine g_icmp_ne X dL_act_858 876 (by decide) rfl (fun h858 => ?_) (fun h858 => ?_)
              · refine g_iinc (v := nI (i + 1)) X [(13, _), (12, _), (11, _), (10, _), (9, _), (8, _), (7, _), (6, _), (5, _), (4, _), (0, _), (1, _), (2, _), (3, _)] dL_act_876 0 rfl (nI_add i 1) (by decide) rfl rfl ?_
                refine g_goto X dL_act_879 839 (by decide) ?_
                refine g_lve [(13, .int (nI (i + 1))), (12, .int (f 81)), (11, .int (nI (cnI (ofDoor f (nI g) (nI u807)) (i + 1)))), (10, .int (nI u807)), (9, .int (nI g)), (8, .int (nI tq)), (7, .int (nI rt)), (6, .int (nI mk)), (5, .int (nI pg)), (4, .int (nI g)), (0, .ref (a 19)), (1, .int (xw)), (2, .int (x)), (3, .int (y))] (by rw [cnI_f (show (ofDoor f (nI g) (nI u807)) i = false from by unfold ofDoor; rw [decide_eq_false h858, Bool.false_and])]) ?_
                exact ih (n - (i + 1)) (by omega) (i + 1) (by omega) rfl
              · refine g_aload_n X dL_act_861 rfl 10 rfl rfl ?_
                refine g_iload X dL_act_862 0 rfl rfl ?_
                refine g_iconst (v := (1 : Int32)) X dL_act_864 (by decide) rfl ?_
                refine g_callVRX (w0 := []) (n := 2) (As := [_, _]) (rest := []) X (c_X6_note l D a f na w td vl L pt fl kd kp (fqa pq) (fqa ps) (tlW D pq ps) mk n b hW hNR _ _) gL_act_X6_note rfl (by decide +kernel) ⟨Nat.le_of_ble_eq_true rfl, Nat.le_of_ble_eq_true rfl⟩ 20 rfl rfl rfl rfl rfl (Nat.le_of_ble_eq_true rfl) dL_act_865 ⟨Nat.le_of_ble_eq_true rfl, Nat.le_of_ble_eq_true rfl⟩ rfl (fun v hv => ?_)
                obtain rfl := hv
                refine g_st (st' := [_]) rfl ?_
                refine g_topi (oNt (k := i) 1 eN2 (by omega) hm8 rfl (by decide)) ?_
                refine g_iload X dL_act_868 3 rfl rfl ?_
                refine g_icmp_ne X dL_act_870 876 (by decide) rfl (fun h870 => ?_) (fun h870 => ?_)
                · refine g_iinc (v := nI (i + 1)) X [(13, _), (12, _), (11, _), (10, _), (9, _), (8, _), (7, _), (6, _), (5, _), (4, _), (0, _), (1, _), (2, _), (3, _)] dL_act_876 0 rfl (nI_add i 1) (by decide) rfl rfl ?_
                  refine g_goto X dL_act_879 839 (by decide) ?_
                  refine g_lve [(13, .int (nI (i + 1))), (12, .int (f 81)), (11, .int (nI (cnI (ofDoor f (nI g) (nI u807)) (i + 1)))), (10, .int (nI u807)), (9, .int (nI g)), (8, .int (nI tq)), (7, .int (nI rt)), (6, .int (nI mk)), (5, .int (nI pg)), (4, .int (nI g)), (0, .ref (a 19)), (1, .int (xw)), (2, .int (x)), (3, .int (y))] (by rw [cnI_f (show (ofDoor f (nI g) (nI u807)) i = false from by unfold ofDoor; rw [decide_eq_false h870, Bool.and_false])]) ?_
                  exact ih (n - (i + 1)) (by omega) (i + 1) (by omega) rfl
                · refine g_iinc (v := nI ((cnI (ofDoor f (nI g) (nI u807)) i) + 1)) X [(11, _), (13, _), (12, _), (10, _), (9, _), (8, _), (7, _), (6, _), (5, _), (4, _), (0, _), (1, _), (2, _), (3, _)] dL_act_873 2 rfl (nI_add (cnI (ofDoor f (nI g) (nI u807)) i) 1) (by decide) rfl rfl ?_
                  refine g_iinc (v := nI (i + 1)) X [(13, _), (11, _), (12, _), (10, _), (9, _), (8, _), (7, _), (6, _), (5, _), (4, _), (0, _), (1, _), (2, _), (3, _)] dL_act_876 1 rfl (nI_add i 1) (by decide) rfl rfl ?_
                  refine g_goto X dL_act_879 839 (by decide) ?_
                  refine g_lve [(13, .int (nI (i + 1))), (11, .int (nI (cnI (ofDoor f (nI g) (nI u807)) (i + 1)))), (12, .int (f 81)), (10, .int (nI u807)), (9, .int (nI g)), (8, .int (nI tq)), (7, .int (nI rt)), (6, .int (nI mk)), (5, .int (nI pg)), (4, .int (nI g)), (0, .ref (a 19)), (1, .int (xw)), (2, .int (x)), (3, .int (y))] (by rw [cnI_t (show (ofDoor f (nI g) (nI u807)) i = true from by unfold ofDoor; rw [decide_eq_true h858, decide_eq_true h870]; rfl)]) ?_
                  refine g_lv [0, 2, 1, 3, 4, 5, 6, 7, 8, 9, 10, 11, 12, 13] [(13, _), (12, _), (11, _), (10, _), (9, _), (8, _), (7, _), (6, _), (5, _), (4, _), (0, _), (1, _), (2, _), (3, _)] rfl ?_
                  exact ih (n - (i + 1)) (by omega) (i + 1) (by omega) rfl
          exact L839 n 0 (by omega) rfl
      · have i785 := nj_nle (a := u782) (b := 0) (by omega) (by omega) h785
        refine g_aload_n X dL_act_788 rfl 5 rfl rfl ?_
        refine g_iload X dL_act_789 0 rfl rfl ?_
        refine g_iconst (v := (2 : Int32)) X dL_act_791 (by decide) rfl ?_
        refine g_callVRX (w0 := []) (n := 2) (As := [_, _]) (rest := []) X (c_X6_ofStamp l D a f na w td vl L pt fl kd kp (fqa pq) (fqa ps) (tlW D pq ps) mk n b hW hNR _ _) gL_act_X6_ofStamp rfl (by decide +kernel) ⟨Nat.le_of_ble_eq_true rfl, Nat.le_of_ble_eq_true rfl⟩ 20 rfl rfl rfl rfl rfl (Nat.le_of_ble_eq_true rfl) dL_act_792 ⟨Nat.le_of_ble_eq_true rfl, Nat.le_of_ble_eq_true rfl⟩ rfl (fun v hv => ?_)
        obtain rfl := hv
        refine g_st (st' := [_]) rfl ?_
        refine g_topi (oSt (q := tq) 2 eN1 (by omega) hm40 rfl (by decide)) ?_
        obtain ⟨-, -, ⟨ho, hho, eho⟩, -, -, -, -⟩ := id (hst tq htq)
        refine g_topi (eho) ?_
        refine g_goto X dL_act_795 800 (by decide) ?_
        refine g_istore X [(9, _), (8, _), (7, _), (6, _), (5, _), (4, _), (0, _), (1, _), (2, _), (3, _)] dL_act_800 (by decide) rfl rfl ?_
        refine g_iload_n X dL_act_802 rfl 8 rfl rfl ?_
        refine g_bipush (v := (12 : Int32)) X dL_act_803 (by decide) rfl ?_
        refine g_ishr X dL_act_805 rfl ?_
        refine g_iconst (v := (3 : Int32)) X dL_act_806 (by decide) rfl ?_
        refine g_callSR (n := 2) (As := [_, _]) (rest := []) X (c_L_up l D ((x >>> ((12 : Int32) &&& 31))) 3 (by omega)) gL_act_L_up rfl (by decide +kernel) ⟨Nat.le_of_ble_eq_true rfl, Nat.le_of_ble_eq_true rfl⟩ [] rfl rfl rfl rfl (Nat.le_of_ble_eq_true rfl) dL_act_807 ⟨Nat.le_of_ble_eq_true rfl, Nat.le_of_ble_eq_true rfl⟩ rfl (fun v hv => ?_)
        obtain rfl := hv
        refine g_st (st' := [_]) rfl ?_
        refine g_upn (by omega) (fun u807 hu807 eu807 => ?_)
        refine g_istore X [(10, _), (9, _), (8, _), (7, _), (6, _), (5, _), (4, _), (0, _), (1, _), (2, _), (3, _)] dL_act_810 (by decide) rfl rfl ?_
        refine g_iconst (v := (0 : Int32)) X dL_act_812 (by decide) rfl ?_
        refine g_istore X [(11, _), (10, _), (9, _), (8, _), (7, _), (6, _), (5, _), (4, _), (0, _), (1, _), (2, _), (3, _)] dL_act_813 (by decide) rfl rfl ?_
        refine g_aload_n X dL_act_815 rfl 8 rfl rfl ?_
        refine g_bipush (v := (7 : Int32)) X dL_act_816 (by decide) rfl ?_
        refine g_callVRX (w0 := []) (n := 1) (As := [_]) (rest := []) X (c_X6_count l D a f na w td vl L pt fl kd kp (fqa pq) (fqa ps) (tlW D pq ps) mk n b hW hNR _) gL_act_X6_count rfl (by decide +kernel) ⟨Nat.le_of_ble_eq_true rfl, Nat.le_of_ble_eq_true rfl⟩ 20 rfl rfl rfl rfl rfl (Nat.le_of_ble_eq_true rfl) dL_act_818 ⟨Nat.le_of_ble_eq_true rfl, Nat.le_of_ble_eq_true rfl⟩ rfl (fun v hv => ?_)
        obtain rfl := hv
        refine g_st (st' := [_]) rfl ?_
        refine g_topi (oC7) ?_
        refine g_istore X [(12, _), (11, _), (10, _), (9, _), (8, _), (7, _), (6, _), (5, _), (4, _), (0, _), (1, _), (2, _), (3, _)] dL_act_821 (by decide) rfl rfl ?_
        have L882 : ∀ (cn : Nat) (hcn : (ledM f ho u807 = nI tq ∧ cn = 0) ∨ (¬ ledM f ho u807 = nI tq ∧ cn = cnI (ofDoor f (nI ho) (nI u807)) n)), GG p l e (wRoom 9 218 112 2380) s m ([.ref (a 19), .int (xw), .int (x), .int (y)] : List Value).toArray below meth c D A 15 false 0 0 (MQ below (wrQ D (wB D a f na w td vl L pt fl kd kp (fqa pq) (fqa ps) (tlW D pq ps)) s.heap.size (lwP D a ps (wB D a f na w td vl L pt fl kd kp (fqa pq) (fqa ps) (tlW D pq ps)) (cr + 1))) ([.ref (a 19), .int (xw), .int (x), .int (y)] : List Value).toArray s 112 2380 (va_A (wB D a f na w td vl L pt fl kd kp (fqa pq) (fqa ps) (tlW D pq ps)) s.heap.size)) (wB D a f na w td vl L pt fl kd kp (fqa pq) (fqa ps) (tlW D pq ps)) 882 [(12, .int (f 81)), (11, .int (nI cn)), (10, .int (nI u807)), (9, .int (nI ho)), (8, .int (nI tq)), (7, .int (nI rt)), (6, .int (nI mk)), (5, .int (nI pg)), (4, .int (nI g)), (0, .ref (a 19)), (1, .int (xw)), (2, .int (x)), (3, .int (y))] [] := by
          intro cn hcn
          have hcl := cnI_le (ofDoor f (nI ho) (nI u807)) n
          have hcb : cn ≤ n := by rcases hcn with ⟨-, z⟩ | ⟨-, z⟩ <;> omega
          refine g_aload_n X dL_act_882 rfl 9 rfl rfl ?_
          refine g_iload X dL_act_883 3 rfl rfl ?_
          refine g_iload X dL_act_885 2 rfl rfl ?_
          refine g_iload X dL_act_887 4 rfl rfl ?_
          refine g_callVXs (n := 3) (As := [_, _, _]) (rest := []) X hAg rfl (c_X6_door l D a f na w td vl L pt fl kd kp pq ps mk n b hW hNR hF hkp hHL.hq _ _ _) gL_act_X6_door rfl (by decide +kernel) ⟨Nat.le_of_ble_eq_true rfl, Nat.le_of_ble_eq_true rfl⟩ 20 rfl rfl rfl rfl (Nat.le_of_ble_eq_true rfl) dL_act_889 ⟨Nat.le_of_ble_eq_true rfl, Nat.le_of_ble_eq_true rfl⟩ rfl (fun v w9 hv => ?_)
          obtain ⟨rfl, fA, naA, wA, kpA, pqA, efA, hNA, hAA, hkpA, hHLA, ekA, rfl⟩ := ch_out hv hkp hHL hF ⟨_, hNR, hn8⟩
          have hADA := hAA
          refine ⟨hAA, ?_⟩
          refine g_st (st' := [_]) rfl ?_
          obtain ⟨hrx, hWA, hSA, hldA, h81A, hntA, -⟩ := door_chg hW hS (by omega) (by omega) (Or.inr ⟨tq, htq, rfl⟩) hcn efA
          refine g_topi (hrx) ?_
          have hNRA := hNA.to hWA
          have hFA : FB fA := by rw [efA]; exact door_fb ⟨mk, n, b, hW⟩ hF
          obtain ⟨hmkA, hm40A, hn8A, hb0A, hb0A1, hb0A8, hn8Ab, hstA, hnoA, howA, hdoA, hb0Aa, hb0Ac, hb0Ad, hb0Az⟩ := id hWA
          have hm8A : (n - cn) ≤ 8 := by omega
          obtain ⟨eN1A, eN2A, -⟩ := hWA.N
          refine g_iload X dL_act_892 1 rfl rfl ?_
          refine g_icmp_ne X dL_act_894 941 (by decide) rfl (fun h894 => absurd rfl h894) (fun h894 => ?_)
          refine g_aload_n X dL_act_897 rfl 9 rfl rfl ?_
          refine g_iload X dL_act_898 3 rfl rfl ?_
          refine g_iload X dL_act_900 2 rfl rfl ?_
          refine g_callVRX (w0 := []) (n := 2) (As := [_, _]) (rest := []) X (c_X6_leads l D a fA naA wA td vl L pt fl kd kpA (fqa pqA) (fqa ps) (tlW D pqA ps) mk (n - cn) b hWA hNRA _ _) gL_act_X6_leads rfl (by decide +kernel) ⟨Nat.le_of_ble_eq_true rfl, Nat.le_of_ble_eq_true rfl⟩ 20 rfl rfl rfl rfl rfl (Nat.le_of_ble_eq_true rfl) dL_act_902 ⟨Nat.le_of_ble_eq_true rfl, Nat.le_of_ble_eq_true rfl⟩ rfl (fun v hv => ?_)
          obtain rfl := hv
          refine g_st (st' := [_]) rfl ?_
          refine g_topi (oLd (g := ho) (d := u807) (by omega) (by omega)) ?_
          refine g_topi (hldA) ?_
          refine g_iload X dL_act_905 4 rfl rfl ?_
          refine g_icmp_ne X dL_act_907 941 (by decide) rfl (fun h907 => absurd rfl h907) (fun h907 => ?_)
          refine g_aload_n X dL_act_910 rfl 9 rfl rfl ?_
          refine g_bipush (v := (7 : Int32)) X dL_act_911 (by decide) rfl ?_
          refine g_callVRX (w0 := []) (n := 1) (As := [_]) (rest := []) X (c_X6_count l D a fA naA wA td vl L pt fl kd kpA (fqa pqA) (fqa ps) (tlW D pqA ps) mk (n - cn) b hWA hNRA _) gL_act_X6_count rfl (by decide +kernel) ⟨Nat.le_of_ble_eq_true rfl, Nat.le_of_ble_eq_true rfl⟩ 20 rfl rfl rfl rfl rfl (Nat.le_of_ble_eq_true rfl) dL_act_913 ⟨Nat.le_of_ble_eq_true rfl, Nat.le_of_ble_eq_true rfl⟩ rfl (fun v hv => ?_)
          obtain rfl := hv
          refine g_st (st' := [_]) rfl ?_
          refine g_topi (oC7) ?_
          refine g_topi (h81A) ?_
          refine g_iload X dL_act_916 0 rfl rfl ?_
          refine g_iload X dL_act_918 1 rfl rfl ?_
          refine g_iadd X dL_act_920 rfl ?_
          refine g_icmp_ne X dL_act_921 941 (by decide) rfl (fun h921 => absurd rfl h921) (fun h921 => ?_)
          refine g_aload_n X dL_act_924 rfl 9 rfl rfl ?_
          refine g_iload X dL_act_925 3 rfl rfl ?_
          refine g_iload X dL_act_927 2 rfl rfl ?_
          refine g_iload X dL_act_929 1 rfl rfl ?_
          refine g_callSRX (w0 := []) (n := 4) (As := [_, _, _, _]) (rest := []) X (c_L_noted l D a fA naA wA td vl L pt fl kd kpA (fqa pqA) (fqa ps) (tlW D pqA ps) mk (n - cn) b hWA hNRA ho u807 cn (by omega) (by omega) (by omega) hntA) gL_act_L_noted rfl (by decide +kernel) ⟨Nat.le_of_ble_eq_true rfl, Nat.le_of_ble_eq_true rfl⟩ rfl rfl rfl (Nat.le_of_ble_eq_true rfl) dL_act_931 ⟨Nat.le_of_ble_eq_true rfl, Nat.le_of_ble_eq_true rfl⟩ rfl (fun v hv => ?_)
          obtain rfl := hv
          refine g_st (st' := [_]) rfl ?_
          refine g_if_ne X dL_act_934 941 (by decide) rfl (fun h934 => absurd h934 (by decide)) (fun h934 => ?_)
          refine g_iconst (v := (1 : Int32)) X dL_act_937 (by decide) rfl ?_
          refine g_goto X dL_act_938 942 (by decide) ?_
          refine g_widen 112 2380 (Nat.le_of_ble_eq_true rfl) (Nat.le_of_ble_eq_true rfl) ?_
          refine g_retW X hr (by first | rfl | exact b2i_nar _) dL_act_942 hAe ?_
          exact ⟨rfl, fA, naA, wA, td, vl, L, pt, fl, kd, kpA, pqA, ⟨⟨_, _, _, hWA⟩, ⟨_, hNRA, hn8A⟩, hFA, (SI_le (Nat.le_succ _) hSA), hL, hch, hkpA, _, hHLA⟩, hADA, rfl⟩
        refine g_aload_n X dL_act_823 rfl 9 rfl rfl ?_
        refine g_iload X dL_act_824 3 rfl rfl ?_
        refine g_iload X dL_act_826 2 rfl rfl ?_
        refine g_callVRX (w0 := []) (n := 2) (As := [_, _]) (rest := []) X (c_X6_leads l D a f na w td vl L pt fl kd kp (fqa pq) (fqa ps) (tlW D pq ps) mk n b hW hNR _ _) gL_act_X6_leads rfl (by decide +kernel) ⟨Nat.le_of_ble_eq_true rfl, Nat.le_of_ble_eq_true rfl⟩ 20 rfl rfl rfl rfl rfl (Nat.le_of_ble_eq_true rfl) dL_act_828 ⟨Nat.le_of_ble_eq_true rfl, Nat.le_of_ble_eq_true rfl⟩ rfl (fun v hv => ?_)
        obtain rfl := hv
        refine g_st (st' := [_]) rfl ?_
        refine g_topi (oLd (g := ho) (d := u807) (by omega) (by omega)) ?_
        refine g_iload X dL_act_831 4 rfl rfl ?_
        refine g_icmp_eq X dL_act_833 882 (by decide) rfl (fun h833 => ?_) (fun h833 => ?_)
        · exact L882 0 (Or.inl ⟨h833, rfl⟩)
        · refine g_iconst (v := (0 : Int32)) X dL_act_836 (by decide) rfl ?_
          refine g_istore X [(13, _), (12, _), (11, _), (10, _), (9, _), (8, _), (7, _), (6, _), (5, _), (4, _), (0, _), (1, _), (2, _), (3, _)] dL_act_837 (by decide) rfl rfl ?_
          have L839 : ∀ (jj i : Nat) (hi : i ≤ n) (hj : n - i = jj), GG p l e (wRoom 9 218 112 2380) s m ([.ref (a 19), .int (xw), .int (x), .int (y)] : List Value).toArray below meth c D A 15 false 0 0 (MQ below (wrQ D (wB D a f na w td vl L pt fl kd kp (fqa pq) (fqa ps) (tlW D pq ps)) s.heap.size (lwP D a ps (wB D a f na w td vl L pt fl kd kp (fqa pq) (fqa ps) (tlW D pq ps)) (cr + 1))) ([.ref (a 19), .int (xw), .int (x), .int (y)] : List Value).toArray s 112 2380 (va_A (wB D a f na w td vl L pt fl kd kp (fqa pq) (fqa ps) (tlW D pq ps)) s.heap.size)) (wB D a f na w td vl L pt fl kd kp (fqa pq) (fqa ps) (tlW D pq ps)) 839 [(13, .int (nI i)), (12, .int (f 81)), (11, .int (nI (cnI (ofDoor f (nI ho) (nI u807)) i))), (10, .int (nI u807)), (9, .int (nI ho)), (8, .int (nI tq)), (7, .int (nI rt)), (6, .int (nI mk)), (5, .int (nI pg)), (4, .int (nI g)), (0, .ref (a 19)), (1, .int (xw)), (2, .int (x)), (3, .int (y))] [] := by
            intro jj
            induction jj using Nat.strongRecOn with
            | _ jj ih =>
            intro i hi hj
            have hcl := cnI_le (ofDoor f (nI ho) (nI u807)) i
            refine g_iload X dL_act_839 0 rfl rfl ?_
            refine g_aload_n X dL_act_841 rfl 10 rfl rfl ?_
            refine g_iconst (v := (2 : Int32)) X dL_act_842 (by decide) rfl ?_
            refine g_callVRX (w0 := []) (n := 1) (As := [_]) (rest := [_]) X (c_X6_count l D a f na w td vl L pt fl kd kp (fqa pq) (fqa ps) (tlW D pq ps) mk n b hW hNR _) gL_act_X6_count rfl (by decide +kernel) ⟨Nat.le_of_ble_eq_true rfl, Nat.le_of_ble_eq_true rfl⟩ 20 rfl rfl rfl rfl rfl (Nat.le_of_ble_eq_true rfl) dL_act_843 ⟨Nat.le_of_ble_eq_true rfl, Nat.le_of_ble_eq_true rfl⟩ rfl (fun v hv => ?_)
            obtain rfl := hv
            refine g_st (st' := [_, _]) rfl ?_
            refine g_topi (oC2.trans hn8) ?_
            refine g_icmp_ge X dL_act_846 882 (by decide) rfl (fun h846 => ?_) (fun h846 => ?_)
            · have i846 := nj_le (a := n) (b := i) (by omega) (by omega) h846
              rw [show i = n from by omega]
              refine g_lv [1, 2, 3, 4, 5, 6, 7, 8, 9, 10, 11, 12, 13] [(12, _), (11, _), (10, _), (9, _), (8, _), (7, _), (6, _), (5, _), (4, _), (0, _), (1, _), (2, _), (3, _)] rfl ?_
              exact L882 _ (Or.inr ⟨h833, rfl⟩)
            · have i846 := nj_nle (a := n) (b := i) (by omega) (by omega) h846
              refine g_aload_n X dL_act_849 rfl 10 rfl rfl ?_
              refine g_iload X dL_act_850 0 rfl rfl ?_
              refine g_iconst (v := (0 : Int32)) X dL_act_852 (by decide) rfl ?_
              refine g_callVRX (w0 := []) (n := 2) (As := [_, _]) (rest := []) X (c_X6_note l D a f na w td vl L pt fl kd kp (fqa pq) (fqa ps) (tlW D pq ps) mk n b hW hNR _ _) gL_act_X6_note rfl (by decide +kernel) ⟨Nat.le_of_ble_eq_true rfl, Nat.le_of_ble_eq_true rfl⟩ 20 rfl rfl rfl rfl rfl (Nat.le_of_ble_eq_true rfl) dL_act_853 ⟨Nat.le_of_ble_eq_true rfl, Nat.le_of_ble_eq_true rfl⟩ rfl (fun v hv => ?_)
              obtain rfl := hv
              refine g_st (st' := [_]) rfl ?_
              refine g_topi (oNt (k := i) 0 eN2 (by omega) hm8 rfl (by decide)) ?_
              refine g_iload X dL_act_856 4 rfl rfl ?_
              refine g_icmp_ne X dL_act_858 876 (by decide) rfl (fun h858 => ?_) (fun h858 => ?_)
              · refine g_iinc (v := nI (i + 1)) X [(13, _), (12, _), (11, _), (10, _), (9, _), (8, _), (7, _), (6, _), (5, _), (4, _), (0, _), (1, _), (2, _), (3, _)] dL_act_876 0 rfl (nI_add i 1) (by decide) rfl rfl ?_
                refine g_goto X dL_act_879 839 (by decide) ?_
                refine g_lve [(13, .int (nI (i + 1))), (12, .int (f 81)), (11, .int (nI (cnI (ofDoor f (nI ho) (nI u807)) (i + 1)))), (10, .int (nI u807)), (9, .int (nI ho)), (8, .int (nI tq)), (7, .int (nI rt)), (6, .int (nI mk)), (5, .int (nI pg)), (4, .int (nI g)), (0, .ref (a 19)), (1, .int (xw)), (2, .int (x)), (3, .int (y))] (by rw [cnI_f (show (ofDoor f (nI ho) (nI u807)) i = false from by unfold ofDoor; rw [decide_eq_false h858, Bool.false_and])]) ?_
                exact ih (n - (i + 1)) (by omega) (i + 1) (by omega) rfl
              · refine g_aload_n X dL_act_861 rfl 10 rfl rfl ?_
                refine g_iload X dL_act_862 0 rfl rfl ?_
                refine g_iconst (v := (1 : Int32)) X dL_act_864 (by decide) rfl ?_
                refine g_callVRX (w0 := []) (n := 2) (As := [_, _]) (rest := []) X (c_X6_note l D a f na w td vl L pt fl kd kp (fqa pq) (fqa ps) (tlW D pq ps) mk n b hW hNR _ _) gL_act_X6_note rfl (by decide +kernel) ⟨Nat.le_of_ble_eq_true rfl, Nat.le_of_ble_eq_true rfl⟩ 20 rfl rfl rfl rfl rfl (Nat.le_of_ble_eq_true rfl) dL_act_865 ⟨Nat.le_of_ble_eq_true rfl, Nat.le_of_ble_eq_true rfl⟩ rfl (fun v hv => ?_)
                obtain rfl := hv
                refine g_st (st' := [_]) rfl ?_
                refine g_topi (oNt (k := i) 1 eN2 (by omega) hm8 rfl (by decide)) ?_
                refine g_iload X dL_act_868 3 rfl rfl ?_
                refine g_icmp_ne X dL_act_870 876 (by decide) rfl (fun h870 => ?_) (fun h870 => ?_)
                · refine g_iinc (v := nI (i + 1)) X [(13, _), (12, _), (11, _), (10, _), (9, _), (8, _), (7, _), (6, _), (5, _), (4, _), (0, _), (1, _), (2, _), (3, _)] dL_act_876 0 rfl (nI_add i 1) (by decide) rfl rfl ?_
                  refine g_goto X dL_act_879 839 (by decide) ?_
                  refine g_lve [(13, .int (nI (i + 1))), (12, .int (f 81)), (11, .int (nI (cnI (ofDoor f (nI ho) (nI u807)) (i + 1)))), (10, .int (nI u807)), (9, .int (nI ho)), (8, .int (nI tq)), (7, .int (nI rt)), (6, .int (nI mk)), (5, .int (nI pg)), (4, .int (nI g)), (0, .ref (a 19)), (1, .int (xw)), (2, .int (x)), (3, .int (y))] (by rw [cnI_f (show (ofDoor f (nI ho) (nI u807)) i = false from by unfold ofDoor; rw [decide_eq_false h870, Bool.and_false])]) ?_
                  exact ih (n - (i + 1)) (by omega) (i + 1) (by omega) rfl
                · refine g_iinc (v := nI ((cnI (ofDoor f (nI ho) (nI u807)) i) + 1)) X [(11, _), (13, _), (12, _), (10, _), (9, _), (8, _), (7, _), (6, _), (5, _), (4, _), (0, _), (1, _), (2, _), (3, _)] dL_act_873 2 rfl (nI_add (cnI (ofDoor f (nI ho) (nI u807)) i) 1) (by decide) rfl rfl ?_
                  refine g_iinc (v := nI (i + 1)) X [(13, _), (11, _), (12, _), (10, _), (9, _), (8, _), (7, _), (6, _), (5, _), (4, _), (0, _), (1, _), (2, _), (3, _)] dL_act_876 1 rfl (nI_add i 1) (by decide) rfl rfl ?_
                  refine g_goto X dL_act_879 839 (by decide) ?_
                  refine g_lve [(13, .int (nI (i + 1))), (11, .int (nI (cnI (ofDoor f (nI ho) (nI u807)) (i + 1)))), (12, .int (f 81)), (10, .int (nI u807)), (9, .int (nI ho)), (8, .int (nI tq)), (7, .int (nI rt)), (6, .int (nI mk)), (5, .int (nI pg)), (4, .int (nI g)), (0, .ref (a 19)), (1, .int (xw)), (2, .int (x)), (3, .int (y))] (by rw [cnI_t (show (ofDoor f (nI ho) (nI u807)) i = true from by unfold ofDoor; rw [decide_eq_true h858, decide_eq_true h870]; rfl)]) ?_
                  refine g_lv [0, 2, 1, 3, 4, 5, 6, 7, 8, 9, 10, 11, 12, 13] [(13, _), (12, _), (11, _), (10, _), (9, _), (8, _), (7, _), (6, _), (5, _), (4, _), (0, _), (1, _), (2, _), (3, _)] rfl ?_
                  exact ih (n - (i + 1)) (by omega) (i + 1) (by omega) rfl
          exact L839 n 0 (by omega) rfl
  refine g_if_le X dL_act_745 768 (by decide) rfl (fun h745 => ?_) (fun h745 => ?_)
  · have i745 := nj_le (a := mk) (b := 0) (by omega) (by omega) h745
    refine g_bipush (v := ((-6) : Int32)) X dL_act_768 (by decide) rfl ?_
    exact L770 (-6) (Or.inl rfl)
  · have i745 := nj_nle (a := mk) (b := 0) (by omega) (by omega) h745
    refine g_iload_n X dL_act_748 rfl 7 rfl rfl ?_
    refine g_bipush (v := (6 : Int32)) X dL_act_749 (by decide) rfl ?_
    refine g_callSR (n := 2) (As := [_, _]) (rest := []) X (c_L_up l D (y) 6 (by omega)) gL_act_L_up rfl (by decide +kernel) ⟨Nat.le_of_ble_eq_true rfl, Nat.le_of_ble_eq_true rfl⟩ [] rfl rfl rfl rfl (Nat.le_of_ble_eq_true rfl) dL_act_751 ⟨Nat.le_of_ble_eq_true rfl, Nat.le_of_ble_eq_true rfl⟩ rfl (fun v hv => ?_)
    obtain rfl := hv
    refine g_st (st' := [_]) rfl ?_
    refine g_upn (by omega) (fun u751 hu751 eu751 => ?_)
    refine g_if_le X dL_act_754 768 (by decide) rfl (fun h754 => ?_) (fun h754 => ?_)
    · have i754 := nj_le (a := u751) (b := 0) (by omega) (by omega) h754
      refine g_bipush (v := ((-6) : Int32)) X dL_act_768 (by decide) rfl ?_
      exact L770 (-6) (Or.inl rfl)
    · have i754 := nj_nle (a := u751) (b := 0) (by omega) (by omega) h754
      refine g_iload_n X dL_act_757 rfl 7 rfl rfl ?_
      refine g_iconst (v := (3 : Int32)) X dL_act_758 (by decide) rfl ?_
      refine g_ishr X dL_act_759 rfl ?_
      refine g_iload X dL_act_760 1 rfl rfl ?_
      refine g_callSR (n := 2) (As := [_, _]) (rest := []) X (c_L_up l D ((y >>> ((3 : Int32) &&& 31))) mk (by omega)) gL_act_L_up rfl (by decide +kernel) ⟨Nat.le_of_ble_eq_true rfl, Nat.le_of_ble_eq_true rfl⟩ [] rfl rfl rfl rfl (Nat.le_of_ble_eq_true rfl) dL_act_762 ⟨Nat.le_of_ble_eq_true rfl, Nat.le_of_ble_eq_true rfl⟩ rfl (fun v hv => ?_)
      obtain rfl := hv
      refine g_st (st' := [_]) rfl ?_
      refine g_upn (by omega) (fun u762 hu762 eu762 => ?_)
      refine g_goto X dL_act_765 770 (by decide) ?_
      exact L770 _ (Or.inr ⟨u762, by omega, rfl⟩)

set_option maxHeartbeats 4000000 in
set_option maxRecDepth 100000 in
theorem c_act_set (l : Launch) (D : DT) (a : Nat → Nat) (f : Nat → Int32) (na : Nat → Nat → Int32) (w td vl : Nat → Int32) (L pt fl : Nat) (kd : Int32) (kp : Nat) (pq ps : Nat → Option HH) (mk n b : Nat) (hW : WF f mk n b) (hNR : NR f na n) (hF : FB f) (hkp : kp ≤ 6) (l9 : List (Nat → Int32)) (hHL : HL kp pq l9) (cr : Nat) (hcr : cr ≤ 1000) (hS : SI cr f) (hL : L ≤ 80) (hch : ∀ k, k < L → ∃ ch : Nat, ch < 256 ∧ td k = nI ch) (rt : Nat) (hrt : 1 ≤ rt ∧ rt ≤ 7) (pg : Nat) (hpg : pg < 12) (g : Nat) (hg : g < 6) (xw x y : Int32) {p : Program} {e : Env} {s : State} {m : MethodId} {below : List Frame} {meth : Method} {c : Code} {A : Nat → Prop} (hAe : A = va_A (wB D a f na w td vl L pt fl kd kp (fqa pq) (fqa ps) (tlW D pq ps)) s.heap.size) (hAg : ∀ q, s.heap.size ≤ q → A q) (X : GX p l e (wRoom 9 218 112 2380) s m ([.ref (a 19), .int (xw), .int (x), .int (y)] : List Value).toArray below meth c D A 15 cL_act yL_act.cls wsL_act) (hr : meth.sig.returnType = (some .boolean))  : GG p l e (wRoom 9 218 112 2380) s m ([.ref (a 19), .int (xw), .int (x), .int (y)] : List Value).toArray below meth c D A 15 false 0 0 (MQ below (wrQ D (wB D a f na w td vl L pt fl kd kp (fqa pq) (fqa ps) (tlW D pq ps)) s.heap.size (lwP D a ps (wB D a f na w td vl L pt fl kd kp (fqa pq) (fqa ps) (tlW D pq ps)) (cr + 1))) ([.ref (a 19), .int (xw), .int (x), .int (y)] : List Value).toArray s 112 2380 (va_A (wB D a f na w td vl L pt fl kd kp (fqa pq) (fqa ps) (tlW D pq ps)) s.heap.size)) (wB D a f na w td vl L pt fl kd kp (fqa pq) (fqa ps) (tlW D pq ps)) 980 [(7, .int (nI rt)), (6, .int (nI mk)), (5, .int (nI pg)), (4, .int (nI g)), (0, .ref (a 19)), (1, .int (xw)), (2, .int (x)), (3, .int (y))] [] := by
  obtain ⟨hmk, hm40, hn8, hb0, hb01, hb08, hn8b, hst, hno, how, hdo, hb0a, hb0c, hb0d, hb0z⟩ := id hW
  have hm8 : n ≤ 8 := by omega
  obtain ⟨eN1, eN2, -⟩ := hW.N
  refine g_iload_n X dL_act_980 rfl 6 rfl rfl ?_
  refine g_iconst (v := (2 : Int32)) X dL_act_981 (by decide) rfl ?_
  refine g_ishr X dL_act_982 rfl ?_
  refine g_iconst (v := (4 : Int32)) X dL_act_983 (by decide) rfl ?_
  refine g_callSR (n := 2) (As := [_, _]) (rest := []) X (c_L_up l D ((x >>> ((2 : Int32) &&& 31))) 4 (by omega)) gL_act_L_up rfl (by decide +kernel) ⟨Nat.le_of_ble_eq_true rfl, Nat.le_of_ble_eq_true rfl⟩ [] rfl rfl rfl rfl (Nat.le_of_ble_eq_true rfl) dL_act_984 ⟨Nat.le_of_ble_eq_true rfl, Nat.le_of_ble_eq_true rfl⟩ rfl (fun v hv => ?_)
  obtain rfl := hv
  refine g_st (st' := [_]) rfl ?_
  refine g_upn (by omega) (fun u984 hu984 eu984 => ?_)
  refine g_istore X [(8, _), (7, _), (6, _), (5, _), (4, _), (0, _), (1, _), (2, _), (3, _)] dL_act_987 (by decide) rfl rfl ?_
  rcases (show u984 = 0 ∨ u984 = 1 ∨ u984 = 2 ∨ u984 = 3 by omega) with h9 | h9 | h9 | h9
  · subst h9
    refine g_iload X dL_act_989 0 rfl rfl ?_
    refine g_if_ne X dL_act_991 1005 (by decide) rfl (fun h991 => absurd h991 (by decide)) (fun h991 => ?_)
    refine g_iconst (v := (1 : Int32)) X dL_act_994 (by decide) rfl ?_
    refine g_iload_n X dL_act_995 rfl 8 rfl rfl ?_
    refine g_bipush (v := (8 : Int32)) X dL_act_996 (by decide) rfl ?_
    refine g_callSR (n := 2) (As := [_, _]) (rest := [_]) X (c_L_up l D (y) 8 (by omega)) gL_act_L_up rfl (by decide +kernel) ⟨Nat.le_of_ble_eq_true rfl, Nat.le_of_ble_eq_true rfl⟩ [] rfl rfl rfl rfl (Nat.le_of_ble_eq_true rfl) dL_act_998 ⟨Nat.le_of_ble_eq_true rfl, Nat.le_of_ble_eq_true rfl⟩ rfl (fun v hv => ?_)
    obtain rfl := hv
    refine g_st (st' := [_, _]) rfl ?_
    refine g_upn (by omega) (fun u998 hu998 eu998 => ?_)
    refine g_iadd X dL_act_1001 rfl ?_
    refine g_topi (y := nI (1 + u998)) (nI_add 1 u998) ?_
    refine g_goto X dL_act_1002 1024 (by decide) ?_
    refine g_istore X [(9, _), (8, _), (7, _), (6, _), (5, _), (4, _), (0, _), (1, _), (2, _), (3, _)] dL_act_1024 (by decide) rfl rfl ?_
    refine g_aload_n X dL_act_1026 rfl 6 rfl rfl ?_
    refine g_bipush (v := (9 : Int32)) X dL_act_1027 (by decide) rfl ?_
    refine g_iload X dL_act_1029 1 rfl rfl ?_
    refine g_iadd X dL_act_1031 rfl ?_
    refine g_topi (y := (9 : Int32)) (by decide) ?_
    refine g_callVRX (w0 := []) (n := 1) (As := [_]) (rest := []) X (c_X6_count l D a f na w td vl L pt fl kd kp (fqa pq) (fqa ps) (tlW D pq ps) mk n b hW hNR _) gL_act_X6_count rfl (by decide +kernel) ⟨Nat.le_of_ble_eq_true rfl, Nat.le_of_ble_eq_true rfl⟩ 20 rfl rfl rfl rfl rfl (Nat.le_of_ble_eq_true rfl) dL_act_1032 ⟨Nat.le_of_ble_eq_true rfl, Nat.le_of_ble_eq_true rfl⟩ rfl (fun v hv => ?_)
    obtain rfl := hv
    refine g_st (st' := [_]) rfl ?_
    refine g_topi (oC9.trans hb0) ?_
    refine g_istore X [(10, _), (9, _), (8, _), (7, _), (6, _), (5, _), (4, _), (0, _), (1, _), (2, _), (3, _)] dL_act_1035 (by decide) rfl rfl ?_
    refine g_aload_n X dL_act_1037 rfl 7 rfl rfl ?_
    refine g_iconst (v := (2 : Int32)) X dL_act_1038 (by decide) rfl ?_
    refine g_callVRX (w0 := []) (n := 1) (As := [_]) (rest := []) X (c_X6_count l D a f na w td vl L pt fl kd kp (fqa pq) (fqa ps) (tlW D pq ps) mk n b hW hNR _) gL_act_X6_count rfl (by decide +kernel) ⟨Nat.le_of_ble_eq_true rfl, Nat.le_of_ble_eq_true rfl⟩ 20 rfl rfl rfl rfl rfl (Nat.le_of_ble_eq_true rfl) dL_act_1039 ⟨Nat.le_of_ble_eq_true rfl, Nat.le_of_ble_eq_true rfl⟩ rfl (fun v hv => ?_)
    obtain rfl := hv
    refine g_st (st' := [_]) rfl ?_
    refine g_topi (oC2.trans hn8) ?_
    refine g_istore X [(11, _), (10, _), (9, _), (8, _), (7, _), (6, _), (5, _), (4, _), (0, _), (1, _), (2, _), (3, _)] dL_act_1042 (by decide) rfl rfl ?_
    refine g_aload_n X dL_act_1044 rfl 8 rfl rfl ?_
    refine g_bipush (v := (8 : Int32)) X dL_act_1045 (by decide) rfl ?_
    refine g_callVRX (w0 := []) (n := 1) (As := [_]) (rest := []) X (c_X6_count l D a f na w td vl L pt fl kd kp (fqa pq) (fqa ps) (tlW D pq ps) mk n b hW hNR _) gL_act_X6_count rfl (by decide +kernel) ⟨Nat.le_of_ble_eq_true rfl, Nat.le_of_ble_eq_true rfl⟩ 20 rfl rfl rfl rfl rfl (Nat.le_of_ble_eq_true rfl) dL_act_1047 ⟨Nat.le_of_ble_eq_true rfl, Nat.le_of_ble_eq_true rfl⟩ rfl (fun v hv => ?_)
    obtain rfl := hv
    refine g_st (st' := [_]) rfl ?_
    refine g_topi (oC8) ?_
    refine g_istore X [(12, _), (11, _), (10, _), (9, _), (8, _), (7, _), (6, _), (5, _), (4, _), (0, _), (1, _), (2, _), (3, _)] dL_act_1050 (by decide) rfl rfl ?_
    refine g_aload_n X dL_act_1052 rfl 9 rfl rfl ?_
    refine g_iload X dL_act_1053 4 rfl rfl ?_
    refine g_iload X dL_act_1055 3 rfl rfl ?_
    refine g_callVXs (n := 2) (As := [_, _]) (rest := []) X hAg rfl (c_X6_set l D a f na w td vl L pt fl kd kp pq ps mk n b hW hNR hF hkp hHL.hq _ _) gL_act_X6_set rfl (by decide +kernel) ⟨Nat.le_of_ble_eq_true rfl, Nat.le_of_ble_eq_true rfl⟩ 20 rfl rfl rfl rfl (Nat.le_of_ble_eq_true rfl) dL_act_1057 ⟨Nat.le_of_ble_eq_true rfl, Nat.le_of_ble_eq_true rfl⟩ rfl (fun v w9 hv => ?_)
    obtain ⟨rfl, fA, naA, wA, kpA, pqA, efA, hNA, hAA, hkpA, hHLA, ekA, rfl⟩ := ch_out hv hkp hHL hF ⟨_, hNR, hn8⟩
    have hADA := hAA
    refine ⟨hAA, ?_⟩
    refine g_st (st' := [_]) rfl ?_
    obtain ⟨hrx, hWA, hSA, hvA, h82A, h81A, -⟩ := set_chg (x := 0) (v := (1 + u998)) (b2 := (1 + u998)) hW hS (by omega) (by omega) (by omega) efA
    refine g_topi ((hrx.trans hb0)) ?_
    have hNRA := hNA.to hWA
    have hFA : FB fA := by rw [efA]; exact set_fb ⟨mk, n, b, hW⟩ hF
    obtain ⟨hmkA, hm40A, hn8A, hb0A, hb0A1, hb0A8, hn8Ab, hstA, hnoA, howA, hdoA, hb0Aa, hb0Ac, hb0Ad, hb0Az⟩ := id hWA
    have hm8A : (min n (1 + u998)) ≤ 8 := by omega
    obtain ⟨eN1A, eN2A, -⟩ := hWA.N
    refine g_iload X dL_act_1060 2 rfl rfl ?_
    refine g_icmp_ne X dL_act_1062 1079 (by decide) rfl (fun h1062 => absurd rfl h1062) (fun h1062 => ?_)
    refine g_aload_n X dL_act_1065 rfl 9 rfl rfl ?_
    refine g_bipush (v := (9 : Int32)) X dL_act_1066 (by decide) rfl ?_
    refine g_iload X dL_act_1068 4 rfl rfl ?_
    refine g_iadd X dL_act_1070 rfl ?_
    refine g_topi (y := (9 : Int32)) (by decide) ?_
    refine g_callVRX (w0 := []) (n := 1) (As := [_]) (rest := []) X (c_X6_count l D a fA naA wA td vl L pt fl kd kpA (fqa pqA) (fqa ps) (tlW D pqA ps) mk (min n (1 + u998)) (1 + u998) hWA hNRA _) gL_act_X6_count rfl (by decide +kernel) ⟨Nat.le_of_ble_eq_true rfl, Nat.le_of_ble_eq_true rfl⟩ 20 rfl rfl rfl rfl rfl (Nat.le_of_ble_eq_true rfl) dL_act_1071 ⟨Nat.le_of_ble_eq_true rfl, Nat.le_of_ble_eq_true rfl⟩ rfl (fun v hv => ?_)
    obtain rfl := hv
    refine g_st (st' := [_]) rfl ?_
    refine g_topi (oC9.trans hb0A) ?_
    refine g_iload X dL_act_1074 3 rfl rfl ?_
    refine g_icmp_eq X dL_act_1076 1081 (by decide) rfl (fun h1076 => ?_) (fun h1076 => absurd rfl h1076)
    refine g_iload X dL_act_1081 1 rfl rfl ?_
    refine g_aload_n X dL_act_1083 rfl 9 rfl rfl ?_
    refine g_bipush (v := (9 : Int32)) X dL_act_1084 (by decide) rfl ?_
    refine g_callVRX (w0 := []) (n := 1) (As := [_]) (rest := [_]) X (c_X6_count l D a fA naA wA td vl L pt fl kd kpA (fqa pqA) (fqa ps) (tlW D pqA ps) mk (min n (1 + u998)) (1 + u998) hWA hNRA _) gL_act_X6_count rfl (by decide +kernel) ⟨Nat.le_of_ble_eq_true rfl, Nat.le_of_ble_eq_true rfl⟩ 20 rfl rfl rfl rfl rfl (Nat.le_of_ble_eq_true rfl) dL_act_1086 ⟨Nat.le_of_ble_eq_true rfl, Nat.le_of_ble_eq_true rfl⟩ rfl (fun v hv => ?_)
    obtain rfl := hv
    refine g_st (st' := [_, _]) rfl ?_
    refine g_topi (oC9.trans hb0A) ?_
    refine g_icmp_le X dL_act_1089 1101 (by decide) rfl (fun h1089 => ?_) (fun h1089 => ?_)
    · have i1089 := nj_le (a := n) (b := (1 + u998)) (by omega) (by omega) h1089
      refine g_iload X dL_act_1101 1 rfl rfl ?_
      refine g_istore X [(13, _), (12, _), (11, _), (10, _), (9, _), (8, _), (7, _), (6, _), (5, _), (4, _), (0, _), (1, _), (2, _), (3, _)] dL_act_1103 (by decide) rfl rfl ?_
      refine g_aload_n X dL_act_1105 rfl 10 rfl rfl ?_
      refine g_iconst (v := (2 : Int32)) X dL_act_1106 (by decide) rfl ?_
      refine g_callVRX (w0 := []) (n := 1) (As := [_]) (rest := []) X (c_X6_count l D a fA naA wA td vl L pt fl kd kpA (fqa pqA) (fqa ps) (tlW D pqA ps) mk (min n (1 + u998)) (1 + u998) hWA hNRA _) gL_act_X6_count rfl (by decide +kernel) ⟨Nat.le_of_ble_eq_true rfl, Nat.le_of_ble_eq_true rfl⟩ 20 rfl rfl rfl rfl rfl (Nat.le_of_ble_eq_true rfl) dL_act_1107 ⟨Nat.le_of_ble_eq_true rfl, Nat.le_of_ble_eq_true rfl⟩ rfl (fun v hv => ?_)
      obtain rfl := hv
      refine g_st (st' := [_]) rfl ?_
      refine g_topi (oC2.trans hn8A) ?_
      refine g_iload X dL_act_1110 0 rfl rfl ?_
      refine g_icmp_ne X dL_act_1112 1132 (by decide) rfl (fun h1112 => absurd (nj_ne (a := (min n (1 + u998))) (b := n) (by omega) (by omega) h1112) (by omega)) (fun h1112 => ?_)
      have i1112 := nj_eq (a := (min n (1 + u998))) (b := n) (by omega) (by omega) h1112
      refine g_aload_n X dL_act_1115 rfl 10 rfl rfl ?_
      refine g_bipush (v := (8 : Int32)) X dL_act_1116 (by decide) rfl ?_
      refine g_callVRX (w0 := []) (n := 1) (As := [_]) (rest := []) X (c_X6_count l D a fA naA wA td vl L pt fl kd kpA (fqa pqA) (fqa ps) (tlW D pqA ps) mk (min n (1 + u998)) (1 + u998) hWA hNRA _) gL_act_X6_count rfl (by decide +kernel) ⟨Nat.le_of_ble_eq_true rfl, Nat.le_of_ble_eq_true rfl⟩ 20 rfl rfl rfl rfl rfl (Nat.le_of_ble_eq_true rfl) dL_act_1118 ⟨Nat.le_of_ble_eq_true rfl, Nat.le_of_ble_eq_true rfl⟩ rfl (fun v hv => ?_)
      obtain rfl := hv
      refine g_st (st' := [_]) rfl ?_
      refine g_topi (oC8) ?_
      refine g_iload X dL_act_1121 1 rfl rfl ?_
      refine g_iload X dL_act_1123 2 rfl rfl ?_
      refine g_iadd X dL_act_1125 rfl ?_
      refine g_iload X dL_act_1126 0 rfl rfl ?_
      refine g_isub X dL_act_1128 rfl ?_
      refine g_icmp_eq X dL_act_1129 1134 (by decide) rfl (fun h1129 => ?_) (fun h1129 => absurd (h82A.trans (st_82 (by omega))) h1129)
      refine g_aload_n X dL_act_1134 rfl 10 rfl rfl ?_
      refine g_bipush (v := (7 : Int32)) X dL_act_1135 (by decide) rfl ?_
      refine g_callVRX (w0 := []) (n := 1) (As := [_]) (rest := []) X (c_X6_count l D a fA naA wA td vl L pt fl kd kpA (fqa pqA) (fqa ps) (tlW D pqA ps) mk (min n (1 + u998)) (1 + u998) hWA hNRA _) gL_act_X6_count rfl (by decide +kernel) ⟨Nat.le_of_ble_eq_true rfl, Nat.le_of_ble_eq_true rfl⟩ 20 rfl rfl rfl rfl rfl (Nat.le_of_ble_eq_true rfl) dL_act_1137 ⟨Nat.le_of_ble_eq_true rfl, Nat.le_of_ble_eq_true rfl⟩ rfl (fun v hv => ?_)
      obtain rfl := hv
      refine g_st (st' := [_]) rfl ?_
      refine g_topi (oC7) ?_
      refine g_istore X [(14, _), (13, _), (12, _), (11, _), (10, _), (9, _), (8, _), (7, _), (6, _), (5, _), (4, _), (0, _), (1, _), (2, _), (3, _)] dL_act_1140 (by decide) rfl rfl ?_
      refine g_iload_n X dL_act_1142 rfl 14 rfl rfl ?_
      refine g_iconst (v := (5 : Int32)) X dL_act_1143 (by decide) rfl ?_
      refine g_ishr X dL_act_1144 rfl ?_
      refine g_iconst (v := (3 : Int32)) X dL_act_1145 (by decide) rfl ?_
      refine g_callSR (n := 2) (As := [_, _]) (rest := []) X (c_L_up l D ((y >>> ((5 : Int32) &&& 31))) 3 (by omega)) gL_act_L_up rfl (by decide +kernel) ⟨Nat.le_of_ble_eq_true rfl, Nat.le_of_ble_eq_true rfl⟩ [] rfl rfl rfl rfl (Nat.le_of_ble_eq_true rfl) dL_act_1146 ⟨Nat.le_of_ble_eq_true rfl, Nat.le_of_ble_eq_true rfl⟩ rfl (fun v hv => ?_)
      obtain rfl := hv
      refine g_st (st' := [_]) rfl ?_
      refine g_upn (by omega) (fun u1146 hu1146 eu1146 => ?_)
      refine g_if_gt X dL_act_1149 1183 (by decide) rfl (fun h1149 => ?_) (fun h1149 => ?_)
      · have i1149 := nj_lt (a := 0) (b := u1146) (by omega) (by omega) h1149
        refine g_iconst (v := (1 : Int32)) X dL_act_1183 (by decide) rfl ?_
        refine g_goto X dL_act_1184 1188 (by decide) ?_
        refine g_widen 112 2380 (Nat.le_of_ble_eq_true rfl) (Nat.le_of_ble_eq_true rfl) ?_
        refine g_retW X hr (by first | rfl | exact b2i_nar _) dL_act_1188 hAe ?_
        exact ⟨rfl, fA, naA, wA, td, vl, L, pt, fl, kd, kpA, pqA, ⟨⟨_, _, _, hWA⟩, ⟨_, hNRA, hn8A⟩, hFA, (SI_le (Nat.le_succ _) hSA), hL, hch, hkpA, _, hHLA⟩, hADA, rfl⟩
      · have i1149 := nj_nlt (a := 0) (b := u1146) (by omega) (by omega) h1149
        refine g_aload_n X dL_act_1152 rfl 11 rfl rfl ?_
        refine g_callVXs (n := 0) (As := []) (rest := []) X hAg rfl (c_X6_flush l D a fA naA wA td vl L pt fl kd kpA pqA ps mk (min n (1 + u998)) (1 + u998) hWA hNRA hFA hkpA hHLA.hq ) gL_act_X6_flush rfl (by decide +kernel) ⟨Nat.le_of_ble_eq_true rfl, Nat.le_of_ble_eq_true rfl⟩ 20 rfl rfl rfl rfl (Nat.le_of_ble_eq_true rfl) dL_act_1153 ⟨Nat.le_of_ble_eq_true rfl, Nat.le_of_ble_eq_true rfl⟩ rfl (fun v w9 hv => ?_)
        obtain ⟨rfl, fB, naB, wB, kpB, pqB, efB, hNB, hAB, hkpB, hHLB, ekB, rfl⟩ := ch_out hv hkpA hHLA hFA ⟨_, hNRA, hn8A⟩
        have hADB := hAB.trans hADA
        refine ⟨hAB, ?_⟩
        refine g_st (st' := [_]) rfl ?_
        obtain ⟨hrxB, hWB, hSB, h81B⟩ := flush_chg hWA hSA efB
        refine g_topi (hrxB) ?_
        have hNRB := hNB.to hWB
        have hFB : FB fB := by rw [efB]; exact flush_fb hFA
        obtain ⟨hmkB, hm40B, hn8B, hb0B, hb0B1, hb0B8, hn8Bb, hstB, hnoB, howB, hdoB, hb0Ba, hb0Bc, hb0Bd, hb0Bz⟩ := id hWB
        have hm8B : 0 ≤ 8 := by omega
        obtain ⟨eN1B, eN2B, -⟩ := hWB.N
        refine g_iload X dL_act_1156 1 rfl rfl ?_
        refine g_icmp_ne X dL_act_1158 1187 (by decide) rfl (fun h1158 => absurd (nj_ne (a := (min n (1 + u998))) (b := n) (by omega) (by omega) h1158) (by omega)) (fun h1158 => ?_)
        have i1158 := nj_eq (a := (min n (1 + u998))) (b := n) (by omega) (by omega) h1158
        refine g_aload_n X dL_act_1161 rfl 11 rfl rfl ?_
        refine g_iconst (v := (2 : Int32)) X dL_act_1162 (by decide) rfl ?_
        refine g_callVRX (w0 := []) (n := 1) (As := [_]) (rest := []) X (c_X6_count l D a fB naB wB td vl L pt fl kd kpB (fqa pqB) (fqa ps) (tlW D pqB ps) mk 0 (1 + u998) hWB hNRB _) gL_act_X6_count rfl (by decide +kernel) ⟨Nat.le_of_ble_eq_true rfl, Nat.le_of_ble_eq_true rfl⟩ 20 rfl rfl rfl rfl rfl (Nat.le_of_ble_eq_true rfl) dL_act_1163 ⟨Nat.le_of_ble_eq_true rfl, Nat.le_of_ble_eq_true rfl⟩ rfl (fun v hv => ?_)
        obtain rfl := hv
        refine g_st (st' := [_]) rfl ?_
        refine g_topi (oC2.trans hn8B) ?_
        refine g_if_ne X dL_act_1166 1187 (by decide) rfl (fun h1166 => absurd rfl h1166) (fun h1166 => ?_)
        refine g_aload_n X dL_act_1169 rfl 11 rfl rfl ?_
        refine g_bipush (v := (7 : Int32)) X dL_act_1170 (by decide) rfl ?_
        refine g_callVRX (w0 := []) (n := 1) (As := [_]) (rest := []) X (c_X6_count l D a fB naB wB td vl L pt fl kd kpB (fqa pqB) (fqa ps) (tlW D pqB ps) mk 0 (1 + u998) hWB hNRB _) gL_act_X6_count rfl (by decide +kernel) ⟨Nat.le_of_ble_eq_true rfl, Nat.le_of_ble_eq_true rfl⟩ 20 rfl rfl rfl rfl rfl (Nat.le_of_ble_eq_true rfl) dL_act_1172 ⟨Nat.le_of_ble_eq_true rfl, Nat.le_of_ble_eq_true rfl⟩ rfl (fun v hv => ?_)
        obtain rfl := hv
        refine g_st (st' := [_]) rfl ?_
        refine g_topi (oC7) ?_
        refine g_topi ((show fB 81 = (fA 81 + nI n) from by rw [h81B, show (min n (1 + u998)) = n from by omega])) ?_
        refine g_iload X dL_act_1175 0 rfl rfl ?_
        refine g_iload X dL_act_1177 1 rfl rfl ?_
        refine g_iadd X dL_act_1179 rfl ?_
        refine g_icmp_ne X dL_act_1180 1187 (by decide) rfl (fun h1180 => absurd rfl h1180) (fun h1180 => ?_)
        refine g_iconst (v := (1 : Int32)) X dL_act_1183 (by decide) rfl ?_
        refine g_goto X dL_act_1184 1188 (by decide) ?_
        refine g_widen 112 2380 (Nat.le_of_ble_eq_true rfl) (Nat.le_of_ble_eq_true rfl) ?_
        refine g_retW X hr (by first | rfl | exact b2i_nar _) dL_act_1188 hAe ?_
        exact ⟨rfl, fB, naB, wB, td, vl, L, pt, fl, kd, kpB, pqB, ⟨⟨_, _, _, hWB⟩, ⟨_, hNRB, hn8B⟩, hFB, (SI_le (Nat.le_succ _) hSB), hL, hch, hkpB, _, hHLB⟩, hADB, rfl⟩
    · have i1089 := nj_nle (a := n) (b := (1 + u998)) (by omega) (by omega) h1089
      refine g_aload_n X dL_act_1092 rfl 9 rfl rfl ?_
      refine g_bipush (v := (9 : Int32)) X dL_act_1093 (by decide) rfl ?_
      refine g_callVRX (w0 := []) (n := 1) (As := [_]) (rest := []) X (c_X6_count l D a fA naA wA td vl L pt fl kd kpA (fqa pqA) (fqa ps) (tlW D pqA ps) mk (min n (1 + u998)) (1 + u998) hWA hNRA _) gL_act_X6_count rfl (by decide +kernel) ⟨Nat.le_of_ble_eq_true rfl, Nat.le_of_ble_eq_true rfl⟩ 20 rfl rfl rfl rfl rfl (Nat.le_of_ble_eq_true rfl) dL_act_1095 ⟨Nat.le_of_ble_eq_true rfl, Nat.le_of_ble_eq_true rfl⟩ rfl (fun v hv => ?_)
      obtain rfl := hv
      refine g_st (st' := [_]) rfl ?_
      refine g_topi (oC9.trans hb0A) ?_
      refine g_goto X dL_act_1098 1103 (by decide) ?_
      refine g_istore X [(13, _), (12, _), (11, _), (10, _), (9, _), (8, _), (7, _), (6, _), (5, _), (4, _), (0, _), (1, _), (2, _), (3, _)] dL_act_1103 (by decide) rfl rfl ?_
      refine g_aload_n X dL_act_1105 rfl 10 rfl rfl ?_
      refine g_iconst (v := (2 : Int32)) X dL_act_1106 (by decide) rfl ?_
      refine g_callVRX (w0 := []) (n := 1) (As := [_]) (rest := []) X (c_X6_count l D a fA naA wA td vl L pt fl kd kpA (fqa pqA) (fqa ps) (tlW D pqA ps) mk (min n (1 + u998)) (1 + u998) hWA hNRA _) gL_act_X6_count rfl (by decide +kernel) ⟨Nat.le_of_ble_eq_true rfl, Nat.le_of_ble_eq_true rfl⟩ 20 rfl rfl rfl rfl rfl (Nat.le_of_ble_eq_true rfl) dL_act_1107 ⟨Nat.le_of_ble_eq_true rfl, Nat.le_of_ble_eq_true rfl⟩ rfl (fun v hv => ?_)
      obtain rfl := hv
      refine g_st (st' := [_]) rfl ?_
      refine g_topi (oC2.trans hn8A) ?_
      refine g_iload X dL_act_1110 0 rfl rfl ?_
      refine g_icmp_ne X dL_act_1112 1132 (by decide) rfl (fun h1112 => absurd (nj_ne (a := (min n (1 + u998))) (b := (1 + u998)) (by omega) (by omega) h1112) (by omega)) (fun h1112 => ?_)
      have i1112 := nj_eq (a := (min n (1 + u998))) (b := (1 + u998)) (by omega) (by omega) h1112
      refine g_aload_n X dL_act_1115 rfl 10 rfl rfl ?_
      refine g_bipush (v := (8 : Int32)) X dL_act_1116 (by decide) rfl ?_
      refine g_callVRX (w0 := []) (n := 1) (As := [_]) (rest := []) X (c_X6_count l D a fA naA wA td vl L pt fl kd kpA (fqa pqA) (fqa ps) (tlW D pqA ps) mk (min n (1 + u998)) (1 + u998) hWA hNRA _) gL_act_X6_count rfl (by decide +kernel) ⟨Nat.le_of_ble_eq_true rfl, Nat.le_of_ble_eq_true rfl⟩ 20 rfl rfl rfl rfl rfl (Nat.le_of_ble_eq_true rfl) dL_act_1118 ⟨Nat.le_of_ble_eq_true rfl, Nat.le_of_ble_eq_true rfl⟩ rfl (fun v hv => ?_)
      obtain rfl := hv
      refine g_st (st' := [_]) rfl ?_
      refine g_topi (oC8) ?_
      refine g_iload X dL_act_1121 1 rfl rfl ?_
      refine g_iload X dL_act_1123 2 rfl rfl ?_
      refine g_iadd X dL_act_1125 rfl ?_
      refine g_iload X dL_act_1126 0 rfl rfl ?_
      refine g_isub X dL_act_1128 rfl ?_
      refine g_icmp_eq X dL_act_1129 1134 (by decide) rfl (fun h1129 => ?_) (fun h1129 => absurd (h82A.trans (st_82 (by omega))) h1129)
      refine g_aload_n X dL_act_1134 rfl 10 rfl rfl ?_
      refine g_bipush (v := (7 : Int32)) X dL_act_1135 (by decide) rfl ?_
      refine g_callVRX (w0 := []) (n := 1) (As := [_]) (rest := []) X (c_X6_count l D a fA naA wA td vl L pt fl kd kpA (fqa pqA) (fqa ps) (tlW D pqA ps) mk (min n (1 + u998)) (1 + u998) hWA hNRA _) gL_act_X6_count rfl (by decide +kernel) ⟨Nat.le_of_ble_eq_true rfl, Nat.le_of_ble_eq_true rfl⟩ 20 rfl rfl rfl rfl rfl (Nat.le_of_ble_eq_true rfl) dL_act_1137 ⟨Nat.le_of_ble_eq_true rfl, Nat.le_of_ble_eq_true rfl⟩ rfl (fun v hv => ?_)
      obtain rfl := hv
      refine g_st (st' := [_]) rfl ?_
      refine g_topi (oC7) ?_
      refine g_istore X [(14, _), (13, _), (12, _), (11, _), (10, _), (9, _), (8, _), (7, _), (6, _), (5, _), (4, _), (0, _), (1, _), (2, _), (3, _)] dL_act_1140 (by decide) rfl rfl ?_
      refine g_iload_n X dL_act_1142 rfl 14 rfl rfl ?_
      refine g_iconst (v := (5 : Int32)) X dL_act_1143 (by decide) rfl ?_
      refine g_ishr X dL_act_1144 rfl ?_
      refine g_iconst (v := (3 : Int32)) X dL_act_1145 (by decide) rfl ?_
      refine g_callSR (n := 2) (As := [_, _]) (rest := []) X (c_L_up l D ((y >>> ((5 : Int32) &&& 31))) 3 (by omega)) gL_act_L_up rfl (by decide +kernel) ⟨Nat.le_of_ble_eq_true rfl, Nat.le_of_ble_eq_true rfl⟩ [] rfl rfl rfl rfl (Nat.le_of_ble_eq_true rfl) dL_act_1146 ⟨Nat.le_of_ble_eq_true rfl, Nat.le_of_ble_eq_true rfl⟩ rfl (fun v hv => ?_)
      obtain rfl := hv
      refine g_st (st' := [_]) rfl ?_
      refine g_upn (by omega) (fun u1146 hu1146 eu1146 => ?_)
      refine g_if_gt X dL_act_1149 1183 (by decide) rfl (fun h1149 => ?_) (fun h1149 => ?_)
      · have i1149 := nj_lt (a := 0) (b := u1146) (by omega) (by omega) h1149
        refine g_iconst (v := (1 : Int32)) X dL_act_1183 (by decide) rfl ?_
        refine g_goto X dL_act_1184 1188 (by decide) ?_
        refine g_widen 112 2380 (Nat.le_of_ble_eq_true rfl) (Nat.le_of_ble_eq_true rfl) ?_
        refine g_retW X hr (by first | rfl | exact b2i_nar _) dL_act_1188 hAe ?_
        exact ⟨rfl, fA, naA, wA, td, vl, L, pt, fl, kd, kpA, pqA, ⟨⟨_, _, _, hWA⟩, ⟨_, hNRA, hn8A⟩, hFA, (SI_le (Nat.le_succ _) hSA), hL, hch, hkpA, _, hHLA⟩, hADA, rfl⟩
      · have i1149 := nj_nlt (a := 0) (b := u1146) (by omega) (by omega) h1149
        refine g_aload_n X dL_act_1152 rfl 11 rfl rfl ?_
        refine g_callVXs (n := 0) (As := []) (rest := []) X hAg rfl (c_X6_flush l D a fA naA wA td vl L pt fl kd kpA pqA ps mk (min n (1 + u998)) (1 + u998) hWA hNRA hFA hkpA hHLA.hq ) gL_act_X6_flush rfl (by decide +kernel) ⟨Nat.le_of_ble_eq_true rfl, Nat.le_of_ble_eq_true rfl⟩ 20 rfl rfl rfl rfl (Nat.le_of_ble_eq_true rfl) dL_act_1153 ⟨Nat.le_of_ble_eq_true rfl, Nat.le_of_ble_eq_true rfl⟩ rfl (fun v w9 hv => ?_)
        obtain ⟨rfl, fB, naB, wB, kpB, pqB, efB, hNB, hAB, hkpB, hHLB, ekB, rfl⟩ := ch_out hv hkpA hHLA hFA ⟨_, hNRA, hn8A⟩
        have hADB := hAB.trans hADA
        refine ⟨hAB, ?_⟩
        refine g_st (st' := [_]) rfl ?_
        obtain ⟨hrxB, hWB, hSB, h81B⟩ := flush_chg hWA hSA efB
        refine g_topi (hrxB) ?_
        have hNRB := hNB.to hWB
        have hFB : FB fB := by rw [efB]; exact flush_fb hFA
        obtain ⟨hmkB, hm40B, hn8B, hb0B, hb0B1, hb0B8, hn8Bb, hstB, hnoB, howB, hdoB, hb0Ba, hb0Bc, hb0Bd, hb0Bz⟩ := id hWB
        have hm8B : 0 ≤ 8 := by omega
        obtain ⟨eN1B, eN2B, -⟩ := hWB.N
        refine g_iload X dL_act_1156 1 rfl rfl ?_
        refine g_icmp_ne X dL_act_1158 1187 (by decide) rfl (fun h1158 => absurd (nj_ne (a := (min n (1 + u998))) (b := (1 + u998)) (by omega) (by omega) h1158) (by omega)) (fun h1158 => ?_)
        have i1158 := nj_eq (a := (min n (1 + u998))) (b := (1 + u998)) (by omega) (by omega) h1158
        refine g_aload_n X dL_act_1161 rfl 11 rfl rfl ?_
        refine g_iconst (v := (2 : Int32)) X dL_act_1162 (by decide) rfl ?_
        refine g_callVRX (w0 := []) (n := 1) (As := [_]) (rest := []) X (c_X6_count l D a fB naB wB td vl L pt fl kd kpB (fqa pqB) (fqa ps) (tlW D pqB ps) mk 0 (1 + u998) hWB hNRB _) gL_act_X6_count rfl (by decide +kernel) ⟨Nat.le_of_ble_eq_true rfl, Nat.le_of_ble_eq_true rfl⟩ 20 rfl rfl rfl rfl rfl (Nat.le_of_ble_eq_true rfl) dL_act_1163 ⟨Nat.le_of_ble_eq_true rfl, Nat.le_of_ble_eq_true rfl⟩ rfl (fun v hv => ?_)
        obtain rfl := hv
        refine g_st (st' := [_]) rfl ?_
        refine g_topi (oC2.trans hn8B) ?_
        refine g_if_ne X dL_act_1166 1187 (by decide) rfl (fun h1166 => absurd rfl h1166) (fun h1166 => ?_)
        refine g_aload_n X dL_act_1169 rfl 11 rfl rfl ?_
        refine g_bipush (v := (7 : Int32)) X dL_act_1170 (by decide) rfl ?_
        refine g_callVRX (w0 := []) (n := 1) (As := [_]) (rest := []) X (c_X6_count l D a fB naB wB td vl L pt fl kd kpB (fqa pqB) (fqa ps) (tlW D pqB ps) mk 0 (1 + u998) hWB hNRB _) gL_act_X6_count rfl (by decide +kernel) ⟨Nat.le_of_ble_eq_true rfl, Nat.le_of_ble_eq_true rfl⟩ 20 rfl rfl rfl rfl rfl (Nat.le_of_ble_eq_true rfl) dL_act_1172 ⟨Nat.le_of_ble_eq_true rfl, Nat.le_of_ble_eq_true rfl⟩ rfl (fun v hv => ?_)
        obtain rfl := hv
        refine g_st (st' := [_]) rfl ?_
        refine g_topi (oC7) ?_
        refine g_topi ((show fB 81 = (fA 81 + nI (1 + u998)) from by rw [h81B, show (min n (1 + u998)) = (1 + u998) from by omega])) ?_
        refine g_iload X dL_act_1175 0 rfl rfl ?_
        refine g_iload X dL_act_1177 1 rfl rfl ?_
        refine g_iadd X dL_act_1179 rfl ?_
        refine g_icmp_ne X dL_act_1180 1187 (by decide) rfl (fun h1180 => absurd rfl h1180) (fun h1180 => ?_)
        refine g_iconst (v := (1 : Int32)) X dL_act_1183 (by decide) rfl ?_
        refine g_goto X dL_act_1184 1188 (by decide) ?_
        refine g_widen 112 2380 (Nat.le_of_ble_eq_true rfl) (Nat.le_of_ble_eq_true rfl) ?_
        refine g_retW X hr (by first | rfl | exact b2i_nar _) dL_act_1188 hAe ?_
        exact ⟨rfl, fB, naB, wB, td, vl, L, pt, fl, kd, kpB, pqB, ⟨⟨_, _, _, hWB⟩, ⟨_, hNRB, hn8B⟩, hFB, (SI_le (Nat.le_succ _) hSB), hL, hch, hkpB, _, hHLB⟩, hADB, rfl⟩
  · subst h9
    refine g_iload X dL_act_989 0 rfl rfl ?_
    refine g_if_ne X dL_act_991 1005 (by decide) rfl (fun h991 => ?_) (fun h991 => absurd h991 (by decide))
    refine g_iload X dL_act_1005 0 rfl rfl ?_
    refine g_iconst (v := (2 : Int32)) X dL_act_1007 (by decide) rfl ?_
    refine g_icmp_ne X dL_act_1008 1019 (by decide) rfl (fun h1008 => ?_) (fun h1008 => absurd h1008 (by decide))
    refine g_iload_n X dL_act_1019 rfl 8 rfl rfl ?_
    refine g_iconst (v := (2 : Int32)) X dL_act_1020 (by decide) rfl ?_
    refine g_callSR (n := 2) (As := [_, _]) (rest := []) X (c_L_up l D (y) 2 (by omega)) gL_act_L_up rfl (by decide +kernel) ⟨Nat.le_of_ble_eq_true rfl, Nat.le_of_ble_eq_true rfl⟩ [] rfl rfl rfl rfl (Nat.le_of_ble_eq_true rfl) dL_act_1021 ⟨Nat.le_of_ble_eq_true rfl, Nat.le_of_ble_eq_true rfl⟩ rfl (fun v hv => ?_)
    obtain rfl := hv
    refine g_st (st' := [_]) rfl ?_
    refine g_upn (by omega) (fun u1021 hu1021 eu1021 => ?_)
    refine g_istore X [(9, _), (8, _), (7, _), (6, _), (5, _), (4, _), (0, _), (1, _), (2, _), (3, _)] dL_act_1024 (by decide) rfl rfl ?_
    refine g_aload_n X dL_act_1026 rfl 6 rfl rfl ?_
    refine g_bipush (v := (9 : Int32)) X dL_act_1027 (by decide) rfl ?_
    refine g_iload X dL_act_1029 1 rfl rfl ?_
    refine g_iadd X dL_act_1031 rfl ?_
    refine g_topi (y := (10 : Int32)) (by decide) ?_
    refine g_callVRX (w0 := []) (n := 1) (As := [_]) (rest := []) X (c_X6_count l D a f na w td vl L pt fl kd kp (fqa pq) (fqa ps) (tlW D pq ps) mk n b hW hNR _) gL_act_X6_count rfl (by decide +kernel) ⟨Nat.le_of_ble_eq_true rfl, Nat.le_of_ble_eq_true rfl⟩ 20 rfl rfl rfl rfl rfl (Nat.le_of_ble_eq_true rfl) dL_act_1032 ⟨Nat.le_of_ble_eq_true rfl, Nat.le_of_ble_eq_true rfl⟩ rfl (fun v hv => ?_)
    obtain rfl := hv
    refine g_st (st' := [_]) rfl ?_
    refine g_topi (oC10) ?_
    refine g_istore X [(10, _), (9, _), (8, _), (7, _), (6, _), (5, _), (4, _), (0, _), (1, _), (2, _), (3, _)] dL_act_1035 (by decide) rfl rfl ?_
    refine g_aload_n X dL_act_1037 rfl 7 rfl rfl ?_
    refine g_iconst (v := (2 : Int32)) X dL_act_1038 (by decide) rfl ?_
    refine g_callVRX (w0 := []) (n := 1) (As := [_]) (rest := []) X (c_X6_count l D a f na w td vl L pt fl kd kp (fqa pq) (fqa ps) (tlW D pq ps) mk n b hW hNR _) gL_act_X6_count rfl (by decide +kernel) ⟨Nat.le_of_ble_eq_true rfl, Nat.le_of_ble_eq_true rfl⟩ 20 rfl rfl rfl rfl rfl (Nat.le_of_ble_eq_true rfl) dL_act_1039 ⟨Nat.le_of_ble_eq_true rfl, Nat.le_of_ble_eq_true rfl⟩ rfl (fun v hv => ?_)
    obtain rfl := hv
    refine g_st (st' := [_]) rfl ?_
    refine g_topi (oC2.trans hn8) ?_
    refine g_istore X [(11, _), (10, _), (9, _), (8, _), (7, _), (6, _), (5, _), (4, _), (0, _), (1, _), (2, _), (3, _)] dL_act_1042 (by decide) rfl rfl ?_
    refine g_aload_n X dL_act_1044 rfl 8 rfl rfl ?_
    refine g_bipush (v := (8 : Int32)) X dL_act_1045 (by decide) rfl ?_
    refine g_callVRX (w0 := []) (n := 1) (As := [_]) (rest := []) X (c_X6_count l D a f na w td vl L pt fl kd kp (fqa pq) (fqa ps) (tlW D pq ps) mk n b hW hNR _) gL_act_X6_count rfl (by decide +kernel) ⟨Nat.le_of_ble_eq_true rfl, Nat.le_of_ble_eq_true rfl⟩ 20 rfl rfl rfl rfl rfl (Nat.le_of_ble_eq_true rfl) dL_act_1047 ⟨Nat.le_of_ble_eq_true rfl, Nat.le_of_ble_eq_true rfl⟩ rfl (fun v hv => ?_)
    obtain rfl := hv
    refine g_st (st' := [_]) rfl ?_
    refine g_topi (oC8) ?_
    refine g_istore X [(12, _), (11, _), (10, _), (9, _), (8, _), (7, _), (6, _), (5, _), (4, _), (0, _), (1, _), (2, _), (3, _)] dL_act_1050 (by decide) rfl rfl ?_
    refine g_aload_n X dL_act_1052 rfl 9 rfl rfl ?_
    refine g_iload X dL_act_1053 4 rfl rfl ?_
    refine g_iload X dL_act_1055 3 rfl rfl ?_
    refine g_callVXs (n := 2) (As := [_, _]) (rest := []) X hAg rfl (c_X6_set l D a f na w td vl L pt fl kd kp pq ps mk n b hW hNR hF hkp hHL.hq _ _) gL_act_X6_set rfl (by decide +kernel) ⟨Nat.le_of_ble_eq_true rfl, Nat.le_of_ble_eq_true rfl⟩ 20 rfl rfl rfl rfl (Nat.le_of_ble_eq_true rfl) dL_act_1057 ⟨Nat.le_of_ble_eq_true rfl, Nat.le_of_ble_eq_true rfl⟩ rfl (fun v w9 hv => ?_)
    obtain ⟨rfl, fA, naA, wA, kpA, pqA, efA, hNA, hAA, hkpA, hHLA, ekA, rfl⟩ := ch_out hv hkp hHL hF ⟨_, hNR, hn8⟩
    have hADA := hAA
    refine ⟨hAA, ?_⟩
    refine g_st (st' := [_]) rfl ?_
    obtain ⟨hrx, hWA, hSA, hvA, h82A, h81A, -⟩ := set_chg (x := 1) (v := u1021) (b2 := b) hW hS (by omega) (by omega) (by omega) efA
    refine g_topi (hrx) ?_
    have hNRA := hNA.to hWA
    have hFA : FB fA := by rw [efA]; exact set_fb ⟨mk, n, b, hW⟩ hF
    obtain ⟨hmkA, hm40A, hn8A, hb0A, hb0A1, hb0A8, hn8Ab, hstA, hnoA, howA, hdoA, hb0Aa, hb0Ac, hb0Ad, hb0Az⟩ := id hWA
    have hm8A : (min n b) ≤ 8 := by omega
    obtain ⟨eN1A, eN2A, -⟩ := hWA.N
    refine g_iload X dL_act_1060 2 rfl rfl ?_
    refine g_icmp_ne X dL_act_1062 1079 (by decide) rfl (fun h1062 => absurd rfl h1062) (fun h1062 => ?_)
    refine g_aload_n X dL_act_1065 rfl 9 rfl rfl ?_
    refine g_bipush (v := (9 : Int32)) X dL_act_1066 (by decide) rfl ?_
    refine g_iload X dL_act_1068 4 rfl rfl ?_
    refine g_iadd X dL_act_1070 rfl ?_
    refine g_topi (y := (10 : Int32)) (by decide) ?_
    refine g_callVRX (w0 := []) (n := 1) (As := [_]) (rest := []) X (c_X6_count l D a fA naA wA td vl L pt fl kd kpA (fqa pqA) (fqa ps) (tlW D pqA ps) mk (min n b) b hWA hNRA _) gL_act_X6_count rfl (by decide +kernel) ⟨Nat.le_of_ble_eq_true rfl, Nat.le_of_ble_eq_true rfl⟩ 20 rfl rfl rfl rfl rfl (Nat.le_of_ble_eq_true rfl) dL_act_1071 ⟨Nat.le_of_ble_eq_true rfl, Nat.le_of_ble_eq_true rfl⟩ rfl (fun v hv => ?_)
    obtain rfl := hv
    refine g_st (st' := [_]) rfl ?_
    refine g_topi (oC10) ?_
    refine g_topi (hvA) ?_
    refine g_iload X dL_act_1074 3 rfl rfl ?_
    refine g_icmp_eq X dL_act_1076 1081 (by decide) rfl (fun h1076 => ?_) (fun h1076 => absurd rfl h1076)
    refine g_iload X dL_act_1081 1 rfl rfl ?_
    refine g_aload_n X dL_act_1083 rfl 9 rfl rfl ?_
    refine g_bipush (v := (9 : Int32)) X dL_act_1084 (by decide) rfl ?_
    refine g_callVRX (w0 := []) (n := 1) (As := [_]) (rest := [_]) X (c_X6_count l D a fA naA wA td vl L pt fl kd kpA (fqa pqA) (fqa ps) (tlW D pqA ps) mk (min n b) b hWA hNRA _) gL_act_X6_count rfl (by decide +kernel) ⟨Nat.le_of_ble_eq_true rfl, Nat.le_of_ble_eq_true rfl⟩ 20 rfl rfl rfl rfl rfl (Nat.le_of_ble_eq_true rfl) dL_act_1086 ⟨Nat.le_of_ble_eq_true rfl, Nat.le_of_ble_eq_true rfl⟩ rfl (fun v hv => ?_)
    obtain rfl := hv
    refine g_st (st' := [_, _]) rfl ?_
    refine g_topi (oC9.trans hb0A) ?_
    refine g_icmp_le X dL_act_1089 1101 (by decide) rfl (fun h1089 => ?_) (fun h1089 => ?_)
    · have i1089 := nj_le (a := n) (b := b) (by omega) (by omega) h1089
      refine g_iload X dL_act_1101 1 rfl rfl ?_
      refine g_istore X [(13, _), (12, _), (11, _), (10, _), (9, _), (8, _), (7, _), (6, _), (5, _), (4, _), (0, _), (1, _), (2, _), (3, _)] dL_act_1103 (by decide) rfl rfl ?_
      refine g_aload_n X dL_act_1105 rfl 10 rfl rfl ?_
      refine g_iconst (v := (2 : Int32)) X dL_act_1106 (by decide) rfl ?_
      refine g_callVRX (w0 := []) (n := 1) (As := [_]) (rest := []) X (c_X6_count l D a fA naA wA td vl L pt fl kd kpA (fqa pqA) (fqa ps) (tlW D pqA ps) mk (min n b) b hWA hNRA _) gL_act_X6_count rfl (by decide +kernel) ⟨Nat.le_of_ble_eq_true rfl, Nat.le_of_ble_eq_true rfl⟩ 20 rfl rfl rfl rfl rfl (Nat.le_of_ble_eq_true rfl) dL_act_1107 ⟨Nat.le_of_ble_eq_true rfl, Nat.le_of_ble_eq_true rfl⟩ rfl (fun v hv => ?_)
      obtain rfl := hv
      refine g_st (st' := [_]) rfl ?_
      refine g_topi (oC2.trans hn8A) ?_
      refine g_iload X dL_act_1110 0 rfl rfl ?_
      refine g_icmp_ne X dL_act_1112 1132 (by decide) rfl (fun h1112 => absurd (nj_ne (a := (min n b)) (b := n) (by omega) (by omega) h1112) (by omega)) (fun h1112 => ?_)
      have i1112 := nj_eq (a := (min n b)) (b := n) (by omega) (by omega) h1112
      refine g_aload_n X dL_act_1115 rfl 10 rfl rfl ?_
      refine g_bipush (v := (8 : Int32)) X dL_act_1116 (by decide) rfl ?_
      refine g_callVRX (w0 := []) (n := 1) (As := [_]) (rest := []) X (c_X6_count l D a fA naA wA td vl L pt fl kd kpA (fqa pqA) (fqa ps) (tlW D pqA ps) mk (min n b) b hWA hNRA _) gL_act_X6_count rfl (by decide +kernel) ⟨Nat.le_of_ble_eq_true rfl, Nat.le_of_ble_eq_true rfl⟩ 20 rfl rfl rfl rfl rfl (Nat.le_of_ble_eq_true rfl) dL_act_1118 ⟨Nat.le_of_ble_eq_true rfl, Nat.le_of_ble_eq_true rfl⟩ rfl (fun v hv => ?_)
      obtain rfl := hv
      refine g_st (st' := [_]) rfl ?_
      refine g_topi (oC8) ?_
      refine g_iload X dL_act_1121 1 rfl rfl ?_
      refine g_iload X dL_act_1123 2 rfl rfl ?_
      refine g_iadd X dL_act_1125 rfl ?_
      refine g_iload X dL_act_1126 0 rfl rfl ?_
      refine g_isub X dL_act_1128 rfl ?_
      refine g_icmp_eq X dL_act_1129 1134 (by decide) rfl (fun h1129 => ?_) (fun h1129 => absurd (h82A.trans (st_82 (by omega))) h1129)
      refine g_aload_n X dL_act_1134 rfl 10 rfl rfl ?_
      refine g_bipush (v := (7 : Int32)) X dL_act_1135 (by decide) rfl ?_
      refine g_callVRX (w0 := []) (n := 1) (As := [_]) (rest := []) X (c_X6_count l D a fA naA wA td vl L pt fl kd kpA (fqa pqA) (fqa ps) (tlW D pqA ps) mk (min n b) b hWA hNRA _) gL_act_X6_count rfl (by decide +kernel) ⟨Nat.le_of_ble_eq_true rfl, Nat.le_of_ble_eq_true rfl⟩ 20 rfl rfl rfl rfl rfl (Nat.le_of_ble_eq_true rfl) dL_act_1137 ⟨Nat.le_of_ble_eq_true rfl, Nat.le_of_ble_eq_true rfl⟩ rfl (fun v hv => ?_)
      obtain rfl := hv
      refine g_st (st' := [_]) rfl ?_
      refine g_topi (oC7) ?_
      refine g_istore X [(14, _), (13, _), (12, _), (11, _), (10, _), (9, _), (8, _), (7, _), (6, _), (5, _), (4, _), (0, _), (1, _), (2, _), (3, _)] dL_act_1140 (by decide) rfl rfl ?_
      refine g_iload_n X dL_act_1142 rfl 14 rfl rfl ?_
      refine g_iconst (v := (5 : Int32)) X dL_act_1143 (by decide) rfl ?_
      refine g_ishr X dL_act_1144 rfl ?_
      refine g_iconst (v := (3 : Int32)) X dL_act_1145 (by decide) rfl ?_
      refine g_callSR (n := 2) (As := [_, _]) (rest := []) X (c_L_up l D ((y >>> ((5 : Int32) &&& 31))) 3 (by omega)) gL_act_L_up rfl (by decide +kernel) ⟨Nat.le_of_ble_eq_true rfl, Nat.le_of_ble_eq_true rfl⟩ [] rfl rfl rfl rfl (Nat.le_of_ble_eq_true rfl) dL_act_1146 ⟨Nat.le_of_ble_eq_true rfl, Nat.le_of_ble_eq_true rfl⟩ rfl (fun v hv => ?_)
      obtain rfl := hv
      refine g_st (st' := [_]) rfl ?_
      refine g_upn (by omega) (fun u1146 hu1146 eu1146 => ?_)
      refine g_if_gt X dL_act_1149 1183 (by decide) rfl (fun h1149 => ?_) (fun h1149 => ?_)
      · have i1149 := nj_lt (a := 0) (b := u1146) (by omega) (by omega) h1149
        refine g_iconst (v := (1 : Int32)) X dL_act_1183 (by decide) rfl ?_
        refine g_goto X dL_act_1184 1188 (by decide) ?_
        refine g_widen 112 2380 (Nat.le_of_ble_eq_true rfl) (Nat.le_of_ble_eq_true rfl) ?_
        refine g_retW X hr (by first | rfl | exact b2i_nar _) dL_act_1188 hAe ?_
        exact ⟨rfl, fA, naA, wA, td, vl, L, pt, fl, kd, kpA, pqA, ⟨⟨_, _, _, hWA⟩, ⟨_, hNRA, hn8A⟩, hFA, (SI_le (Nat.le_succ _) hSA), hL, hch, hkpA, _, hHLA⟩, hADA, rfl⟩
      · have i1149 := nj_nlt (a := 0) (b := u1146) (by omega) (by omega) h1149
        refine g_aload_n X dL_act_1152 rfl 11 rfl rfl ?_
        refine g_callVXs (n := 0) (As := []) (rest := []) X hAg rfl (c_X6_flush l D a fA naA wA td vl L pt fl kd kpA pqA ps mk (min n b) b hWA hNRA hFA hkpA hHLA.hq ) gL_act_X6_flush rfl (by decide +kernel) ⟨Nat.le_of_ble_eq_true rfl, Nat.le_of_ble_eq_true rfl⟩ 20 rfl rfl rfl rfl (Nat.le_of_ble_eq_true rfl) dL_act_1153 ⟨Nat.le_of_ble_eq_true rfl, Nat.le_of_ble_eq_true rfl⟩ rfl (fun v w9 hv => ?_)
        obtain ⟨rfl, fB, naB, wB, kpB, pqB, efB, hNB, hAB, hkpB, hHLB, ekB, rfl⟩ := ch_out hv hkpA hHLA hFA ⟨_, hNRA, hn8A⟩
        have hADB := hAB.trans hADA
        refine ⟨hAB, ?_⟩
        refine g_st (st' := [_]) rfl ?_
        obtain ⟨hrxB, hWB, hSB, h81B⟩ := flush_chg hWA hSA efB
        refine g_topi (hrxB) ?_
        have hNRB := hNB.to hWB
        have hFB : FB fB := by rw [efB]; exact flush_fb hFA
        obtain ⟨hmkB, hm40B, hn8B, hb0B, hb0B1, hb0B8, hn8Bb, hstB, hnoB, howB, hdoB, hb0Ba, hb0Bc, hb0Bd, hb0Bz⟩ := id hWB
        have hm8B : 0 ≤ 8 := by omega
        obtain ⟨eN1B, eN2B, -⟩ := hWB.N
        refine g_iload X dL_act_1156 1 rfl rfl ?_
        refine g_icmp_ne X dL_act_1158 1187 (by decide) rfl (fun h1158 => absurd (nj_ne (a := (min n b)) (b := n) (by omega) (by omega) h1158) (by omega)) (fun h1158 => ?_)
        have i1158 := nj_eq (a := (min n b)) (b := n) (by omega) (by omega) h1158
        refine g_aload_n X dL_act_1161 rfl 11 rfl rfl ?_
        refine g_iconst (v := (2 : Int32)) X dL_act_1162 (by decide) rfl ?_
        refine g_callVRX (w0 := []) (n := 1) (As := [_]) (rest := []) X (c_X6_count l D a fB naB wB td vl L pt fl kd kpB (fqa pqB) (fqa ps) (tlW D pqB ps) mk 0 b hWB hNRB _) gL_act_X6_count rfl (by decide +kernel) ⟨Nat.le_of_ble_eq_true rfl, Nat.le_of_ble_eq_true rfl⟩ 20 rfl rfl rfl rfl rfl (Nat.le_of_ble_eq_true rfl) dL_act_1163 ⟨Nat.le_of_ble_eq_true rfl, Nat.le_of_ble_eq_true rfl⟩ rfl (fun v hv => ?_)
        obtain rfl := hv
        refine g_st (st' := [_]) rfl ?_
        refine g_topi (oC2.trans hn8B) ?_
        refine g_if_ne X dL_act_1166 1187 (by decide) rfl (fun h1166 => absurd rfl h1166) (fun h1166 => ?_)
        refine g_aload_n X dL_act_1169 rfl 11 rfl rfl ?_
        refine g_bipush (v := (7 : Int32)) X dL_act_1170 (by decide) rfl ?_
        refine g_callVRX (w0 := []) (n := 1) (As := [_]) (rest := []) X (c_X6_count l D a fB naB wB td vl L pt fl kd kpB (fqa pqB) (fqa ps) (tlW D pqB ps) mk 0 b hWB hNRB _) gL_act_X6_count rfl (by decide +kernel) ⟨Nat.le_of_ble_eq_true rfl, Nat.le_of_ble_eq_true rfl⟩ 20 rfl rfl rfl rfl rfl (Nat.le_of_ble_eq_true rfl) dL_act_1172 ⟨Nat.le_of_ble_eq_true rfl, Nat.le_of_ble_eq_true rfl⟩ rfl (fun v hv => ?_)
        obtain rfl := hv
        refine g_st (st' := [_]) rfl ?_
        refine g_topi (oC7) ?_
        refine g_topi ((show fB 81 = (fA 81 + nI n) from by rw [h81B, show (min n b) = n from by omega])) ?_
        refine g_iload X dL_act_1175 0 rfl rfl ?_
        refine g_iload X dL_act_1177 1 rfl rfl ?_
        refine g_iadd X dL_act_1179 rfl ?_
        refine g_icmp_ne X dL_act_1180 1187 (by decide) rfl (fun h1180 => absurd rfl h1180) (fun h1180 => ?_)
        refine g_iconst (v := (1 : Int32)) X dL_act_1183 (by decide) rfl ?_
        refine g_goto X dL_act_1184 1188 (by decide) ?_
        refine g_widen 112 2380 (Nat.le_of_ble_eq_true rfl) (Nat.le_of_ble_eq_true rfl) ?_
        refine g_retW X hr (by first | rfl | exact b2i_nar _) dL_act_1188 hAe ?_
        exact ⟨rfl, fB, naB, wB, td, vl, L, pt, fl, kd, kpB, pqB, ⟨⟨_, _, _, hWB⟩, ⟨_, hNRB, hn8B⟩, hFB, (SI_le (Nat.le_succ _) hSB), hL, hch, hkpB, _, hHLB⟩, hADB, rfl⟩
    · have i1089 := nj_nle (a := n) (b := b) (by omega) (by omega) h1089
      refine g_aload_n X dL_act_1092 rfl 9 rfl rfl ?_
      refine g_bipush (v := (9 : Int32)) X dL_act_1093 (by decide) rfl ?_
      refine g_callVRX (w0 := []) (n := 1) (As := [_]) (rest := []) X (c_X6_count l D a fA naA wA td vl L pt fl kd kpA (fqa pqA) (fqa ps) (tlW D pqA ps) mk (min n b) b hWA hNRA _) gL_act_X6_count rfl (by decide +kernel) ⟨Nat.le_of_ble_eq_true rfl, Nat.le_of_ble_eq_true rfl⟩ 20 rfl rfl rfl rfl rfl (Nat.le_of_ble_eq_true rfl) dL_act_1095 ⟨Nat.le_of_ble_eq_true rfl, Nat.le_of_ble_eq_true rfl⟩ rfl (fun v hv => ?_)
      obtain rfl := hv
      refine g_st (st' := [_]) rfl ?_
      refine g_topi (oC9.trans hb0A) ?_
      refine g_goto X dL_act_1098 1103 (by decide) ?_
      refine g_istore X [(13, _), (12, _), (11, _), (10, _), (9, _), (8, _), (7, _), (6, _), (5, _), (4, _), (0, _), (1, _), (2, _), (3, _)] dL_act_1103 (by decide) rfl rfl ?_
      refine g_aload_n X dL_act_1105 rfl 10 rfl rfl ?_
      refine g_iconst (v := (2 : Int32)) X dL_act_1106 (by decide) rfl ?_
      refine g_callVRX (w0 := []) (n := 1) (As := [_]) (rest := []) X (c_X6_count l D a fA naA wA td vl L pt fl kd kpA (fqa pqA) (fqa ps) (tlW D pqA ps) mk (min n b) b hWA hNRA _) gL_act_X6_count rfl (by decide +kernel) ⟨Nat.le_of_ble_eq_true rfl, Nat.le_of_ble_eq_true rfl⟩ 20 rfl rfl rfl rfl rfl (Nat.le_of_ble_eq_true rfl) dL_act_1107 ⟨Nat.le_of_ble_eq_true rfl, Nat.le_of_ble_eq_true rfl⟩ rfl (fun v hv => ?_)
      obtain rfl := hv
      refine g_st (st' := [_]) rfl ?_
      refine g_topi (oC2.trans hn8A) ?_
      refine g_iload X dL_act_1110 0 rfl rfl ?_
      refine g_icmp_ne X dL_act_1112 1132 (by decide) rfl (fun h1112 => absurd (nj_ne (a := (min n b)) (b := b) (by omega) (by omega) h1112) (by omega)) (fun h1112 => ?_)
      have i1112 := nj_eq (a := (min n b)) (b := b) (by omega) (by omega) h1112
      refine g_aload_n X dL_act_1115 rfl 10 rfl rfl ?_
      refine g_bipush (v := (8 : Int32)) X dL_act_1116 (by decide) rfl ?_
      refine g_callVRX (w0 := []) (n := 1) (As := [_]) (rest := []) X (c_X6_count l D a fA naA wA td vl L pt fl kd kpA (fqa pqA) (fqa ps) (tlW D pqA ps) mk (min n b) b hWA hNRA _) gL_act_X6_count rfl (by decide +kernel) ⟨Nat.le_of_ble_eq_true rfl, Nat.le_of_ble_eq_true rfl⟩ 20 rfl rfl rfl rfl rfl (Nat.le_of_ble_eq_true rfl) dL_act_1118 ⟨Nat.le_of_ble_eq_true rfl, Nat.le_of_ble_eq_true rfl⟩ rfl (fun v hv => ?_)
      obtain rfl := hv
      refine g_st (st' := [_]) rfl ?_
      refine g_topi (oC8) ?_
      refine g_iload X dL_act_1121 1 rfl rfl ?_
      refine g_iload X dL_act_1123 2 rfl rfl ?_
      refine g_iadd X dL_act_1125 rfl ?_
      refine g_iload X dL_act_1126 0 rfl rfl ?_
      refine g_isub X dL_act_1128 rfl ?_
      refine g_icmp_eq X dL_act_1129 1134 (by decide) rfl (fun h1129 => ?_) (fun h1129 => absurd (h82A.trans (st_82 (by omega))) h1129)
      refine g_aload_n X dL_act_1134 rfl 10 rfl rfl ?_
      refine g_bipush (v := (7 : Int32)) X dL_act_1135 (by decide) rfl ?_
      refine g_callVRX (w0 := []) (n := 1) (As := [_]) (rest := []) X (c_X6_count l D a fA naA wA td vl L pt fl kd kpA (fqa pqA) (fqa ps) (tlW D pqA ps) mk (min n b) b hWA hNRA _) gL_act_X6_count rfl (by decide +kernel) ⟨Nat.le_of_ble_eq_true rfl, Nat.le_of_ble_eq_true rfl⟩ 20 rfl rfl rfl rfl rfl (Nat.le_of_ble_eq_true rfl) dL_act_1137 ⟨Nat.le_of_ble_eq_true rfl, Nat.le_of_ble_eq_true rfl⟩ rfl (fun v hv => ?_)
      obtain rfl := hv
      refine g_st (st' := [_]) rfl ?_
      refine g_topi (oC7) ?_
      refine g_istore X [(14, _), (13, _), (12, _), (11, _), (10, _), (9, _), (8, _), (7, _), (6, _), (5, _), (4, _), (0, _), (1, _), (2, _), (3, _)] dL_act_1140 (by decide) rfl rfl ?_
      refine g_iload_n X dL_act_1142 rfl 14 rfl rfl ?_
      refine g_iconst (v := (5 : Int32)) X dL_act_1143 (by decide) rfl ?_
      refine g_ishr X dL_act_1144 rfl ?_
      refine g_iconst (v := (3 : Int32)) X dL_act_1145 (by decide) rfl ?_
      refine g_callSR (n := 2) (As := [_, _]) (rest := []) X (c_L_up l D ((y >>> ((5 : Int32) &&& 31))) 3 (by omega)) gL_act_L_up rfl (by decide +kernel) ⟨Nat.le_of_ble_eq_true rfl, Nat.le_of_ble_eq_true rfl⟩ [] rfl rfl rfl rfl (Nat.le_of_ble_eq_true rfl) dL_act_1146 ⟨Nat.le_of_ble_eq_true rfl, Nat.le_of_ble_eq_true rfl⟩ rfl (fun v hv => ?_)
      obtain rfl := hv
      refine g_st (st' := [_]) rfl ?_
      refine g_upn (by omega) (fun u1146 hu1146 eu1146 => ?_)
      refine g_if_gt X dL_act_1149 1183 (by decide) rfl (fun h1149 => ?_) (fun h1149 => ?_)
      · have i1149 := nj_lt (a := 0) (b := u1146) (by omega) (by omega) h1149
        refine g_iconst (v := (1 : Int32)) X dL_act_1183 (by decide) rfl ?_
        refine g_goto X dL_act_1184 1188 (by decide) ?_
        refine g_widen 112 2380 (Nat.le_of_ble_eq_true rfl) (Nat.le_of_ble_eq_true rfl) ?_
        refine g_retW X hr (by first | rfl | exact b2i_nar _) dL_act_1188 hAe ?_
        exact ⟨rfl, fA, naA, wA, td, vl, L, pt, fl, kd, kpA, pqA, ⟨⟨_, _, _, hWA⟩, ⟨_, hNRA, hn8A⟩, hFA, (SI_le (Nat.le_succ _) hSA), hL, hch, hkpA, _, hHLA⟩, hADA, rfl⟩
      · have i1149 := nj_nlt (a := 0) (b := u1146) (by omega) (by omega) h1149
        refine g_aload_n X dL_act_1152 rfl 11 rfl rfl ?_
        refine g_callVXs (n := 0) (As := []) (rest := []) X hAg rfl (c_X6_flush l D a fA naA wA td vl L pt fl kd kpA pqA ps mk (min n b) b hWA hNRA hFA hkpA hHLA.hq ) gL_act_X6_flush rfl (by decide +kernel) ⟨Nat.le_of_ble_eq_true rfl, Nat.le_of_ble_eq_true rfl⟩ 20 rfl rfl rfl rfl (Nat.le_of_ble_eq_true rfl) dL_act_1153 ⟨Nat.le_of_ble_eq_true rfl, Nat.le_of_ble_eq_true rfl⟩ rfl (fun v w9 hv => ?_)
        obtain ⟨rfl, fB, naB, wB, kpB, pqB, efB, hNB, hAB, hkpB, hHLB, ekB, rfl⟩ := ch_out hv hkpA hHLA hFA ⟨_, hNRA, hn8A⟩
        have hADB := hAB.trans hADA
        refine ⟨hAB, ?_⟩
        refine g_st (st' := [_]) rfl ?_
        obtain ⟨hrxB, hWB, hSB, h81B⟩ := flush_chg hWA hSA efB
        refine g_topi (hrxB) ?_
        have hNRB := hNB.to hWB
        have hFB : FB fB := by rw [efB]; exact flush_fb hFA
        obtain ⟨hmkB, hm40B, hn8B, hb0B, hb0B1, hb0B8, hn8Bb, hstB, hnoB, howB, hdoB, hb0Ba, hb0Bc, hb0Bd, hb0Bz⟩ := id hWB
        have hm8B : 0 ≤ 8 := by omega
        obtain ⟨eN1B, eN2B, -⟩ := hWB.N
        refine g_iload X dL_act_1156 1 rfl rfl ?_
        refine g_icmp_ne X dL_act_1158 1187 (by decide) rfl (fun h1158 => absurd (nj_ne (a := (min n b)) (b := b) (by omega) (by omega) h1158) (by omega)) (fun h1158 => ?_)
        have i1158 := nj_eq (a := (min n b)) (b := b) (by omega) (by omega) h1158
        refine g_aload_n X dL_act_1161 rfl 11 rfl rfl ?_
        refine g_iconst (v := (2 : Int32)) X dL_act_1162 (by decide) rfl ?_
        refine g_callVRX (w0 := []) (n := 1) (As := [_]) (rest := []) X (c_X6_count l D a fB naB wB td vl L pt fl kd kpB (fqa pqB) (fqa ps) (tlW D pqB ps) mk 0 b hWB hNRB _) gL_act_X6_count rfl (by decide +kernel) ⟨Nat.le_of_ble_eq_true rfl, Nat.le_of_ble_eq_true rfl⟩ 20 rfl rfl rfl rfl rfl (Nat.le_of_ble_eq_true rfl) dL_act_1163 ⟨Nat.le_of_ble_eq_true rfl, Nat.le_of_ble_eq_true rfl⟩ rfl (fun v hv => ?_)
        obtain rfl := hv
        refine g_st (st' := [_]) rfl ?_
        refine g_topi (oC2.trans hn8B) ?_
        refine g_if_ne X dL_act_1166 1187 (by decide) rfl (fun h1166 => absurd rfl h1166) (fun h1166 => ?_)
        refine g_aload_n X dL_act_1169 rfl 11 rfl rfl ?_
        refine g_bipush (v := (7 : Int32)) X dL_act_1170 (by decide) rfl ?_
        refine g_callVRX (w0 := []) (n := 1) (As := [_]) (rest := []) X (c_X6_count l D a fB naB wB td vl L pt fl kd kpB (fqa pqB) (fqa ps) (tlW D pqB ps) mk 0 b hWB hNRB _) gL_act_X6_count rfl (by decide +kernel) ⟨Nat.le_of_ble_eq_true rfl, Nat.le_of_ble_eq_true rfl⟩ 20 rfl rfl rfl rfl rfl (Nat.le_of_ble_eq_true rfl) dL_act_1172 ⟨Nat.le_of_ble_eq_true rfl, Nat.le_of_ble_eq_true rfl⟩ rfl (fun v hv => ?_)
        obtain rfl := hv
        refine g_st (st' := [_]) rfl ?_
        refine g_topi (oC7) ?_
        refine g_topi ((show fB 81 = (fA 81 + nI b) from by rw [h81B, show (min n b) = b from by omega])) ?_
        refine g_iload X dL_act_1175 0 rfl rfl ?_
        refine g_iload X dL_act_1177 1 rfl rfl ?_
        refine g_iadd X dL_act_1179 rfl ?_
        refine g_icmp_ne X dL_act_1180 1187 (by decide) rfl (fun h1180 => absurd rfl h1180) (fun h1180 => ?_)
        refine g_iconst (v := (1 : Int32)) X dL_act_1183 (by decide) rfl ?_
        refine g_goto X dL_act_1184 1188 (by decide) ?_
        refine g_widen 112 2380 (Nat.le_of_ble_eq_true rfl) (Nat.le_of_ble_eq_true rfl) ?_
        refine g_retW X hr (by first | rfl | exact b2i_nar _) dL_act_1188 hAe ?_
        exact ⟨rfl, fB, naB, wB, td, vl, L, pt, fl, kd, kpB, pqB, ⟨⟨_, _, _, hWB⟩, ⟨_, hNRB, hn8B⟩, hFB, (SI_le (Nat.le_succ _) hSB), hL, hch, hkpB, _, hHLB⟩, hADB, rfl⟩
  · subst h9
    refine g_iload X dL_act_989 0 rfl rfl ?_
    refine g_if_ne X dL_act_991 1005 (by decide) rfl (fun h991 => ?_) (fun h991 => absurd h991 (by decide))
    refine g_iload X dL_act_1005 0 rfl rfl ?_
    refine g_iconst (v := (2 : Int32)) X dL_act_1007 (by decide) rfl ?_
    refine g_icmp_ne X dL_act_1008 1019 (by decide) rfl (fun h1008 => absurd h1008 (by decide)) (fun h1008 => ?_)
    refine g_iload_n X dL_act_1011 rfl 8 rfl rfl ?_
    refine g_iconst (v := (3 : Int32)) X dL_act_1012 (by decide) rfl ?_
    refine g_callSR (n := 2) (As := [_, _]) (rest := []) X (c_L_up l D (y) 3 (by omega)) gL_act_L_up rfl (by decide +kernel) ⟨Nat.le_of_ble_eq_true rfl, Nat.le_of_ble_eq_true rfl⟩ [] rfl rfl rfl rfl (Nat.le_of_ble_eq_true rfl) dL_act_1013 ⟨Nat.le_of_ble_eq_true rfl, Nat.le_of_ble_eq_true rfl⟩ rfl (fun v hv => ?_)
    obtain rfl := hv
    refine g_st (st' := [_]) rfl ?_
    refine g_upn (by omega) (fun u1013 hu1013 eu1013 => ?_)
    refine g_goto X dL_act_1016 1024 (by decide) ?_
    refine g_istore X [(9, _), (8, _), (7, _), (6, _), (5, _), (4, _), (0, _), (1, _), (2, _), (3, _)] dL_act_1024 (by decide) rfl rfl ?_
    refine g_aload_n X dL_act_1026 rfl 6 rfl rfl ?_
    refine g_bipush (v := (9 : Int32)) X dL_act_1027 (by decide) rfl ?_
    refine g_iload X dL_act_1029 1 rfl rfl ?_
    refine g_iadd X dL_act_1031 rfl ?_
    refine g_topi (y := (11 : Int32)) (by decide) ?_
    refine g_callVRX (w0 := []) (n := 1) (As := [_]) (rest := []) X (c_X6_count l D a f na w td vl L pt fl kd kp (fqa pq) (fqa ps) (tlW D pq ps) mk n b hW hNR _) gL_act_X6_count rfl (by decide +kernel) ⟨Nat.le_of_ble_eq_true rfl, Nat.le_of_ble_eq_true rfl⟩ 20 rfl rfl rfl rfl rfl (Nat.le_of_ble_eq_true rfl) dL_act_1032 ⟨Nat.le_of_ble_eq_true rfl, Nat.le_of_ble_eq_true rfl⟩ rfl (fun v hv => ?_)
    obtain rfl := hv
    refine g_st (st' := [_]) rfl ?_
    refine g_topi (oC11) ?_
    refine g_istore X [(10, _), (9, _), (8, _), (7, _), (6, _), (5, _), (4, _), (0, _), (1, _), (2, _), (3, _)] dL_act_1035 (by decide) rfl rfl ?_
    refine g_aload_n X dL_act_1037 rfl 7 rfl rfl ?_
    refine g_iconst (v := (2 : Int32)) X dL_act_1038 (by decide) rfl ?_
    refine g_callVRX (w0 := []) (n := 1) (As := [_]) (rest := []) X (c_X6_count l D a f na w td vl L pt fl kd kp (fqa pq) (fqa ps) (tlW D pq ps) mk n b hW hNR _) gL_act_X6_count rfl (by decide +kernel) ⟨Nat.le_of_ble_eq_true rfl, Nat.le_of_ble_eq_true rfl⟩ 20 rfl rfl rfl rfl rfl (Nat.le_of_ble_eq_true rfl) dL_act_1039 ⟨Nat.le_of_ble_eq_true rfl, Nat.le_of_ble_eq_true rfl⟩ rfl (fun v hv => ?_)
    obtain rfl := hv
    refine g_st (st' := [_]) rfl ?_
    refine g_topi (oC2.trans hn8) ?_
    refine g_istore X [(11, _), (10, _), (9, _), (8, _), (7, _), (6, _), (5, _), (4, _), (0, _), (1, _), (2, _), (3, _)] dL_act_1042 (by decide) rfl rfl ?_
    refine g_aload_n X dL_act_1044 rfl 8 rfl rfl ?_
    refine g_bipush (v := (8 : Int32)) X dL_act_1045 (by decide) rfl ?_
    refine g_callVRX (w0 := []) (n := 1) (As := [_]) (rest := []) X (c_X6_count l D a f na w td vl L pt fl kd kp (fqa pq) (fqa ps) (tlW D pq ps) mk n b hW hNR _) gL_act_X6_count rfl (by decide +kernel) ⟨Nat.le_of_ble_eq_true rfl, Nat.le_of_ble_eq_true rfl⟩ 20 rfl rfl rfl rfl rfl (Nat.le_of_ble_eq_true rfl) dL_act_1047 ⟨Nat.le_of_ble_eq_true rfl, Nat.le_of_ble_eq_true rfl⟩ rfl (fun v hv => ?_)
    obtain rfl := hv
    refine g_st (st' := [_]) rfl ?_
    refine g_topi (oC8) ?_
    refine g_istore X [(12, _), (11, _), (10, _), (9, _), (8, _), (7, _), (6, _), (5, _), (4, _), (0, _), (1, _), (2, _), (3, _)] dL_act_1050 (by decide) rfl rfl ?_
    refine g_aload_n X dL_act_1052 rfl 9 rfl rfl ?_
    refine g_iload X dL_act_1053 4 rfl rfl ?_
    refine g_iload X dL_act_1055 3 rfl rfl ?_
    refine g_callVXs (n := 2) (As := [_, _]) (rest := []) X hAg rfl (c_X6_set l D a f na w td vl L pt fl kd kp pq ps mk n b hW hNR hF hkp hHL.hq _ _) gL_act_X6_set rfl (by decide +kernel) ⟨Nat.le_of_ble_eq_true rfl, Nat.le_of_ble_eq_true rfl⟩ 20 rfl rfl rfl rfl (Nat.le_of_ble_eq_true rfl) dL_act_1057 ⟨Nat.le_of_ble_eq_true rfl, Nat.le_of_ble_eq_true rfl⟩ rfl (fun v w9 hv => ?_)
    obtain ⟨rfl, fA, naA, wA, kpA, pqA, efA, hNA, hAA, hkpA, hHLA, ekA, rfl⟩ := ch_out hv hkp hHL hF ⟨_, hNR, hn8⟩
    have hADA := hAA
    refine ⟨hAA, ?_⟩
    refine g_st (st' := [_]) rfl ?_
    obtain ⟨hrx, hWA, hSA, hvA, h82A, h81A, -⟩ := set_chg (x := 2) (v := u1013) (b2 := b) hW hS (by omega) (by omega) (by omega) efA
    refine g_topi (hrx) ?_
    have hNRA := hNA.to hWA
    have hFA : FB fA := by rw [efA]; exact set_fb ⟨mk, n, b, hW⟩ hF
    obtain ⟨hmkA, hm40A, hn8A, hb0A, hb0A1, hb0A8, hn8Ab, hstA, hnoA, howA, hdoA, hb0Aa, hb0Ac, hb0Ad, hb0Az⟩ := id hWA
    have hm8A : (min n b) ≤ 8 := by omega
    obtain ⟨eN1A, eN2A, -⟩ := hWA.N
    refine g_iload X dL_act_1060 2 rfl rfl ?_
    refine g_icmp_ne X dL_act_1062 1079 (by decide) rfl (fun h1062 => absurd rfl h1062) (fun h1062 => ?_)
    refine g_aload_n X dL_act_1065 rfl 9 rfl rfl ?_
    refine g_bipush (v := (9 : Int32)) X dL_act_1066 (by decide) rfl ?_
    refine g_iload X dL_act_1068 4 rfl rfl ?_
    refine g_iadd X dL_act_1070 rfl ?_
    refine g_topi (y := (11 : Int32)) (by decide) ?_
    refine g_callVRX (w0 := []) (n := 1) (As := [_]) (rest := []) X (c_X6_count l D a fA naA wA td vl L pt fl kd kpA (fqa pqA) (fqa ps) (tlW D pqA ps) mk (min n b) b hWA hNRA _) gL_act_X6_count rfl (by decide +kernel) ⟨Nat.le_of_ble_eq_true rfl, Nat.le_of_ble_eq_true rfl⟩ 20 rfl rfl rfl rfl rfl (Nat.le_of_ble_eq_true rfl) dL_act_1071 ⟨Nat.le_of_ble_eq_true rfl, Nat.le_of_ble_eq_true rfl⟩ rfl (fun v hv => ?_)
    obtain rfl := hv
    refine g_st (st' := [_]) rfl ?_
    refine g_topi (oC11) ?_
    refine g_topi (hvA) ?_
    refine g_iload X dL_act_1074 3 rfl rfl ?_
    refine g_icmp_eq X dL_act_1076 1081 (by decide) rfl (fun h1076 => ?_) (fun h1076 => absurd rfl h1076)
    refine g_iload X dL_act_1081 1 rfl rfl ?_
    refine g_aload_n X dL_act_1083 rfl 9 rfl rfl ?_
    refine g_bipush (v := (9 : Int32)) X dL_act_1084 (by decide) rfl ?_
    refine g_callVRX (w0 := []) (n := 1) (As := [_]) (rest := [_]) X (c_X6_count l D a fA naA wA td vl L pt fl kd kpA (fqa pqA) (fqa ps) (tlW D pqA ps) mk (min n b) b hWA hNRA _) gL_act_X6_count rfl (by decide +kernel) ⟨Nat.le_of_ble_eq_true rfl, Nat.le_of_ble_eq_true rfl⟩ 20 rfl rfl rfl rfl rfl (Nat.le_of_ble_eq_true rfl) dL_act_1086 ⟨Nat.le_of_ble_eq_true rfl, Nat.le_of_ble_eq_true rfl⟩ rfl (fun v hv => ?_)
    obtain rfl := hv
    refine g_st (st' := [_, _]) rfl ?_
    refine g_topi (oC9.trans hb0A) ?_
    refine g_icmp_le X dL_act_1089 1101 (by decide) rfl (fun h1089 => ?_) (fun h1089 => ?_)
    · have i1089 := nj_le (a := n) (b := b) (by omega) (by omega) h1089
      refine g_iload X dL_act_1101 1 rfl rfl ?_
      refine g_istore X [(13, _), (12, _), (11, _), (10, _), (9, _), (8, _), (7, _), (6, _), (5, _), (4, _), (0, _), (1, _), (2, _), (3, _)] dL_act_1103 (by decide) rfl rfl ?_
      refine g_aload_n X dL_act_1105 rfl 10 rfl rfl ?_
      refine g_iconst (v := (2 : Int32)) X dL_act_1106 (by decide) rfl ?_
      refine g_callVRX (w0 := []) (n := 1) (As := [_]) (rest := []) X (c_X6_count l D a fA naA wA td vl L pt fl kd kpA (fqa pqA) (fqa ps) (tlW D pqA ps) mk (min n b) b hWA hNRA _) gL_act_X6_count rfl (by decide +kernel) ⟨Nat.le_of_ble_eq_true rfl, Nat.le_of_ble_eq_true rfl⟩ 20 rfl rfl rfl rfl rfl (Nat.le_of_ble_eq_true rfl) dL_act_1107 ⟨Nat.le_of_ble_eq_true rfl, Nat.le_of_ble_eq_true rfl⟩ rfl (fun v hv => ?_)
      obtain rfl := hv
      refine g_st (st' := [_]) rfl ?_
      refine g_topi (oC2.trans hn8A) ?_
      refine g_iload X dL_act_1110 0 rfl rfl ?_
      refine g_icmp_ne X dL_act_1112 1132 (by decide) rfl (fun h1112 => absurd (nj_ne (a := (min n b)) (b := n) (by omega) (by omega) h1112) (by omega)) (fun h1112 => ?_)
      have i1112 := nj_eq (a := (min n b)) (b := n) (by omega) (by omega) h1112
      refine g_aload_n X dL_act_1115 rfl 10 rfl rfl ?_
      refine g_bipush (v := (8 : Int32)) X dL_act_1116 (by decide) rfl ?_
      refine g_callVRX (w0 := []) (n := 1) (As := [_]) (rest := []) X (c_X6_count l D a fA naA wA td vl L pt fl kd kpA (fqa pqA) (fqa ps) (tlW D pqA ps) mk (min n b) b hWA hNRA _) gL_act_X6_count rfl (by decide +kernel) ⟨Nat.le_of_ble_eq_true rfl, Nat.le_of_ble_eq_true rfl⟩ 20 rfl rfl rfl rfl rfl (Nat.le_of_ble_eq_true rfl) dL_act_1118 ⟨Nat.le_of_ble_eq_true rfl, Nat.le_of_ble_eq_true rfl⟩ rfl (fun v hv => ?_)
      obtain rfl := hv
      refine g_st (st' := [_]) rfl ?_
      refine g_topi (oC8) ?_
      refine g_iload X dL_act_1121 1 rfl rfl ?_
      refine g_iload X dL_act_1123 2 rfl rfl ?_
      refine g_iadd X dL_act_1125 rfl ?_
      refine g_iload X dL_act_1126 0 rfl rfl ?_
      refine g_isub X dL_act_1128 rfl ?_
      refine g_icmp_eq X dL_act_1129 1134 (by decide) rfl (fun h1129 => ?_) (fun h1129 => absurd (h82A.trans (st_82 (by omega))) h1129)
      refine g_aload_n X dL_act_1134 rfl 10 rfl rfl ?_
      refine g_bipush (v := (7 : Int32)) X dL_act_1135 (by decide) rfl ?_
      refine g_callVRX (w0 := []) (n := 1) (As := [_]) (rest := []) X (c_X6_count l D a fA naA wA td vl L pt fl kd kpA (fqa pqA) (fqa ps) (tlW D pqA ps) mk (min n b) b hWA hNRA _) gL_act_X6_count rfl (by decide +kernel) ⟨Nat.le_of_ble_eq_true rfl, Nat.le_of_ble_eq_true rfl⟩ 20 rfl rfl rfl rfl rfl (Nat.le_of_ble_eq_true rfl) dL_act_1137 ⟨Nat.le_of_ble_eq_true rfl, Nat.le_of_ble_eq_true rfl⟩ rfl (fun v hv => ?_)
      obtain rfl := hv
      refine g_st (st' := [_]) rfl ?_
      refine g_topi (oC7) ?_
      refine g_istore X [(14, _), (13, _), (12, _), (11, _), (10, _), (9, _), (8, _), (7, _), (6, _), (5, _), (4, _), (0, _), (1, _), (2, _), (3, _)] dL_act_1140 (by decide) rfl rfl ?_
      refine g_iload_n X dL_act_1142 rfl 14 rfl rfl ?_
      refine g_iconst (v := (5 : Int32)) X dL_act_1143 (by decide) rfl ?_
      refine g_ishr X dL_act_1144 rfl ?_
      refine g_iconst (v := (3 : Int32)) X dL_act_1145 (by decide) rfl ?_
      refine g_callSR (n := 2) (As := [_, _]) (rest := []) X (c_L_up l D ((y >>> ((5 : Int32) &&& 31))) 3 (by omega)) gL_act_L_up rfl (by decide +kernel) ⟨Nat.le_of_ble_eq_true rfl, Nat.le_of_ble_eq_true rfl⟩ [] rfl rfl rfl rfl (Nat.le_of_ble_eq_true rfl) dL_act_1146 ⟨Nat.le_of_ble_eq_true rfl, Nat.le_of_ble_eq_true rfl⟩ rfl (fun v hv => ?_)
      obtain rfl := hv
      refine g_st (st' := [_]) rfl ?_
      refine g_upn (by omega) (fun u1146 hu1146 eu1146 => ?_)
      refine g_if_gt X dL_act_1149 1183 (by decide) rfl (fun h1149 => ?_) (fun h1149 => ?_)
      · have i1149 := nj_lt (a := 0) (b := u1146) (by omega) (by omega) h1149
        refine g_iconst (v := (1 : Int32)) X dL_act_1183 (by decide) rfl ?_
        refine g_goto X dL_act_1184 1188 (by decide) ?_
        refine g_widen 112 2380 (Nat.le_of_ble_eq_true rfl) (Nat.le_of_ble_eq_true rfl) ?_
        refine g_retW X hr (by first | rfl | exact b2i_nar _) dL_act_1188 hAe ?_
        exact ⟨rfl, fA, naA, wA, td, vl, L, pt, fl, kd, kpA, pqA, ⟨⟨_, _, _, hWA⟩, ⟨_, hNRA, hn8A⟩, hFA, (SI_le (Nat.le_succ _) hSA), hL, hch, hkpA, _, hHLA⟩, hADA, rfl⟩
      · have i1149 := nj_nlt (a := 0) (b := u1146) (by omega) (by omega) h1149
        refine g_aload_n X dL_act_1152 rfl 11 rfl rfl ?_
        refine g_callVXs (n := 0) (As := []) (rest := []) X hAg rfl (c_X6_flush l D a fA naA wA td vl L pt fl kd kpA pqA ps mk (min n b) b hWA hNRA hFA hkpA hHLA.hq ) gL_act_X6_flush rfl (by decide +kernel) ⟨Nat.le_of_ble_eq_true rfl, Nat.le_of_ble_eq_true rfl⟩ 20 rfl rfl rfl rfl (Nat.le_of_ble_eq_true rfl) dL_act_1153 ⟨Nat.le_of_ble_eq_true rfl, Nat.le_of_ble_eq_true rfl⟩ rfl (fun v w9 hv => ?_)
        obtain ⟨rfl, fB, naB, wB, kpB, pqB, efB, hNB, hAB, hkpB, hHLB, ekB, rfl⟩ := ch_out hv hkpA hHLA hFA ⟨_, hNRA, hn8A⟩
        have hADB := hAB.trans hADA
        refine ⟨hAB, ?_⟩
        refine g_st (st' := [_]) rfl ?_
        obtain ⟨hrxB, hWB, hSB, h81B⟩ := flush_chg hWA hSA efB
        refine g_topi (hrxB) ?_
        have hNRB := hNB.to hWB
        have hFB : FB fB := by rw [efB]; exact flush_fb hFA
        obtain ⟨hmkB, hm40B, hn8B, hb0B, hb0B1, hb0B8, hn8Bb, hstB, hnoB, howB, hdoB, hb0Ba, hb0Bc, hb0Bd, hb0Bz⟩ := id hWB
        have hm8B : 0 ≤ 8 := by omega
        obtain ⟨eN1B, eN2B, -⟩ := hWB.N
        refine g_iload X dL_act_1156 1 rfl rfl ?_
        refine g_icmp_ne X dL_act_1158 1187 (by decide) rfl (fun h1158 => absurd (nj_ne (a := (min n b)) (b := n) (by omega) (by omega) h1158) (by omega)) (fun h1158 => ?_)
        have i1158 := nj_eq (a := (min n b)) (b := n) (by omega) (by omega) h1158
        refine g_aload_n X dL_act_1161 rfl 11 rfl rfl ?_
        refine g_iconst (v := (2 : Int32)) X dL_act_1162 (by decide) rfl ?_
        refine g_callVRX (w0 := []) (n := 1) (As := [_]) (rest := []) X (c_X6_count l D a fB naB wB td vl L pt fl kd kpB (fqa pqB) (fqa ps) (tlW D pqB ps) mk 0 b hWB hNRB _) gL_act_X6_count rfl (by decide +kernel) ⟨Nat.le_of_ble_eq_true rfl, Nat.le_of_ble_eq_true rfl⟩ 20 rfl rfl rfl rfl rfl (Nat.le_of_ble_eq_true rfl) dL_act_1163 ⟨Nat.le_of_ble_eq_true rfl, Nat.le_of_ble_eq_true rfl⟩ rfl (fun v hv => ?_)
        obtain rfl := hv
        refine g_st (st' := [_]) rfl ?_
        refine g_topi (oC2.trans hn8B) ?_
        refine g_if_ne X dL_act_1166 1187 (by decide) rfl (fun h1166 => absurd rfl h1166) (fun h1166 => ?_)
        refine g_aload_n X dL_act_1169 rfl 11 rfl rfl ?_
        refine g_bipush (v := (7 : Int32)) X dL_act_1170 (by decide) rfl ?_
        refine g_callVRX (w0 := []) (n := 1) (As := [_]) (rest := []) X (c_X6_count l D a fB naB wB td vl L pt fl kd kpB (fqa pqB) (fqa ps) (tlW D pqB ps) mk 0 b hWB hNRB _) gL_act_X6_count rfl (by decide +kernel) ⟨Nat.le_of_ble_eq_true rfl, Nat.le_of_ble_eq_true rfl⟩ 20 rfl rfl rfl rfl rfl (Nat.le_of_ble_eq_true rfl) dL_act_1172 ⟨Nat.le_of_ble_eq_true rfl, Nat.le_of_ble_eq_true rfl⟩ rfl (fun v hv => ?_)
        obtain rfl := hv
        refine g_st (st' := [_]) rfl ?_
        refine g_topi (oC7) ?_
        refine g_topi ((show fB 81 = (fA 81 + nI n) from by rw [h81B, show (min n b) = n from by omega])) ?_
        refine g_iload X dL_act_1175 0 rfl rfl ?_
        refine g_iload X dL_act_1177 1 rfl rfl ?_
        refine g_iadd X dL_act_1179 rfl ?_
        refine g_icmp_ne X dL_act_1180 1187 (by decide) rfl (fun h1180 => absurd rfl h1180) (fun h1180 => ?_)
        refine g_iconst (v := (1 : Int32)) X dL_act_1183 (by decide) rfl ?_
        refine g_goto X dL_act_1184 1188 (by decide) ?_
        refine g_widen 112 2380 (Nat.le_of_ble_eq_true rfl) (Nat.le_of_ble_eq_true rfl) ?_
        refine g_retW X hr (by first | rfl | exact b2i_nar _) dL_act_1188 hAe ?_
        exact ⟨rfl, fB, naB, wB, td, vl, L, pt, fl, kd, kpB, pqB, ⟨⟨_, _, _, hWB⟩, ⟨_, hNRB, hn8B⟩, hFB, (SI_le (Nat.le_succ _) hSB), hL, hch, hkpB, _, hHLB⟩, hADB, rfl⟩
    · have i1089 := nj_nle (a := n) (b := b) (by omega) (by omega) h1089
      refine g_aload_n X dL_act_1092 rfl 9 rfl rfl ?_
      refine g_bipush (v := (9 : Int32)) X dL_act_1093 (by decide) rfl ?_
      refine g_callVRX (w0 := []) (n := 1) (As := [_]) (rest := []) X (c_X6_count l D a fA naA wA td vl L pt fl kd kpA (fqa pqA) (fqa ps) (tlW D pqA ps) mk (min n b) b hWA hNRA _) gL_act_X6_count rfl (by decide +kernel) ⟨Nat.le_of_ble_eq_true rfl, Nat.le_of_ble_eq_true rfl⟩ 20 rfl rfl rfl rfl rfl (Nat.le_of_ble_eq_true rfl) dL_act_1095 ⟨Nat.le_of_ble_eq_true rfl, Nat.le_of_ble_eq_true rfl⟩ rfl (fun v hv => ?_)
      obtain rfl := hv
      refine g_st (st' := [_]) rfl ?_
      refine g_topi (oC9.trans hb0A) ?_
      refine g_goto X dL_act_1098 1103 (by decide) ?_
      refine g_istore X [(13, _), (12, _), (11, _), (10, _), (9, _), (8, _), (7, _), (6, _), (5, _), (4, _), (0, _), (1, _), (2, _), (3, _)] dL_act_1103 (by decide) rfl rfl ?_
      refine g_aload_n X dL_act_1105 rfl 10 rfl rfl ?_
      refine g_iconst (v := (2 : Int32)) X dL_act_1106 (by decide) rfl ?_
      refine g_callVRX (w0 := []) (n := 1) (As := [_]) (rest := []) X (c_X6_count l D a fA naA wA td vl L pt fl kd kpA (fqa pqA) (fqa ps) (tlW D pqA ps) mk (min n b) b hWA hNRA _) gL_act_X6_count rfl (by decide +kernel) ⟨Nat.le_of_ble_eq_true rfl, Nat.le_of_ble_eq_true rfl⟩ 20 rfl rfl rfl rfl rfl (Nat.le_of_ble_eq_true rfl) dL_act_1107 ⟨Nat.le_of_ble_eq_true rfl, Nat.le_of_ble_eq_true rfl⟩ rfl (fun v hv => ?_)
      obtain rfl := hv
      refine g_st (st' := [_]) rfl ?_
      refine g_topi (oC2.trans hn8A) ?_
      refine g_iload X dL_act_1110 0 rfl rfl ?_
      refine g_icmp_ne X dL_act_1112 1132 (by decide) rfl (fun h1112 => absurd (nj_ne (a := (min n b)) (b := b) (by omega) (by omega) h1112) (by omega)) (fun h1112 => ?_)
      have i1112 := nj_eq (a := (min n b)) (b := b) (by omega) (by omega) h1112
      refine g_aload_n X dL_act_1115 rfl 10 rfl rfl ?_
      refine g_bipush (v := (8 : Int32)) X dL_act_1116 (by decide) rfl ?_
      refine g_callVRX (w0 := []) (n := 1) (As := [_]) (rest := []) X (c_X6_count l D a fA naA wA td vl L pt fl kd kpA (fqa pqA) (fqa ps) (tlW D pqA ps) mk (min n b) b hWA hNRA _) gL_act_X6_count rfl (by decide +kernel) ⟨Nat.le_of_ble_eq_true rfl, Nat.le_of_ble_eq_true rfl⟩ 20 rfl rfl rfl rfl rfl (Nat.le_of_ble_eq_true rfl) dL_act_1118 ⟨Nat.le_of_ble_eq_true rfl, Nat.le_of_ble_eq_true rfl⟩ rfl (fun v hv => ?_)
      obtain rfl := hv
      refine g_st (st' := [_]) rfl ?_
      refine g_topi (oC8) ?_
      refine g_iload X dL_act_1121 1 rfl rfl ?_
      refine g_iload X dL_act_1123 2 rfl rfl ?_
      refine g_iadd X dL_act_1125 rfl ?_
      refine g_iload X dL_act_1126 0 rfl rfl ?_
      refine g_isub X dL_act_1128 rfl ?_
      refine g_icmp_eq X dL_act_1129 1134 (by decide) rfl (fun h1129 => ?_) (fun h1129 => absurd (h82A.trans (st_82 (by omega))) h1129)
      refine g_aload_n X dL_act_1134 rfl 10 rfl rfl ?_
      refine g_bipush (v := (7 : Int32)) X dL_act_1135 (by decide) rfl ?_
      refine g_callVRX (w0 := []) (n := 1) (As := [_]) (rest := []) X (c_X6_count l D a fA naA wA td vl L pt fl kd kpA (fqa pqA) (fqa ps) (tlW D pqA ps) mk (min n b) b hWA hNRA _) gL_act_X6_count rfl (by decide +kernel) ⟨Nat.le_of_ble_eq_true rfl, Nat.le_of_ble_eq_true rfl⟩ 20 rfl rfl rfl rfl rfl (Nat.le_of_ble_eq_true rfl) dL_act_1137 ⟨Nat.le_of_ble_eq_true rfl, Nat.le_of_ble_eq_true rfl⟩ rfl (fun v hv => ?_)
      obtain rfl := hv
      refine g_st (st' := [_]) rfl ?_
      refine g_topi (oC7) ?_
      refine g_istore X [(14, _), (13, _), (12, _), (11, _), (10, _), (9, _), (8, _), (7, _), (6, _), (5, _), (4, _), (0, _), (1, _), (2, _), (3, _)] dL_act_1140 (by decide) rfl rfl ?_
      refine g_iload_n X dL_act_1142 rfl 14 rfl rfl ?_
      refine g_iconst (v := (5 : Int32)) X dL_act_1143 (by decide) rfl ?_
      refine g_ishr X dL_act_1144 rfl ?_
      refine g_iconst (v := (3 : Int32)) X dL_act_1145 (by decide) rfl ?_
      refine g_callSR (n := 2) (As := [_, _]) (rest := []) X (c_L_up l D ((y >>> ((5 : Int32) &&& 31))) 3 (by omega)) gL_act_L_up rfl (by decide +kernel) ⟨Nat.le_of_ble_eq_true rfl, Nat.le_of_ble_eq_true rfl⟩ [] rfl rfl rfl rfl (Nat.le_of_ble_eq_true rfl) dL_act_1146 ⟨Nat.le_of_ble_eq_true rfl, Nat.le_of_ble_eq_true rfl⟩ rfl (fun v hv => ?_)
      obtain rfl := hv
      refine g_st (st' := [_]) rfl ?_
      refine g_upn (by omega) (fun u1146 hu1146 eu1146 => ?_)
      refine g_if_gt X dL_act_1149 1183 (by decide) rfl (fun h1149 => ?_) (fun h1149 => ?_)
      · have i1149 := nj_lt (a := 0) (b := u1146) (by omega) (by omega) h1149
        refine g_iconst (v := (1 : Int32)) X dL_act_1183 (by decide) rfl ?_
        refine g_goto X dL_act_1184 1188 (by decide) ?_
        refine g_widen 112 2380 (Nat.le_of_ble_eq_true rfl) (Nat.le_of_ble_eq_true rfl) ?_
        refine g_retW X hr (by first | rfl | exact b2i_nar _) dL_act_1188 hAe ?_
        exact ⟨rfl, fA, naA, wA, td, vl, L, pt, fl, kd, kpA, pqA, ⟨⟨_, _, _, hWA⟩, ⟨_, hNRA, hn8A⟩, hFA, (SI_le (Nat.le_succ _) hSA), hL, hch, hkpA, _, hHLA⟩, hADA, rfl⟩
      · have i1149 := nj_nlt (a := 0) (b := u1146) (by omega) (by omega) h1149
        refine g_aload_n X dL_act_1152 rfl 11 rfl rfl ?_
        refine g_callVXs (n := 0) (As := []) (rest := []) X hAg rfl (c_X6_flush l D a fA naA wA td vl L pt fl kd kpA pqA ps mk (min n b) b hWA hNRA hFA hkpA hHLA.hq ) gL_act_X6_flush rfl (by decide +kernel) ⟨Nat.le_of_ble_eq_true rfl, Nat.le_of_ble_eq_true rfl⟩ 20 rfl rfl rfl rfl (Nat.le_of_ble_eq_true rfl) dL_act_1153 ⟨Nat.le_of_ble_eq_true rfl, Nat.le_of_ble_eq_true rfl⟩ rfl (fun v w9 hv => ?_)
        obtain ⟨rfl, fB, naB, wB, kpB, pqB, efB, hNB, hAB, hkpB, hHLB, ekB, rfl⟩ := ch_out hv hkpA hHLA hFA ⟨_, hNRA, hn8A⟩
        have hADB := hAB.trans hADA
        refine ⟨hAB, ?_⟩
        refine g_st (st' := [_]) rfl ?_
        obtain ⟨hrxB, hWB, hSB, h81B⟩ := flush_chg hWA hSA efB
        refine g_topi (hrxB) ?_
        have hNRB := hNB.to hWB
        have hFB : FB fB := by rw [efB]; exact flush_fb hFA
        obtain ⟨hmkB, hm40B, hn8B, hb0B, hb0B1, hb0B8, hn8Bb, hstB, hnoB, howB, hdoB, hb0Ba, hb0Bc, hb0Bd, hb0Bz⟩ := id hWB
        have hm8B : 0 ≤ 8 := by omega
        obtain ⟨eN1B, eN2B, -⟩ := hWB.N
        refine g_iload X dL_act_1156 1 rfl rfl ?_
        refine g_icmp_ne X dL_act_1158 1187 (by decide) rfl (fun h1158 => absurd (nj_ne (a := (min n b)) (b := b) (by omega) (by omega) h1158) (by omega)) (fun h1158 => ?_)
        have i1158 := nj_eq (a := (min n b)) (b := b) (by omega) (by omega) h1158
        refine g_aload_n X dL_act_1161 rfl 11 rfl rfl ?_
        refine g_iconst (v := (2 : Int32)) X dL_act_1162 (by decide) rfl ?_
        refine g_callVRX (w0 := []) (n := 1) (As := [_]) (rest := []) X (c_X6_count l D a fB naB wB td vl L pt fl kd kpB (fqa pqB) (fqa ps) (tlW D pqB ps) mk 0 b hWB hNRB _) gL_act_X6_count rfl (by decide +kernel) ⟨Nat.le_of_ble_eq_true rfl, Nat.le_of_ble_eq_true rfl⟩ 20 rfl rfl rfl rfl rfl (Nat.le_of_ble_eq_true rfl) dL_act_1163 ⟨Nat.le_of_ble_eq_true rfl, Nat.le_of_ble_eq_true rfl⟩ rfl (fun v hv => ?_)
        obtain rfl := hv
        refine g_st (st' := [_]) rfl ?_
        refine g_topi (oC2.trans hn8B) ?_
        refine g_if_ne X dL_act_1166 1187 (by decide) rfl (fun h1166 => absurd rfl h1166) (fun h1166 => ?_)
        refine g_aload_n X dL_act_1169 rfl 11 rfl rfl ?_
        refine g_bipush (v := (7 : Int32)) X dL_act_1170 (by decide) rfl ?_
        refine g_callVRX (w0 := []) (n := 1) (As := [_]) (rest := []) X (c_X6_count l D a fB naB wB td vl L pt fl kd kpB (fqa pqB) (fqa ps) (tlW D pqB ps) mk 0 b hWB hNRB _) gL_act_X6_count rfl (by decide +kernel) ⟨Nat.le_of_ble_eq_true rfl, Nat.le_of_ble_eq_true rfl⟩ 20 rfl rfl rfl rfl rfl (Nat.le_of_ble_eq_true rfl) dL_act_1172 ⟨Nat.le_of_ble_eq_true rfl, Nat.le_of_ble_eq_true rfl⟩ rfl (fun v hv => ?_)
        obtain rfl := hv
        refine g_st (st' := [_]) rfl ?_
        refine g_topi (oC7) ?_
        refine g_topi ((show fB 81 = (fA 81 + nI b) from by rw [h81B, show (min n b) = b from by omega])) ?_
        refine g_iload X dL_act_1175 0 rfl rfl ?_
        refine g_iload X dL_act_1177 1 rfl rfl ?_
        refine g_iadd X dL_act_1179 rfl ?_
        refine g_icmp_ne X dL_act_1180 1187 (by decide) rfl (fun h1180 => absurd rfl h1180) (fun h1180 => ?_)
        refine g_iconst (v := (1 : Int32)) X dL_act_1183 (by decide) rfl ?_
        refine g_goto X dL_act_1184 1188 (by decide) ?_
        refine g_widen 112 2380 (Nat.le_of_ble_eq_true rfl) (Nat.le_of_ble_eq_true rfl) ?_
        refine g_retW X hr (by first | rfl | exact b2i_nar _) dL_act_1188 hAe ?_
        exact ⟨rfl, fB, naB, wB, td, vl, L, pt, fl, kd, kpB, pqB, ⟨⟨_, _, _, hWB⟩, ⟨_, hNRB, hn8B⟩, hFB, (SI_le (Nat.le_succ _) hSB), hL, hch, hkpB, _, hHLB⟩, hADB, rfl⟩
  · subst h9
    refine g_iload X dL_act_989 0 rfl rfl ?_
    refine g_if_ne X dL_act_991 1005 (by decide) rfl (fun h991 => ?_) (fun h991 => absurd h991 (by decide))
    refine g_iload X dL_act_1005 0 rfl rfl ?_
    refine g_iconst (v := (2 : Int32)) X dL_act_1007 (by decide) rfl ?_
    refine g_icmp_ne X dL_act_1008 1019 (by decide) rfl (fun h1008 => ?_) (fun h1008 => absurd h1008 (by decide))
    refine g_iload_n X dL_act_1019 rfl 8 rfl rfl ?_
    refine g_iconst (v := (2 : Int32)) X dL_act_1020 (by decide) rfl ?_
    refine g_callSR (n := 2) (As := [_, _]) (rest := []) X (c_L_up l D (y) 2 (by omega)) gL_act_L_up rfl (by decide +kernel) ⟨Nat.le_of_ble_eq_true rfl, Nat.le_of_ble_eq_true rfl⟩ [] rfl rfl rfl rfl (Nat.le_of_ble_eq_true rfl) dL_act_1021 ⟨Nat.le_of_ble_eq_true rfl, Nat.le_of_ble_eq_true rfl⟩ rfl (fun v hv => ?_)
    obtain rfl := hv
    refine g_st (st' := [_]) rfl ?_
    refine g_upn (by omega) (fun u1021 hu1021 eu1021 => ?_)
    refine g_istore X [(9, _), (8, _), (7, _), (6, _), (5, _), (4, _), (0, _), (1, _), (2, _), (3, _)] dL_act_1024 (by decide) rfl rfl ?_
    refine g_aload_n X dL_act_1026 rfl 6 rfl rfl ?_
    refine g_bipush (v := (9 : Int32)) X dL_act_1027 (by decide) rfl ?_
    refine g_iload X dL_act_1029 1 rfl rfl ?_
    refine g_iadd X dL_act_1031 rfl ?_
    refine g_topi (y := (12 : Int32)) (by decide) ?_
    refine g_callVRX (w0 := []) (n := 1) (As := [_]) (rest := []) X (c_X6_count l D a f na w td vl L pt fl kd kp (fqa pq) (fqa ps) (tlW D pq ps) mk n b hW hNR _) gL_act_X6_count rfl (by decide +kernel) ⟨Nat.le_of_ble_eq_true rfl, Nat.le_of_ble_eq_true rfl⟩ 20 rfl rfl rfl rfl rfl (Nat.le_of_ble_eq_true rfl) dL_act_1032 ⟨Nat.le_of_ble_eq_true rfl, Nat.le_of_ble_eq_true rfl⟩ rfl (fun v hv => ?_)
    obtain rfl := hv
    refine g_st (st' := [_]) rfl ?_
    refine g_topi (oC12) ?_
    refine g_istore X [(10, _), (9, _), (8, _), (7, _), (6, _), (5, _), (4, _), (0, _), (1, _), (2, _), (3, _)] dL_act_1035 (by decide) rfl rfl ?_
    refine g_aload_n X dL_act_1037 rfl 7 rfl rfl ?_
    refine g_iconst (v := (2 : Int32)) X dL_act_1038 (by decide) rfl ?_
    refine g_callVRX (w0 := []) (n := 1) (As := [_]) (rest := []) X (c_X6_count l D a f na w td vl L pt fl kd kp (fqa pq) (fqa ps) (tlW D pq ps) mk n b hW hNR _) gL_act_X6_count rfl (by decide +kernel) ⟨Nat.le_of_ble_eq_true rfl, Nat.le_of_ble_eq_true rfl⟩ 20 rfl rfl rfl rfl rfl (Nat.le_of_ble_eq_true rfl) dL_act_1039 ⟨Nat.le_of_ble_eq_true rfl, Nat.le_of_ble_eq_true rfl⟩ rfl (fun v hv => ?_)
    obtain rfl := hv
    refine g_st (st' := [_]) rfl ?_
    refine g_topi (oC2.trans hn8) ?_
    refine g_istore X [(11, _), (10, _), (9, _), (8, _), (7, _), (6, _), (5, _), (4, _), (0, _), (1, _), (2, _), (3, _)] dL_act_1042 (by decide) rfl rfl ?_
    refine g_aload_n X dL_act_1044 rfl 8 rfl rfl ?_
    refine g_bipush (v := (8 : Int32)) X dL_act_1045 (by decide) rfl ?_
    refine g_callVRX (w0 := []) (n := 1) (As := [_]) (rest := []) X (c_X6_count l D a f na w td vl L pt fl kd kp (fqa pq) (fqa ps) (tlW D pq ps) mk n b hW hNR _) gL_act_X6_count rfl (by decide +kernel) ⟨Nat.le_of_ble_eq_true rfl, Nat.le_of_ble_eq_true rfl⟩ 20 rfl rfl rfl rfl rfl (Nat.le_of_ble_eq_true rfl) dL_act_1047 ⟨Nat.le_of_ble_eq_true rfl, Nat.le_of_ble_eq_true rfl⟩ rfl (fun v hv => ?_)
    obtain rfl := hv
    refine g_st (st' := [_]) rfl ?_
    refine g_topi (oC8) ?_
    refine g_istore X [(12, _), (11, _), (10, _), (9, _), (8, _), (7, _), (6, _), (5, _), (4, _), (0, _), (1, _), (2, _), (3, _)] dL_act_1050 (by decide) rfl rfl ?_
    refine g_aload_n X dL_act_1052 rfl 9 rfl rfl ?_
    refine g_iload X dL_act_1053 4 rfl rfl ?_
    refine g_iload X dL_act_1055 3 rfl rfl ?_
    refine g_callVXs (n := 2) (As := [_, _]) (rest := []) X hAg rfl (c_X6_set l D a f na w td vl L pt fl kd kp pq ps mk n b hW hNR hF hkp hHL.hq _ _) gL_act_X6_set rfl (by decide +kernel) ⟨Nat.le_of_ble_eq_true rfl, Nat.le_of_ble_eq_true rfl⟩ 20 rfl rfl rfl rfl (Nat.le_of_ble_eq_true rfl) dL_act_1057 ⟨Nat.le_of_ble_eq_true rfl, Nat.le_of_ble_eq_true rfl⟩ rfl (fun v w9 hv => ?_)
    obtain ⟨rfl, fA, naA, wA, kpA, pqA, efA, hNA, hAA, hkpA, hHLA, ekA, rfl⟩ := ch_out hv hkp hHL hF ⟨_, hNR, hn8⟩
    have hADA := hAA
    refine ⟨hAA, ?_⟩
    refine g_st (st' := [_]) rfl ?_
    obtain ⟨hrx, hWA, hSA, hvA, h82A, h81A, -⟩ := set_chg (x := 3) (v := u1021) (b2 := b) hW hS (by omega) (by omega) (by omega) efA
    refine g_topi (hrx) ?_
    have hNRA := hNA.to hWA
    have hFA : FB fA := by rw [efA]; exact set_fb ⟨mk, n, b, hW⟩ hF
    obtain ⟨hmkA, hm40A, hn8A, hb0A, hb0A1, hb0A8, hn8Ab, hstA, hnoA, howA, hdoA, hb0Aa, hb0Ac, hb0Ad, hb0Az⟩ := id hWA
    have hm8A : (min n b) ≤ 8 := by omega
    obtain ⟨eN1A, eN2A, -⟩ := hWA.N
    refine g_iload X dL_act_1060 2 rfl rfl ?_
    refine g_icmp_ne X dL_act_1062 1079 (by decide) rfl (fun h1062 => absurd rfl h1062) (fun h1062 => ?_)
    refine g_aload_n X dL_act_1065 rfl 9 rfl rfl ?_
    refine g_bipush (v := (9 : Int32)) X dL_act_1066 (by decide) rfl ?_
    refine g_iload X dL_act_1068 4 rfl rfl ?_
    refine g_iadd X dL_act_1070 rfl ?_
    refine g_topi (y := (12 : Int32)) (by decide) ?_
    refine g_callVRX (w0 := []) (n := 1) (As := [_]) (rest := []) X (c_X6_count l D a fA naA wA td vl L pt fl kd kpA (fqa pqA) (fqa ps) (tlW D pqA ps) mk (min n b) b hWA hNRA _) gL_act_X6_count rfl (by decide +kernel) ⟨Nat.le_of_ble_eq_true rfl, Nat.le_of_ble_eq_true rfl⟩ 20 rfl rfl rfl rfl rfl (Nat.le_of_ble_eq_true rfl) dL_act_1071 ⟨Nat.le_of_ble_eq_true rfl, Nat.le_of_ble_eq_true rfl⟩ rfl (fun v hv => ?_)
    obtain rfl := hv
    refine g_st (st' := [_]) rfl ?_
    refine g_topi (oC12) ?_
    refine g_topi (hvA) ?_
    refine g_iload X dL_act_1074 3 rfl rfl ?_
    refine g_icmp_eq X dL_act_1076 1081 (by decide) rfl (fun h1076 => ?_) (fun h1076 => absurd rfl h1076)
    refine g_iload X dL_act_1081 1 rfl rfl ?_
    refine g_aload_n X dL_act_1083 rfl 9 rfl rfl ?_
    refine g_bipush (v := (9 : Int32)) X dL_act_1084 (by decide) rfl ?_
    refine g_callVRX (w0 := []) (n := 1) (As := [_]) (rest := [_]) X (c_X6_count l D a fA naA wA td vl L pt fl kd kpA (fqa pqA) (fqa ps) (tlW D pqA ps) mk (min n b) b hWA hNRA _) gL_act_X6_count rfl (by decide +kernel) ⟨Nat.le_of_ble_eq_true rfl, Nat.le_of_ble_eq_true rfl⟩ 20 rfl rfl rfl rfl rfl (Nat.le_of_ble_eq_true rfl) dL_act_1086 ⟨Nat.le_of_ble_eq_true rfl, Nat.le_of_ble_eq_true rfl⟩ rfl (fun v hv => ?_)
    obtain rfl := hv
    refine g_st (st' := [_, _]) rfl ?_
    refine g_topi (oC9.trans hb0A) ?_
    refine g_icmp_le X dL_act_1089 1101 (by decide) rfl (fun h1089 => ?_) (fun h1089 => ?_)
    · have i1089 := nj_le (a := n) (b := b) (by omega) (by omega) h1089
      refine g_iload X dL_act_1101 1 rfl rfl ?_
      refine g_istore X [(13, _), (12, _), (11, _), (10, _), (9, _), (8, _), (7, _), (6, _), (5, _), (4, _), (0, _), (1, _), (2, _), (3, _)] dL_act_1103 (by decide) rfl rfl ?_
      refine g_aload_n X dL_act_1105 rfl 10 rfl rfl ?_
      refine g_iconst (v := (2 : Int32)) X dL_act_1106 (by decide) rfl ?_
      refine g_callVRX (w0 := []) (n := 1) (As := [_]) (rest := []) X (c_X6_count l D a fA naA wA td vl L pt fl kd kpA (fqa pqA) (fqa ps) (tlW D pqA ps) mk (min n b) b hWA hNRA _) gL_act_X6_count rfl (by decide +kernel) ⟨Nat.le_of_ble_eq_true rfl, Nat.le_of_ble_eq_true rfl⟩ 20 rfl rfl rfl rfl rfl (Nat.le_of_ble_eq_true rfl) dL_act_1107 ⟨Nat.le_of_ble_eq_true rfl, Nat.le_of_ble_eq_true rfl⟩ rfl (fun v hv => ?_)
      obtain rfl := hv
      refine g_st (st' := [_]) rfl ?_
      refine g_topi (oC2.trans hn8A) ?_
      refine g_iload X dL_act_1110 0 rfl rfl ?_
      refine g_icmp_ne X dL_act_1112 1132 (by decide) rfl (fun h1112 => absurd (nj_ne (a := (min n b)) (b := n) (by omega) (by omega) h1112) (by omega)) (fun h1112 => ?_)
      have i1112 := nj_eq (a := (min n b)) (b := n) (by omega) (by omega) h1112
      refine g_aload_n X dL_act_1115 rfl 10 rfl rfl ?_
      refine g_bipush (v := (8 : Int32)) X dL_act_1116 (by decide) rfl ?_
      refine g_callVRX (w0 := []) (n := 1) (As := [_]) (rest := []) X (c_X6_count l D a fA naA wA td vl L pt fl kd kpA (fqa pqA) (fqa ps) (tlW D pqA ps) mk (min n b) b hWA hNRA _) gL_act_X6_count rfl (by decide +kernel) ⟨Nat.le_of_ble_eq_true rfl, Nat.le_of_ble_eq_true rfl⟩ 20 rfl rfl rfl rfl rfl (Nat.le_of_ble_eq_true rfl) dL_act_1118 ⟨Nat.le_of_ble_eq_true rfl, Nat.le_of_ble_eq_true rfl⟩ rfl (fun v hv => ?_)
      obtain rfl := hv
      refine g_st (st' := [_]) rfl ?_
      refine g_topi (oC8) ?_
      refine g_iload X dL_act_1121 1 rfl rfl ?_
      refine g_iload X dL_act_1123 2 rfl rfl ?_
      refine g_iadd X dL_act_1125 rfl ?_
      refine g_iload X dL_act_1126 0 rfl rfl ?_
      refine g_isub X dL_act_1128 rfl ?_
      refine g_icmp_eq X dL_act_1129 1134 (by decide) rfl (fun h1129 => ?_) (fun h1129 => absurd (h82A.trans (st_82 (by omega))) h1129)
      refine g_aload_n X dL_act_1134 rfl 10 rfl rfl ?_
      refine g_bipush (v := (7 : Int32)) X dL_act_1135 (by decide) rfl ?_
      refine g_callVRX (w0 := []) (n := 1) (As := [_]) (rest := []) X (c_X6_count l D a fA naA wA td vl L pt fl kd kpA (fqa pqA) (fqa ps) (tlW D pqA ps) mk (min n b) b hWA hNRA _) gL_act_X6_count rfl (by decide +kernel) ⟨Nat.le_of_ble_eq_true rfl, Nat.le_of_ble_eq_true rfl⟩ 20 rfl rfl rfl rfl rfl (Nat.le_of_ble_eq_true rfl) dL_act_1137 ⟨Nat.le_of_ble_eq_true rfl, Nat.le_of_ble_eq_true rfl⟩ rfl (fun v hv => ?_)
      obtain rfl := hv
      refine g_st (st' := [_]) rfl ?_
      refine g_topi (oC7) ?_
      refine g_istore X [(14, _), (13, _), (12, _), (11, _), (10, _), (9, _), (8, _), (7, _), (6, _), (5, _), (4, _), (0, _), (1, _), (2, _), (3, _)] dL_act_1140 (by decide) rfl rfl ?_
      refine g_iload_n X dL_act_1142 rfl 14 rfl rfl ?_
      refine g_iconst (v := (5 : Int32)) X dL_act_1143 (by decide) rfl ?_
      refine g_ishr X dL_act_1144 rfl ?_
      refine g_iconst (v := (3 : Int32)) X dL_act_1145 (by decide) rfl ?_
      refine g_callSR (n := 2) (As := [_, _]) (rest := []) X (c_L_up l D ((y >>> ((5 : Int32) &&& 31))) 3 (by omega)) gL_act_L_up rfl (by decide +kernel) ⟨Nat.le_of_ble_eq_true rfl, Nat.le_of_ble_eq_true rfl⟩ [] rfl rfl rfl rfl (Nat.le_of_ble_eq_true rfl) dL_act_1146 ⟨Nat.le_of_ble_eq_true rfl, Nat.le_of_ble_eq_true rfl⟩ rfl (fun v hv => ?_)
      obtain rfl := hv
      refine g_st (st' := [_]) rfl ?_
      refine g_upn (by omega) (fun u1146 hu1146 eu1146 => ?_)
      refine g_if_gt X dL_act_1149 1183 (by decide) rfl (fun h1149 => ?_) (fun h1149 => ?_)
      · have i1149 := nj_lt (a := 0) (b := u1146) (by omega) (by omega) h1149
        refine g_iconst (v := (1 : Int32)) X dL_act_1183 (by decide) rfl ?_
        refine g_goto X dL_act_1184 1188 (by decide) ?_
        refine g_widen 112 2380 (Nat.le_of_ble_eq_true rfl) (Nat.le_of_ble_eq_true rfl) ?_
        refine g_retW X hr (by first | rfl | exact b2i_nar _) dL_act_1188 hAe ?_
        exact ⟨rfl, fA, naA, wA, td, vl, L, pt, fl, kd, kpA, pqA, ⟨⟨_, _, _, hWA⟩, ⟨_, hNRA, hn8A⟩, hFA, (SI_le (Nat.le_succ _) hSA), hL, hch, hkpA, _, hHLA⟩, hADA, rfl⟩
      · have i1149 := nj_nlt (a := 0) (b := u1146) (by omega) (by omega) h1149
        refine g_aload_n X dL_act_1152 rfl 11 rfl rfl ?_
        refine g_callVXs (n := 0) (As := []) (rest := []) X hAg rfl (c_X6_flush l D a fA naA wA td vl L pt fl kd kpA pqA ps mk (min n b) b hWA hNRA hFA hkpA hHLA.hq ) gL_act_X6_flush rfl (by decide +kernel) ⟨Nat.le_of_ble_eq_true rfl, Nat.le_of_ble_eq_true rfl⟩ 20 rfl rfl rfl rfl (Nat.le_of_ble_eq_true rfl) dL_act_1153 ⟨Nat.le_of_ble_eq_true rfl, Nat.le_of_ble_eq_true rfl⟩ rfl (fun v w9 hv => ?_)
        obtain ⟨rfl, fB, naB, wB, kpB, pqB, efB, hNB, hAB, hkpB, hHLB, ekB, rfl⟩ := ch_out hv hkpA hHLA hFA ⟨_, hNRA, hn8A⟩
        have hADB := hAB.trans hADA
        refine ⟨hAB, ?_⟩
        refine g_st (st' := [_]) rfl ?_
        obtain ⟨hrxB, hWB, hSB, h81B⟩ := flush_chg hWA hSA efB
        refine g_topi (hrxB) ?_
        have hNRB := hNB.to hWB
        have hFB : FB fB := by rw [efB]; exact flush_fb hFA
        obtain ⟨hmkB, hm40B, hn8B, hb0B, hb0B1, hb0B8, hn8Bb, hstB, hnoB, howB, hdoB, hb0Ba, hb0Bc, hb0Bd, hb0Bz⟩ := id hWB
        have hm8B : 0 ≤ 8 := by omega
        obtain ⟨eN1B, eN2B, -⟩ := hWB.N
        refine g_iload X dL_act_1156 1 rfl rfl ?_
        refine g_icmp_ne X dL_act_1158 1187 (by decide) rfl (fun h1158 => absurd (nj_ne (a := (min n b)) (b := n) (by omega) (by omega) h1158) (by omega)) (fun h1158 => ?_)
        have i1158 := nj_eq (a := (min n b)) (b := n) (by omega) (by omega) h1158
        refine g_aload_n X dL_act_1161 rfl 11 rfl rfl ?_
        refine g_iconst (v := (2 : Int32)) X dL_act_1162 (by decide) rfl ?_
        refine g_callVRX (w0 := []) (n := 1) (As := [_]) (rest := []) X (c_X6_count l D a fB naB wB td vl L pt fl kd kpB (fqa pqB) (fqa ps) (tlW D pqB ps) mk 0 b hWB hNRB _) gL_act_X6_count rfl (by decide +kernel) ⟨Nat.le_of_ble_eq_true rfl, Nat.le_of_ble_eq_true rfl⟩ 20 rfl rfl rfl rfl rfl (Nat.le_of_ble_eq_true rfl) dL_act_1163 ⟨Nat.le_of_ble_eq_true rfl, Nat.le_of_ble_eq_true rfl⟩ rfl (fun v hv => ?_)
        obtain rfl := hv
        refine g_st (st' := [_]) rfl ?_
        refine g_topi (oC2.trans hn8B) ?_
        refine g_if_ne X dL_act_1166 1187 (by decide) rfl (fun h1166 => absurd rfl h1166) (fun h1166 => ?_)
        refine g_aload_n X dL_act_1169 rfl 11 rfl rfl ?_
        refine g_bipush (v := (7 : Int32)) X dL_act_1170 (by decide) rfl ?_
        refine g_callVRX (w0 := []) (n := 1) (As := [_]) (rest := []) X (c_X6_count l D a fB naB wB td vl L pt fl kd kpB (fqa pqB) (fqa ps) (tlW D pqB ps) mk 0 b hWB hNRB _) gL_act_X6_count rfl (by decide +kernel) ⟨Nat.le_of_ble_eq_true rfl, Nat.le_of_ble_eq_true rfl⟩ 20 rfl rfl rfl rfl rfl (Nat.le_of_ble_eq_true rfl) dL_act_1172 ⟨Nat.le_of_ble_eq_true rfl, Nat.le_of_ble_eq_true rfl⟩ rfl (fun v hv => ?_)
        obtain rfl := hv
        refine g_st (st' := [_]) rfl ?_
        refine g_topi (oC7) ?_
        refine g_topi ((show fB 81 = (fA 81 + nI n) from by rw [h81B, show (min n b) = n from by omega])) ?_
        refine g_iload X dL_act_1175 0 rfl rfl ?_
        refine g_iload X dL_act_1177 1 rfl rfl ?_
        refine g_iadd X dL_act_1179 rfl ?_
        refine g_icmp_ne X dL_act_1180 1187 (by decide) rfl (fun h1180 => absurd rfl h1180) (fun h1180 => ?_)
        refine g_iconst (v := (1 : Int32)) X dL_act_1183 (by decide) rfl ?_
        refine g_goto X dL_act_1184 1188 (by decide) ?_
        refine g_widen 112 2380 (Nat.le_of_ble_eq_true rfl) (Nat.le_of_ble_eq_true rfl) ?_
        refine g_retW X hr (by first | rfl | exact b2i_nar _) dL_act_1188 hAe ?_
        exact ⟨rfl, fB, naB, wB, td, vl, L, pt, fl, kd, kpB, pqB, ⟨⟨_, _, _, hWB⟩, ⟨_, hNRB, hn8B⟩, hFB, (SI_le (Nat.le_succ _) hSB), hL, hch, hkpB, _, hHLB⟩, hADB, rfl⟩
    · have i1089 := nj_nle (a := n) (b := b) (by omega) (by omega) h1089
      refine g_aload_n X dL_act_1092 rfl 9 rfl rfl ?_
      refine g_bipush (v := (9 : Int32)) X dL_act_1093 (by decide) rfl ?_
      refine g_callVRX (w0 := []) (n := 1) (As := [_]) (rest := []) X (c_X6_count l D a fA naA wA td vl L pt fl kd kpA (fqa pqA) (fqa ps) (tlW D pqA ps) mk (min n b) b hWA hNRA _) gL_act_X6_count rfl (by decide +kernel) ⟨Nat.le_of_ble_eq_true rfl, Nat.le_of_ble_eq_true rfl⟩ 20 rfl rfl rfl rfl rfl (Nat.le_of_ble_eq_true rfl) dL_act_1095 ⟨Nat.le_of_ble_eq_true rfl, Nat.le_of_ble_eq_true rfl⟩ rfl (fun v hv => ?_)
      obtain rfl := hv
      refine g_st (st' := [_]) rfl ?_
      refine g_topi (oC9.trans hb0A) ?_
      refine g_goto X dL_act_1098 1103 (by decide) ?_
      refine g_istore X [(13, _), (12, _), (11, _), (10, _), (9, _), (8, _), (7, _), (6, _), (5, _), (4, _), (0, _), (1, _), (2, _), (3, _)] dL_act_1103 (by decide) rfl rfl ?_
      refine g_aload_n X dL_act_1105 rfl 10 rfl rfl ?_
      refine g_iconst (v := (2 : Int32)) X dL_act_1106 (by decide) rfl ?_
      refine g_callVRX (w0 := []) (n := 1) (As := [_]) (rest := []) X (c_X6_count l D a fA naA wA td vl L pt fl kd kpA (fqa pqA) (fqa ps) (tlW D pqA ps) mk (min n b) b hWA hNRA _) gL_act_X6_count rfl (by decide +kernel) ⟨Nat.le_of_ble_eq_true rfl, Nat.le_of_ble_eq_true rfl⟩ 20 rfl rfl rfl rfl rfl (Nat.le_of_ble_eq_true rfl) dL_act_1107 ⟨Nat.le_of_ble_eq_true rfl, Nat.le_of_ble_eq_true rfl⟩ rfl (fun v hv => ?_)
      obtain rfl := hv
      refine g_st (st' := [_]) rfl ?_
      refine g_topi (oC2.trans hn8A) ?_
      refine g_iload X dL_act_1110 0 rfl rfl ?_
      refine g_icmp_ne X dL_act_1112 1132 (by decide) rfl (fun h1112 => absurd (nj_ne (a := (min n b)) (b := b) (by omega) (by omega) h1112) (by omega)) (fun h1112 => ?_)
      have i1112 := nj_eq (a := (min n b)) (b := b) (by omega) (by omega) h1112
      refine g_aload_n X dL_act_1115 rfl 10 rfl rfl ?_
      refine g_bipush (v := (8 : Int32)) X dL_act_1116 (by decide) rfl ?_
      refine g_callVRX (w0 := []) (n := 1) (As := [_]) (rest := []) X (c_X6_count l D a fA naA wA td vl L pt fl kd kpA (fqa pqA) (fqa ps) (tlW D pqA ps) mk (min n b) b hWA hNRA _) gL_act_X6_count rfl (by decide +kernel) ⟨Nat.le_of_ble_eq_true rfl, Nat.le_of_ble_eq_true rfl⟩ 20 rfl rfl rfl rfl rfl (Nat.le_of_ble_eq_true rfl) dL_act_1118 ⟨Nat.le_of_ble_eq_true rfl, Nat.le_of_ble_eq_true rfl⟩ rfl (fun v hv => ?_)
      obtain rfl := hv
      refine g_st (st' := [_]) rfl ?_
      refine g_topi (oC8) ?_
      refine g_iload X dL_act_1121 1 rfl rfl ?_
      refine g_iload X dL_act_1123 2 rfl rfl ?_
      refine g_iadd X dL_act_1125 rfl ?_
      refine g_iload X dL_act_1126 0 rfl rfl ?_
      refine g_isub X dL_act_1128 rfl ?_
      refine g_icmp_eq X dL_act_1129 1134 (by decide) rfl (fun h1129 => ?_) (fun h1129 => absurd (h82A.trans (st_82 (by omega))) h1129)
      refine g_aload_n X dL_act_1134 rfl 10 rfl rfl ?_
      refine g_bipush (v := (7 : Int32)) X dL_act_1135 (by decide) rfl ?_
      refine g_callVRX (w0 := []) (n := 1) (As := [_]) (rest := []) X (c_X6_count l D a fA naA wA td vl L pt fl kd kpA (fqa pqA) (fqa ps) (tlW D pqA ps) mk (min n b) b hWA hNRA _) gL_act_X6_count rfl (by decide +kernel) ⟨Nat.le_of_ble_eq_true rfl, Nat.le_of_ble_eq_true rfl⟩ 20 rfl rfl rfl rfl rfl (Nat.le_of_ble_eq_true rfl) dL_act_1137 ⟨Nat.le_of_ble_eq_true rfl, Nat.le_of_ble_eq_true rfl⟩ rfl (fun v hv => ?_)
      obtain rfl := hv
      refine g_st (st' := [_]) rfl ?_
      refine g_topi (oC7) ?_
      refine g_istore X [(14, _), (13, _), (12, _), (11, _), (10, _), (9, _), (8, _), (7, _), (6, _), (5, _), (4, _), (0, _), (1, _), (2, _), (3, _)] dL_act_1140 (by decide) rfl rfl ?_
      refine g_iload_n X dL_act_1142 rfl 14 rfl rfl ?_
      refine g_iconst (v := (5 : Int32)) X dL_act_1143 (by decide) rfl ?_
      refine g_ishr X dL_act_1144 rfl ?_
      refine g_iconst (v := (3 : Int32)) X dL_act_1145 (by decide) rfl ?_
      refine g_callSR (n := 2) (As := [_, _]) (rest := []) X (c_L_up l D ((y >>> ((5 : Int32) &&& 31))) 3 (by omega)) gL_act_L_up rfl (by decide +kernel) ⟨Nat.le_of_ble_eq_true rfl, Nat.le_of_ble_eq_true rfl⟩ [] rfl rfl rfl rfl (Nat.le_of_ble_eq_true rfl) dL_act_1146 ⟨Nat.le_of_ble_eq_true rfl, Nat.le_of_ble_eq_true rfl⟩ rfl (fun v hv => ?_)
      obtain rfl := hv
      refine g_st (st' := [_]) rfl ?_
      refine g_upn (by omega) (fun u1146 hu1146 eu1146 => ?_)
      refine g_if_gt X dL_act_1149 1183 (by decide) rfl (fun h1149 => ?_) (fun h1149 => ?_)
      · have i1149 := nj_lt (a := 0) (b := u1146) (by omega) (by omega) h1149
        refine g_iconst (v := (1 : Int32)) X dL_act_1183 (by decide) rfl ?_
        refine g_goto X dL_act_1184 1188 (by decide) ?_
        refine g_widen 112 2380 (Nat.le_of_ble_eq_true rfl) (Nat.le_of_ble_eq_true rfl) ?_
        refine g_retW X hr (by first | rfl | exact b2i_nar _) dL_act_1188 hAe ?_
        exact ⟨rfl, fA, naA, wA, td, vl, L, pt, fl, kd, kpA, pqA, ⟨⟨_, _, _, hWA⟩, ⟨_, hNRA, hn8A⟩, hFA, (SI_le (Nat.le_succ _) hSA), hL, hch, hkpA, _, hHLA⟩, hADA, rfl⟩
      · have i1149 := nj_nlt (a := 0) (b := u1146) (by omega) (by omega) h1149
        refine g_aload_n X dL_act_1152 rfl 11 rfl rfl ?_
        refine g_callVXs (n := 0) (As := []) (rest := []) X hAg rfl (c_X6_flush l D a fA naA wA td vl L pt fl kd kpA pqA ps mk (min n b) b hWA hNRA hFA hkpA hHLA.hq ) gL_act_X6_flush rfl (by decide +kernel) ⟨Nat.le_of_ble_eq_true rfl, Nat.le_of_ble_eq_true rfl⟩ 20 rfl rfl rfl rfl (Nat.le_of_ble_eq_true rfl) dL_act_1153 ⟨Nat.le_of_ble_eq_true rfl, Nat.le_of_ble_eq_true rfl⟩ rfl (fun v w9 hv => ?_)
        obtain ⟨rfl, fB, naB, wB, kpB, pqB, efB, hNB, hAB, hkpB, hHLB, ekB, rfl⟩ := ch_out hv hkpA hHLA hFA ⟨_, hNRA, hn8A⟩
        have hADB := hAB.trans hADA
        refine ⟨hAB, ?_⟩
        refine g_st (st' := [_]) rfl ?_
        obtain ⟨hrxB, hWB, hSB, h81B⟩ := flush_chg hWA hSA efB
        refine g_topi (hrxB) ?_
        have hNRB := hNB.to hWB
        have hFB : FB fB := by rw [efB]; exact flush_fb hFA
        obtain ⟨hmkB, hm40B, hn8B, hb0B, hb0B1, hb0B8, hn8Bb, hstB, hnoB, howB, hdoB, hb0Ba, hb0Bc, hb0Bd, hb0Bz⟩ := id hWB
        have hm8B : 0 ≤ 8 := by omega
        obtain ⟨eN1B, eN2B, -⟩ := hWB.N
        refine g_iload X dL_act_1156 1 rfl rfl ?_
        refine g_icmp_ne X dL_act_1158 1187 (by decide) rfl (fun h1158 => absurd (nj_ne (a := (min n b)) (b := b) (by omega) (by omega) h1158) (by omega)) (fun h1158 => ?_)
        have i1158 := nj_eq (a := (min n b)) (b := b) (by omega) (by omega) h1158
        refine g_aload_n X dL_act_1161 rfl 11 rfl rfl ?_
        refine g_iconst (v := (2 : Int32)) X dL_act_1162 (by decide) rfl ?_
        refine g_callVRX (w0 := []) (n := 1) (As := [_]) (rest := []) X (c_X6_count l D a fB naB wB td vl L pt fl kd kpB (fqa pqB) (fqa ps) (tlW D pqB ps) mk 0 b hWB hNRB _) gL_act_X6_count rfl (by decide +kernel) ⟨Nat.le_of_ble_eq_true rfl, Nat.le_of_ble_eq_true rfl⟩ 20 rfl rfl rfl rfl rfl (Nat.le_of_ble_eq_true rfl) dL_act_1163 ⟨Nat.le_of_ble_eq_true rfl, Nat.le_of_ble_eq_true rfl⟩ rfl (fun v hv => ?_)
        obtain rfl := hv
        refine g_st (st' := [_]) rfl ?_
        refine g_topi (oC2.trans hn8B) ?_
        refine g_if_ne X dL_act_1166 1187 (by decide) rfl (fun h1166 => absurd rfl h1166) (fun h1166 => ?_)
        refine g_aload_n X dL_act_1169 rfl 11 rfl rfl ?_
        refine g_bipush (v := (7 : Int32)) X dL_act_1170 (by decide) rfl ?_
        refine g_callVRX (w0 := []) (n := 1) (As := [_]) (rest := []) X (c_X6_count l D a fB naB wB td vl L pt fl kd kpB (fqa pqB) (fqa ps) (tlW D pqB ps) mk 0 b hWB hNRB _) gL_act_X6_count rfl (by decide +kernel) ⟨Nat.le_of_ble_eq_true rfl, Nat.le_of_ble_eq_true rfl⟩ 20 rfl rfl rfl rfl rfl (Nat.le_of_ble_eq_true rfl) dL_act_1172 ⟨Nat.le_of_ble_eq_true rfl, Nat.le_of_ble_eq_true rfl⟩ rfl (fun v hv => ?_)
        obtain rfl := hv
        refine g_st (st' := [_]) rfl ?_
        refine g_topi (oC7) ?_
        refine g_topi ((show fB 81 = (fA 81 + nI b) from by rw [h81B, show (min n b) = b from by omega])) ?_
        refine g_iload X dL_act_1175 0 rfl rfl ?_
        refine g_iload X dL_act_1177 1 rfl rfl ?_
        refine g_iadd X dL_act_1179 rfl ?_
        refine g_icmp_ne X dL_act_1180 1187 (by decide) rfl (fun h1180 => absurd rfl h1180) (fun h1180 => ?_)
        refine g_iconst (v := (1 : Int32)) X dL_act_1183 (by decide) rfl ?_
        refine g_goto X dL_act_1184 1188 (by decide) ?_
        refine g_widen 112 2380 (Nat.le_of_ble_eq_true rfl) (Nat.le_of_ble_eq_true rfl) ?_
        refine g_retW X hr (by first | rfl | exact b2i_nar _) dL_act_1188 hAe ?_
        exact ⟨rfl, fB, naB, wB, td, vl, L, pt, fl, kd, kpB, pqB, ⟨⟨_, _, _, hWB⟩, ⟨_, hNRB, hn8B⟩, hFB, (SI_le (Nat.le_succ _) hSB), hL, hch, hkpB, _, hHLB⟩, hADB, rfl⟩
